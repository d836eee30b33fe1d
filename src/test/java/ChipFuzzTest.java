/** Definitions made up by a fixed sequence of numbers: the chip does what the system does. */
public final class ChipFuzzTest {
  private static final String[] WORDS = (
      "DUP DROP SWAP OVER ROT -ROT NIP TUCK ?DUP 2DUP 2DROP 2SWAP 2OVER PICK ROLL DEPTH "
      + ">R R> R@ 2>R 2R> + - * / MOD /MOD */ */MOD 1+ 1- 2* 2/ NEGATE ABS MIN MAX UM* UM/MOD M* "
      + "SM/REM FM/MOD S>D D+ DNEGATE = <> < > U< 0= 0<> 0< 0> AND OR XOR INVERT LSHIFT RSHIFT WITHIN "
      + "TRUE FALSE ALIGNED CELL+ CELLS CHAR+ CHARS I J UNLOOP EXIT").split(" ");
  private static final String[] PHRASES = {
    "IF 3 ELSE DUP THEN", "IF 2 THEN", "5 0 DO I LOOP", "9 0 DO I 2 +LOOP", "0 ?DO 1 LOOP", "2 0 DO 2 0 DO I J LOOP LOOP",
    "4 0 DO I 2 = IF LEAVE THEN 7 LOOP", "CASE 1 OF 10 ENDOF 2 OF 20 ENDOF DUP ENDCASE",
    "BEGIN DUP 0> WHILE 1- REPEAT", "BEGIN 1- DUP 0< UNTIL", "v @", "v !", "1 v +!", "v 2@", "v C@", "w COUNT", "w", "k",
    "x", "x y", "5 TO x", "TO y", ">R R@ R>", "2>R 2R>", "1 >R R> DROP", "BEGIN 1 AGAIN", "a", "b", "c",
    "3 0 DO I LOOP DROP DROP DROP", "w 4 65 FILL", "w v 3 MOVE", "7 k !", "8 7 6 v 2!"};
  private long seed;

  private ChipFuzzTest(long seed) {
    this.seed = seed;
  }

  public static void main(String[] args) {
    int runs = args.length > 0 ? Integer.parseInt(args[0]) : 1500;
    Bench b = new Bench("the chip does what the system does");
    for (long i = 1; i <= runs; i++) new ChipFuzzTest(i).compare(b, i);
    b.end();
    Bench.exit();
  }

  private int next(int n) {
    seed = seed * 6364136223846793005L + 1442695040888963407L;
    return (int) ((seed >>> 33) % n);
  }

  private String definition(String name, int callable) {
    StringBuilder t = new StringBuilder(": " + name + " {: x | y :} ");
    for (int i = 2 + next(8); i > 0; i--) {
      int kind = next(10);
      String word = kind < 4 ? WORDS[next(WORDS.length)] : PHRASES[next(PHRASES.length)];
      if (kind > 7) word = "" + (next(300) - 20);
      boolean later = word.length() == 1 && word.charAt(0) >= 'a' && word.charAt(0) < 'w' && word.charAt(0) - 'a' >= callable;
      t.append(later || word.equals("k") && callable == 0 ? "DUP" : word).append(' ');
    }
    return t.append("; ").toString();
  }

  private void compare(Bench b, long run) {
    Bench h = new Bench("", 2 + next(3), next(8));
    String text = "VARIABLE v 9 ALLOT CREATE w 16 ALLOT 1000 CONSTANT k "
        + definition("a", 0) + definition("b", 1) + definition("c", 2);
    b.due("run " + run + " making " + text, h.run(text), 0);
    int token = h.find("c");
    String all = "run " + run + ": " + text;
    b.due(all + " is made", h.house.chip(0, token) > 0, true);
    StringBuilder before = new StringBuilder();
    int inputs = next(9);
    for (int i = 0; i < inputs; i++) {
      int v = next(40) - 5;
      h.house.chipPut(v);
      before.append(v).append(' ');
    }
    b.due(all + " cells put", h.run(before.toString()), 0);
    int steps = h.house.count(0, 4);
    int system = h.run("c");
    int chip = h.house.chipGo(19999);
    b.due(all + " ended", chip, system);
    b.due(all + " code", h.house.chipTold(4), chip == -2 ? h.house.thrown(0, 0) : 0);
    if (chip == -2) return;
    // The system has the word itself and the end of its text as steps of its own.
    b.due(all + " steps", h.house.chipTold(5), h.house.count(0, 4) - steps - (chip == 0 ? 2 : 1));
    b.due(all + " cells", h.house.chipTold(1), h.house.depth(0, 0, 0));
    for (int i = 0; i < h.house.chipTold(1); i++) b.due(all + " cell " + i, h.house.chipCell(i), h.house.cell(0, 0, 0, i));
    for (int at = 256; at < 300; at++) b.due(all + " byte " + at, h.house.chipByte(at), h.house.fetch(0, at, 1));
  }
}
