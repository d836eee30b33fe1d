/** Runs made up by a fixed sequence of numbers: nothing ever throws, and answers agree. */
public final class FuzzTest {
  private static final String WORDS =
      "DUP DROP SWAP OVER ROT -ROT NIP TUCK ?DUP 2DUP 2DROP 2SWAP 2OVER PICK ROLL DEPTH "
      + ">R R> R@ 2>R 2R> + - * / MOD /MOD */ */MOD 1+ 1- 2* 2/ NEGATE ABS MIN MAX UM* UM/MOD M* "
      + "SM/REM FM/MOD S>D D+ DNEGATE = <> < > U< 0= 0<> 0< 0> AND OR XOR INVERT LSHIFT RSHIFT WITHIN "
      + "TRUE FALSE ! @ C! C@ +! 2! 2@ HERE ALLOT , C, ALIGN ALIGNED CELL+ CELLS CHAR+ CHARS FILL MOVE "
      + "COUNT . U. EMIT CR SPACE SPACES TYPE <# # #S #> HOLD SIGN BASE DECIMAL HEX >IN : ; :NONAME "
      + "CONSTANT VARIABLE VALUE CREATE DEFER MARKER IMMEDIATE ' ['] CHAR [CHAR] [ ] LITERAL POSTPONE "
      + "RECURSE TO IS DOES> EXECUTE >BODY EVALUATE S\" .\" ABORT\" ( \\ {: [: ;] IF ELSE THEN BEGIN "
      + "UNTIL WHILE REPEAT AGAIN AHEAD DO ?DO LOOP +LOOP LEAVE I J UNLOOP EXIT CASE OF ENDOF ENDCASE "
      + "CATCH THROW ABORT WORDLIST >ORDER PREVIOUS DEFINITIONS ONLY TASK PAUSE STOP SEND RECEIVE LOAD "
      + "T{ -> }T";
  private static final String[] ALL = WORDS.split(" ");
  private static final String[] PHRASES = {
    ": a", ";", "a", "b", ": b", "VARIABLE c", "c", "5 VALUE d", "d", "TO d", "DEFER e", "' a IS e", "e",
    "CREATE f", "f", "DOES> @", "IF", "THEN", "BEGIN WHILE REPEAT", "5 0 DO I LOOP", "0 ?DO LEAVE LOOP",
    "CASE 1 OF 2 ENDOF ENDCASE", "{: x y | z -- w :}", "x", "TO y", "z", "[: 1 ;] EXECUTE", "' a CATCH",
    "['] b CATCH", "S\" 1 2 a\" EVALUATE", "S\" a b\" TYPE", "MARKER m", "m", "' a TASK", "PAUSE",
    "1 1 SEND", "1 0 SEND", "RECEIVE", "1 LOAD", "T{ 1 -> 1 }T", "WORDLIST >ORDER DEFINITIONS", "ONLY",
    "0", "1", "-1", "172", "173", "174", "150", "147", "2147483647", "4000", "4096", "256", "'x'", "1.",
    "10 BASE !", "[ 173 EXECUTE ]", "POSTPONE a", "RECURSE", "IMMEDIATE", "172 EXECUTE", "173 TASK DROP",
    "DUP DROP", "1 2 +", "SWAP SWAP", "LITERAL", "1 THROW", "' DUP CATCH", "2 3 2 0 DO J LOOP"};
  private long seed;

  private FuzzTest(long seed) {
    this.seed = seed;
  }

  public static void main(String[] args) {
    int runs = args.length > 0 ? Integer.parseInt(args[0]) : 300;
    long first = args.length > 1 ? Long.parseLong(args[1]) : 1;
    Bench any = new Bench("fuzz, any calls");
    Bench steps = new Bench("fuzz, steps at once and one by one");
    for (long i = first; i < first + runs; i++) {
      try {
        new FuzzTest(i).anyCalls();
      } catch (RuntimeException e) {
        e.printStackTrace(System.out);
        any.due("run " + i + " threw " + e, 1, 0);
      }
      try {
        new FuzzTest(i).stepByStep(steps, i);
      } catch (RuntimeException e) {
        e.printStackTrace(System.out);
        steps.due("run " + i + " threw " + e, 1, 0);
      }
    }
    any.end();
    steps.end();
    Bench.exit();
  }

  private int next(int n) {
    seed = seed * 6364136223846793005L + 1442695040888963407L;
    return (int) ((seed >>> 33) % n);
  }

  private int edge() {
    int[] edges = {-1, 0, 1, 2, 3, 4, 5, 7, 8, 150, 172, 173, 174, 255, 359, 360, 511, 512, 3999, 4095, 4096,
      20000, 20001, 2147483647, -2147483648};
    return next(3) == 0 ? edges[next(edges.length)] : next(6);
  }

  private String text(int n) {
    StringBuilder t = new StringBuilder();
    for (int i = 0; i < n; i++) {
      int kind = next(10);
      if (kind < 4) t.append(ALL[next(ALL.length)]);
      else if (kind < 9) t.append(PHRASES[next(PHRASES.length)]);
      else t.append(next(400) - 20);
      t.append(next(20) == 0 ? "\n" : " ");
    }
    return t.toString();
  }

  private static void type(ForthHouse h, String text) {
    for (int i = 0; i < text.length(); i++) h.type(text.charAt(i), 1);
  }

  private void anyCalls() {
    ForthHouse h = new ForthHouse();
    h.system(2 + next(3), next(8));
    for (int i = 0; i < 300; i++) {
      switch (next(34)) {
        case 0: h.type(((long) edge() << 32) ^ edge(), edge()); break;
        case 1: h.wipe(); break;
        case 2: h.system(edge(), edge()); break;
        case 3: h.go(next(2), edge()); break;
        case 4: h.out(edge(), edge()); break;
        case 5: h.count(edge(), edge()); break;
        case 6: h.thrown(edge(), edge()); break;
        case 7: h.depth(edge(), edge(), edge()); break;
        case 8: h.cell(edge(), edge(), edge(), edge()); break;
        case 9: h.task(edge(), edge()); break;
        case 10: h.fetch(edge(), edge(), edge()); break;
        case 11: h.find(edge()); break;
        case 12: h.word(edge(), edge(), edge()); break;
        case 13: h.name(edge(), edge(), edge()); break;
        case 14: h.item(edge(), edge(), edge()); break;
        case 15: h.effect(edge(), edge()); h.effectOf(edge(), edge(), edge()); break;
        case 16: h.lean(next(2), 172 + next(8)); break;
        case 17: h.chip(next(2), 172 + next(8)); break;
        case 18: h.chipWord(edge()); h.chipPut(edge()); break;
        case 19: h.chipGo(1 + next(50)); break;
        case 20: h.chipTold(edge()); h.chipCell(edge()); h.chipByte(edge()); break;
        case 21: type(h, text(20)); h.put(edge(), edge(), edge()); break;
        case 22: h.keep(edge(), edge()); break;
        case 23: h.again(edge(), edge()); break;
        case 24: h.same(edge(), edge()); break;
        default:
          type(h, text(1 + next(30)));
          h.evaluate(next(2), 1 + next(2000));
      }
    }
  }

  private void stepByStep(Bench b, long run) {
    ForthHouse h = new ForthHouse();
    int cell = 2 + next(3);
    int choices = next(8);
    h.system(cell, choices);
    h.system(cell, choices);
    for (int i = 0; i < 12; i++) {
      String text = text(1 + next(20));
      type(h, text);
      int one = h.evaluate(0, 300);
      if (h.count(0, 12) == 1 && one == STATE) one = h.go(0, 300);
      type(h, text);
      int other = h.evaluate(1, 1);
      if (other == STATE) other = h.go(1, 1);
      for (int k = 1; k < 300 && other == 1; k++) other = h.go(1, 1);
      b.due("run " + run + " answer of " + text, other, one);
      b.due("run " + run + " same after " + text, h.same(0, 1), true);
      for (int k = 0; k < 16; k++) b.due("run " + run + " count " + k, h.count(1, k), h.count(0, k));
      h.keep(0, 0);
      h.again(2, 0);
      b.due("run " + run + " same again after " + text, h.same(0, 2), true);
      if (next(4) == 0) h.again(next(2), 0);
    }
  }

  private static final int STATE = -3;
}
