/** Parts 6 and 7, sentence by sentence: the chip's words, what it can not be made of, how it steps; images. */
public final class EdgesPart6Test {
  private static final int NONE = -1, BAD = -2, KIND = 16777216;

  public static void main(String[] args) {
    inTheOrder();
    kindsOfWords();
    jumps();
    literals();
    notOfItems();
    notOfDefinitions();
    notOfWords();
    mostWords();
    ownSpace();
    beginsAndEnds();
    faults();
    rows();
    rowsFull();
    steps();
    imagesAsTheyAre();
    imagesInTheMidst();
    imagesOfMarkers();
    imagesOfMaking();
    imagesOfThrows();
    Bench.exit();
  }

  private static void words(Bench b, String name, int... due) {
    b.due("chip words of " + name, b.house.chip(0, b.find(name)), due.length);
    for (int i = 0; i < due.length; i++) b.due("chip word " + i + " of " + name, b.house.chipWord(i), due[i]);
    b.due("the one behind", b.house.chipWord(due.length), NONE);
  }

  private static void inTheOrder() {
    Bench b = new Bench("part 6: that one's items first, then those of definitions that are called, in the order in which they are met", 4, 0);
    b.good(": a DUP ; : c a ; : d 1+ ; : e c d a c ;");
    words(b, "e", 17 * KIND + 5, 17 * KIND + 7, 17 * KIND + 9, 17 * KIND + 5, 150, 17 * KIND + 9, 150, 29, 150, 0, 150);
    b.good(": f e RECURSE ; : x ; : g x x ;");
    words(b, "g", 17 * KIND + 3, 17 * KIND + 3, 150, 150);
    words(b, "f", 17 * KIND + 3, 17 * KIND, 150, 17 * KIND + 8, 17 * KIND + 10, 17 * KIND + 12, 17 * KIND + 8, 150, 17 * KIND + 12, 150, 29, 150, 0, 150);
    b.end();
  }

  private static void kindsOfWords() {
    Bench b = new Bench("part 6: a CHIP WORD is kind * 16777216 + its number", 4, 0);
    b.good(": w {: a b | c :} a IF b TO c THEN ; ");
    words(b, "w", 11 * KIND + 50, 12 * KIND, 3 * KIND + 5, 12 * KIND + 1, 13 * KIND + 2, 150);
    b.good(": v DO I LEAVE 1 +LOOP ?DO LOOP BEGIN AHEAD THEN AGAIN ; ");
    words(b, "v", 4 * KIND, 147, 8 * KIND + 6, KIND, 1, 7 * KIND + 1, 5 * KIND + 8, 6 * KIND + 7, 2 * KIND + 9, 2 * KIND + 8, 150);
    b.good(": u CASE DUP OF ENDOF ENDCASE ;");
    words(b, "u", 0, 9 * KIND + 3, 2 * KIND + 4, 1, 150);
    b.end();
  }

  private static void jumps() {
    Bench b = new Bench("part 6: JUMPS tell the chip's place, the first is 0", 4, 0);
    b.good(": z 1 2 3 ; : w BEGIN 5 6 WHILE IF 7 ELSE 8 THEN REPEAT ; : y w ;");
    words(b, "w", KIND, 5, KIND, 6, 3 * KIND + 12, 3 * KIND + 9, KIND, 7, 2 * KIND + 11, KIND, 8, 2 * KIND, 150);
    b.end();
  }

  private static void literals() {
    Bench b = new Bench("part 6: LIT, and WORD of a CONSTANT, a VARIABLE, of a word made by CREATE without DOES, is kind 1 with a second word", 2, 0);
    b.good("-5 CONSTANT c VARIABLE v CREATE r : w -1 c v r 32768 ;");
    words(b, "w", KIND, -1, KIND, -5, KIND, 256, KIND, 258, KIND, -32768, 150);
    b.good(": d DOES> ; CREATE s d : x s ;");
    b.due("with DOES", b.house.chip(0, b.find("x")), 0);
    b.end();
  }

  private static void notOfItems() {
    Bench b = new Bench("part 6: it can not be made with items 10, 14, 15, 16", 4, 0);
    b.good("5 VALUE v DEFER d : ok ; : i ; IMMEDIATE");
    for (String t : "DOES>|DOES> 5|TO v|IS d|POSTPONE DUP|ABORT\" a\"|AHEAD POSTPONE DUP THEN|EXIT DOES>".split("\\|")) {
      b.good(": w " + t + " ; : y 5 w ;");
      b.due("of " + t, b.house.chip(0, b.find("w")), 0);
      b.due("calling one of " + t, b.house.chip(0, b.find("y")), 0);
    }
    b.good(": w POSTPONE i {: x :} 5 TO x ;");
    b.due("WORD of an IMMEDIATE one", b.house.chip(0, b.find("w")), 7);
    b.end();
  }

  private static void notOfDefinitions() {
    Bench b = new Bench("part 6: it can not be made of definitions that have one within, or are one within, nor with other words", 4, 0);
    b.good(": q 1 [: 2 ;] DROP ; : p q ; : o AHEAD [: ;] THEN DROP ;");
    for (String t : "q p o".split(" ")) b.due(t, b.house.chip(0, b.find(t)), 0);
    b.due("the one within", b.house.chip(0, b.find("q") + 1), 0);
    b.good("5 VALUE v DEFER d MARKER m : dd CREATE DOES> ; dd e : n [: [: ;] ;] ;");
    int within = b.find("n") + 1;
    b.due("within and with one", b.house.chip(0, within), 0);
    b.due("the innermost", b.house.chip(0, within + 1), 0);
    for (String t : "v d m e".split(" ")) {
      b.good(": w " + t + " ;");
      b.due(t, b.house.chip(0, b.find("w")), 0);
      b.good(": w EXIT " + t + " ;");
      b.due("behind EXIT, " + t, b.house.chip(0, b.find("w")), 0);
    }
    b.end();
  }

  private static void notOfWords() {
    Bench b = new Bench("part 6: built-in ones of lines 1 to 5 without HERE ALLOT , C, ALIGN, and I J UNLOOP EXIT");
    for (int t = 0; t < 172; t++) {
      Bench one = new Bench("", 4, 0);
      StringBuilder name = new StringBuilder();
      for (int i = 0; i < one.house.word(0, t, 6); i++) name.append((char) one.house.name(0, t, i));
      one.good(": w " + (one.house.word(0, t, 1) == 1 ? "POSTPONE " : "") + name + " ;");
      boolean lines = t <= 82 && !" HERE ALLOT , C, ALIGN ".contains(" " + name + " ");
      b.due("of " + name, one.house.chip(0, 172), lines || t >= 147 && t <= 150 ? 2 : 0);
    }
    b.end();
  }

  private static void mostWords() {
    Bench b = new Bench("part 6: 2000 chip words at most");
    // How many DUPs, what is behind them, how many chip words that comes to; 0: it can not be made.
    String[][] due = {{"1999", "", "2000"}, {"2000", "", "0"}, {"1997", "5", "2000"}, {"1998", "5", "0"}, {"1997", "x", "2000"}, {"1998", "x", "0"},
      {"1996", "k", "1999"}, {"1997", "k", "2000"}, {"1998", "k", "0"}, {"3000", "", "0"}};
    for (String[] d : due) {
      Bench one = new Bench("", 4, 0);
      one.good(Bench.FILL + ": x ; 7 CONSTANT k");
      b.due("running", one.runOn(": w [ " + d[0] + " ] n, " + d[1] + " ;"), 0);
      int words = Integer.parseInt(d[2]);
      b.due(d[0] + " and " + d[1], one.house.chip(0, one.find("w")), words);
      b.due("told", one.house.chipTold(6), words);
      b.due("the last", one.house.chipWord(words - 1), words > 0 ? 150 : NONE);
      b.due("none behind", one.house.chipWord(words), NONE);
    }
    b.end();
  }

  private static void ownSpace() {
    Bench b = new Bench("part 6: it has a SPACE that is a copy of the system's, its cells and CHOICES");
    for (int cell = 2; cell <= 4; cell++) {
      for (int choices = 0; choices < 8; choices++) {
        Bench one = new Bench("", cell, choices);
        one.good("77 4095 C! : w 258 1000 ! -7 2 / 1000 @ 32767 1+ 4095 C@ 78 4095 C! ;");
        one.house.chip(0, 172);
        b.due("a copy", one.house.chipByte(4095), 77);
        b.due("BASE, too", one.house.chipByte(choices < 4 ? 0 : cell - 1), 10);
        b.due("it ends", one.house.chipGo(100), 0);
        b.due("its own", one.house.chipByte(4095), 78);
        b.due("the system's", one.house.fetch(0, 4095, 1), 77);
        b.due("highest first", one.house.chipByte(1000 + ((choices & 4) != 0 ? cell - 1 : 0)), 2);
        b.due("floored", one.house.chipCell(3), (choices & 1) != 0 ? -4 : -3);
        b.due("the cell", one.house.chipCell(2), 258);
        b.due("going round", one.house.chipCell(1), cell == 2 ? -32768 : 32768);
      }
    }
    b.end();
  }

  private static void beginsAndEnds() {
    Bench b = new Bench("part 6: it begins at 0, and has ENDED with EXIT there", 4, 0);
    b.good(": a DUP IF 1- RECURSE THEN ; : e ; : f IF EXIT THEN 5 ;");
    b.house.chip(0, b.find("e"));
    b.due("at 0", b.house.chipTold(0), 0);
    b.due("one word", b.house.chipGo(1), 0);
    b.due("its place is that of EXIT", b.house.chipTold(0), 0);
    b.due("words done", b.house.chipTold(5), 1);
    b.due("it has ENDED", b.house.chipGo(5), 0);
    b.due("no word more", b.house.chipTold(5), 1);
    b.house.chip(0, b.find("a"));
    b.house.chipPut(3);
    b.due("not ahead of its last EXIT", b.house.chipGo(3 * 4 + 2 + 3), 1);
    b.due("no FRAME", b.house.chipTold(7), 0);
    b.due("its own EXIT", b.house.chipGo(1), 0);
    b.due("place", b.house.chipTold(0), 4);
    b.house.chip(0, b.find("f"));
    b.house.chipPut(1);
    b.due("the first EXIT", b.house.chipGo(9), 0);
    b.due("place", b.house.chipTold(0), 1);
    b.due("done", b.house.chipTold(5), 2);
    b.house.chip(0, b.find("f"));
    b.house.chipPut(0);
    b.due("the last EXIT", b.house.chipGo(9), 0);
    b.due("place", b.house.chipTold(0), 4);
    b.end();
  }

  private static void fault(Bench b, String text, int code, int place, int done) {
    b.good(": w " + text + " ;");
    b.due("made of " + text, b.house.chip(0, b.find("w")) > 0, true);
    b.due("FAULT of " + text, b.house.chipGo(20000), -2);
    b.due("code of " + text, b.house.chipTold(4), code);
    b.due("place of " + text, b.house.chipTold(0), place);
    b.due("done of " + text, b.house.chipTold(5), done);
    b.due("at FAULT, " + text, b.house.chipGo(1), -2);
    b.due("no word more, " + text, b.house.chipTold(5), done);
  }

  private static void faults() {
    Bench b = new Bench("part 6: a THROW is a FAULT, its place is that of the chip word that did it", 4, 0);
    b.good(": d DROP ; : r R> ; : i I DROP ;");
    fault(b, "DROP", -4, 0, 1);
    fault(b, "IF THEN", -4, 0, 1);
    fault(b, "1 DO LOOP", -4, 2, 2);
    fault(b, "1 ?DO LOOP", -4, 2, 2);
    fault(b, "1 CASE OF ENDOF ENDCASE", -4, 2, 2);
    fault(b, "1 0 DO +LOOP", -4, 5, 4);
    fault(b, "1 {: x y :}", -4, 2, 2);
    fault(b, "{: | x :} TO x", -4, 1, 2);
    fault(b, "d", -4, 2, 2);
    fault(b, "1 >R r", -6, 5, 4);
    fault(b, "1 0 DO i LOOP", -26, 8, 5);
    fault(b, "1 0 DO UNLOOP LOOP", -26, 6, 5);
    fault(b, "1 0 DO UNLOOP LEAVE LOOP", -26, 6, 5);
    fault(b, "1 0 DO UNLOOP 1 +LOOP", -26, 8, 6);
    fault(b, "J", -26, 0, 1);
    fault(b, "R@", -6, 0, 1);
    fault(b, "1 0 /", -10, 4, 3);
    fault(b, "0 1 1 UM/MOD", -11, 6, 4);
    fault(b, "4093 @", -9, 2, 2);
    fault(b, "5 9999 C!", -9, 4, 3);
    fault(b, "5 5 PICK", -4, 4, 3);
    fault(b, "1 >R", -25, 3, 3);
    fault(b, "1 0 DO EXIT LOOP", -26, 5, 4);
    fault(b, "1 0 DO 1 >R EXIT LOOP", -25, 8, 6);
    b.house.chip(0, b.find("d"));
    b.due("a chip that is made after a FAULT", b.house.chipTold(4), 0);
    b.due("it goes on", b.house.chipPut(1) + b.house.chipGo(1), 2);
    b.good(": t 1 >R ; : s 1 0 DO EXIT LOOP ;");
    fault(b, "t", -25, 2 + 3, 4);
    fault(b, "s", -26, 2 + 5, 5);
    b.end();
  }

  private static void rows() {
    Bench b = new Bench("part 6: it has rows like a task's", 4, 0);
    b.good(": in {: p :} 7 >R p R> DROP ; : w {: x y | z :} 5 >R 2 0 DO I in DROP LOOP R> x y z ;");
    b.house.chip(0, b.find("w"));
    b.due("empty", b.house.chipTold(1) + b.house.chipTold(2) + b.house.chipTold(3) + b.house.chipTold(7), 0);
    b.house.chipPut(11);
    b.house.chipPut(12);
    b.house.chipGo(7);
    b.due("RETURN", b.house.chipTold(2), 1);
    b.due("LOOPS", b.house.chipTold(3), 1);
    b.due("DATA", b.house.chipTold(1), 1);
    b.house.chipGo(4);
    b.due("FRAMES", b.house.chipTold(7), 1);
    b.due("RETURN", b.house.chipTold(2), 2);
    b.due("it ends", b.house.chipGo(1000), 0);
    b.due("DATA", b.house.chipTold(1), 4);
    b.due("locals of its own", b.house.chipCell(2) * 100 + b.house.chipCell(1) * 10 + b.house.chipCell(0), 11 * 100 + 12 * 10);
    b.due("RETURN", b.house.chipCell(3), 5);
    b.due("none more", b.house.chipCell(4), 0);
    b.end();
  }

  private static void rowsFull() {
    Bench b = new Bench("part 6: the chip's DATA 64, RETURN 64, LOOPS 16, LOCALS 64, FRAMES 40", 4, 0);
    fault(b, "BEGIN 1 AGAIN", -3, 0, 129);
    b.due("DATA", b.house.chipTold(1), 64);
    fault(b, "BEGIN 1 >R AGAIN", -5, 2, 64 * 3 + 2);
    b.due("RETURN", b.house.chipTold(2), 64);
    fault(b, "1 0 DO RECURSE LOOP", -7, 4, 16 * 4 + 3);
    b.due("LOOPS", b.house.chipTold(3), 16);
    b.due("FRAMES", b.house.chipTold(7), 16);
    fault(b, "{: | a b c d e f g h :} RECURSE", -5, 0, 8 * 2 + 1);
    b.due("FRAMES", b.house.chipTold(7), 8);
    fault(b, "RECURSE", -5, 0, 41);
    b.due("FRAMES", b.house.chipTold(7), 40);
    b.good(": v DUP IF 1- RECURSE THEN ;");
    b.house.chip(0, b.find("v"));
    b.house.chipPut(40);
    b.due("40", b.house.chipGo(20000), 0);
    b.house.chip(0, b.find("v"));
    b.house.chipPut(41);
    b.due("41", b.house.chipGo(20000), -2);
    b.good(": x 1 2 {: | p q r s t u v w :} 2DUP ;");
    b.house.chip(0, b.find("x"));
    for (int i = 0; i < 60; i++) b.house.chipPut(i);
    b.due("62 and 2DUP", b.house.chipGo(100), 0);
    b.due("64", b.house.chipTold(1), 64);
    b.house.chip(0, b.find("x"));
    for (int i = 0; i < 61; i++) b.house.chipPut(i);
    b.due("63 and 2DUP", b.house.chipGo(100), -2);
    b.due("-3", b.house.chipTold(4), -3);
    b.due("nothing is taken", b.house.chipTold(1), 63);
    b.end();
  }

  private static void steps() {
    Bench b = new Bench("part 6: it does a chip word after the other", 4, 0);
    b.good(": w 1 2 + 3 * ;");
    b.house.chip(0, b.find("w"));
    int[] places = {0, 2, 4, 5, 7, 8, 8};
    int[] depths = {0, 1, 2, 1, 2, 1, 1};
    for (int i = 0; i <= 6; i++) {
      b.due("place " + i, b.house.chipTold(0), places[i]);
      b.due("DATA " + i, b.house.chipTold(1), depths[i]);
      b.due("done " + i, b.house.chipTold(5), i);
      if (i < 6) b.due("step " + i, b.house.chipGo(1), i < 5 ? 1 : 0);
    }
    b.due("9", b.house.chipCell(0), 9);
    b.end();
  }

  /** What a system is made to be, bit by bit; each text is stopped in the midst of it, too. */
  private static final String[] TEXTS = {
    "1 VALUE v 5 CONSTANT k VARIABLE x CREATE c 7 , DEFER d : sq DUP * ; ' sq IS d : con CREATE , DOES> @ ; 9 con nine",
    ": l {: a b | z :} 5 >R 3 0 DO I a + TO z LOOP R> z b ; 3 4 l . . .",
    "WORDLIST >ORDER DEFINITIONS : own 1 ; WORDLIST >ORDER MARKER m : after own ;",
    "S\" 1 S' 2\" 2DROP S\" 3 4 0 LOAD + 5\" EVALUATE 6",
    ": p 0 BEGIN 1+ PAUSE DUP 9 > UNTIL DROP ; ' p TASK DROP : r RECEIVE . RECEIVE . ; ' r TASK DROP PAUSE 8 2 SEND DROP PAUSE PAUSE",
    ": th 3 0 DO I 2 = IF 77 THROW THEN LOOP ; : ct 8 ['] th CATCH . . ; ct",
    "T{ 1 2 -> 1 2 }T T{ 1 -> 2 }T 9 T{ 5 ->",
    "5 }T DROP <# 1234. # #S #> TYPE HEX FF . DECIMAL 1 2 foo",
    ": un {: a b :} a IF [: {: q :} q BEGIN q WHILE",
    "1 REPEAT DUP ;] DROP ELSE b THEN ; 3 4 un",
    "m own ONLY own", "7 0 SEND DROP 8 0 SEND DROP RECEIVE . : bad IF 1 THEN ; : w bad ; DOES> x"};

  private static void imagesAsTheyAre() {
    Bench b = new Bench("part 7: an IMAGE is all of a system, as it is", 4, 1);
    b.type(" 20 sq : blk 2 ; ");
    b.house.put(0, 0, 0);
    b.house.system(2, 6);
    int step = 0;
    for (String text : TEXTS) {
      b.run(0, text, 20000);
      b.house.keep(0, step % 2);
      pollute(b, step);
      b.due("made again behind " + text, b.house.again(1, step % 2), 1);
      b.due("told behind " + text, b.told(1), b.told(0));
      b.due("the same behind " + text, b.house.same(0, 1), true);
      goOn(b, text, 3);
      b.house.again(0, step % 2);
      step++;
    }
    b.end();
  }

  /** Something else becomes of system 1, so that nothing of it is as it was by chance. */
  private static void pollute(Bench b, int step) {
    b.run(1, "-1 -2 -3 -4 -5 16 BASE ! : zz" + step + " IF 2 ELSE 3 THEN ; IMMEDIATE 8 3 SEND 7 0 SEND ' zz" + step + " TASK 1 ALLOT", 500);
    b.run(1, "T{ 4 -> 4 }T .\" abcdef\" WORDLIST >ORDER MARKER q : y DOES> ; : u {: g :} [: {: h :} AHEAD", 500);
  }

  /** Systems 0 and 1 go on alike, with their texts and with others. */
  private static void goOn(Bench b, String behind, int texts) {
    for (int i = 0; i < 400; i++) {
      int one = b.house.go(0, 7);
      int other = b.house.go(1, 7);
      b.due("both go on behind " + behind, other, one);
      if (one != 1) break;
    }
    for (int i = 0; i < texts; i++) {
      for (String text : TEXTS) {
        int one = b.run(0, text, 300);
        int other = b.run(1, text, 300);
        b.due("both do " + text + " behind " + behind, other, one);
      }
      b.due("told in the end behind " + behind, b.told(1), b.told(0));
      b.due("the same in the end behind " + behind, b.house.same(0, 1), true);
    }
  }

  private static void imagesOfMarkers() {
    Bench b = new Bench("part 7: of a MARKER, too, what it goes back to", 4, 0);
    b.good("WORDLIST >ORDER DEFINITIONS : a 1 ; WORDLIST >ORDER CREATE c 9 ALLOT MARKER m : d 2 ; 5 , ONLY 2 >ORDER");
    b.house.keep(0, 0);
    for (int i = 0; i < 3; i++) {
      b.house.again(1, 0);
      if (i == 0) b.run(1, "1 ALLOT WORDLIST DROP : x 1 2 3 ; MARKER n MARKER o 2 ALLOT", 99);
      if (i == 1) b.run(1, "m MARKER y 3 ALLOT : z 1 2 3 4 ; MARKER q", 99);
      b.house.again(1, 0);
      b.due("both go back", b.run(0, "m", 9), b.run(1, "m", 9));
      b.due("told", b.told(1), b.told(0));
      b.due("the same", b.house.same(0, 1), true);
      b.due("HERE", b.house.count(1, 0), 265);
      b.due("order", b.house.count(1, 7), 3);
      b.due("latest", b.house.count(1, 13), 173);
      b.house.again(0, 0);
    }
    b.end();
  }

  private static void imagesOfMaking() {
    Bench b = new Bench("part 7: of what is under way, too, whether it has a name and what is latest without it", 4, 0);
    b.good("CREATE a :NONAME 1 [: 2");
    b.house.keep(0, 0);
    b.house.again(1, 0);
    b.run(1, ";] DROP ; CREATE c CREATE d : e 1", 99);
    b.house.again(1, 0);
    b.due("it goes on", b.run(1, ";] DROP ;", 99), 0);
    b.due("a token is left", b.data(1, 0), "173");
    b.house.again(1, 0);
    b.run(1, ";] DROP ; CREATE c CREATE d : e 1", 99);
    b.house.again(1, 0);
    b.due("thrown out", b.run(1, "foo", 9), -2);
    b.due("the latest", b.house.count(1, 13), 172);
    b.due("words", b.house.count(1, 1), 173);
    b.end();
  }

  private static void imagesOfThrows() {
    Bench b = new Bench("part 7: of what was thrown, too, and of a task's code", 4, 0);
    b.good(": w 5 THROW ; ' w TASK DROP PAUSE");
    b.thrown("  S\" 1 foo\" EVALUATE", -13);
    b.house.keep(0, 1);
    b.house.again(1, 1);
    b.run(1, ": v ; ' v TASK DROP PAUSE 7 THROW", 99);
    b.house.again(1, 1);
    b.due("code", b.house.thrown(1, 0), -13);
    b.due(">IN", b.house.thrown(1, 1), 5);
    b.due("nested", b.house.thrown(1, 2), 1);
    b.due("a task's code", b.house.task(1, 1), 3 - 80);
    b.end();
  }

  private static void imagesInTheMidst() {
    Bench b = new Bench("part 7: an IMAGE is a system in the midst of its text, too");
    for (int stop = 0; stop < TEXTS.length; stop++) {
      for (int steps = 1; steps < 60; steps += 3) {
        Bench one = new Bench("", 3, 4);
        one.type(" 20 sq : blk 2 ; ");
        one.house.put(0, 0, 0);
        one.house.system(4, 3);
        for (int i = 0; i < stop; i++) one.run(0, TEXTS[i], 20000);
        if (one.run(0, TEXTS[stop], steps) != 1) break;
        one.house.keep(0, 1);
        pollute(one, 0);
        one.house.again(1, 1);
        b.due(steps + " steps of " + TEXTS[stop], one.told(1), one.told(0));
        b.due(steps + " steps of " + TEXTS[stop], one.house.same(0, 1), true);
        for (int i = 0; i < 300 && one.house.count(0, 12) == 1; i++) {
          b.due("on from " + steps + " steps of " + TEXTS[stop], one.house.go(1, 3), one.house.go(0, 3));
        }
        b.due("in the end of " + steps + " steps of " + TEXTS[stop], one.told(1), one.told(0));
        b.due("in the end of " + steps + " steps of " + TEXTS[stop], one.house.same(0, 1), true);
      }
    }
    b.end();
  }
}
