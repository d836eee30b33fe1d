/** Part 6: what the chip is made of, and how it steps. */
public final class ChipTest {
  public static void main(String[] args) {
    making();
    notMade();
    limits();
    running();
    faults();
    rows();
    Bench.exit();
  }

  private static final int KIND = 16777216;

  private static void words(Bench b, int... due) {
    for (int i = 0; i < due.length; i++) b.due("chip word " + i, b.house.chipWord(i), due[i]);
    b.due("chip words", b.house.chipTold(6), due.length);
    b.due("behind", b.house.chipWord(due.length), -1);
  }

  private static int make(Bench b, String name) {
    return b.house.chip(0, b.find(name));
  }

  private static void making() {
    Bench b = new Bench("the chip's words", 4, 0);
    b.good("7 CONSTANT k VARIABLE v CREATE c : d DUP ; : e d k ; : f e v d c -5 ;");
    b.due("f", make(b, "f"), 9 + 4 + 2);
    words(b, 17 * KIND + 9, KIND, 256, 17 * KIND + 13, KIND, 260, KIND, -5, 150,
        17 * KIND + 13, KIND, 7, 150, 0, 150);
    b.good(": g {: a b | z :} a IF 5 b TO a ELSE 10 0 DO I LEAVE 2 +LOOP THEN RECURSE ;");
    b.due("g", make(b, "g"), 20);
    words(b, 11 * KIND + 2 + 48, 12 * KIND, 3 * KIND + 8, KIND, 5, 12 * KIND + 1, 13 * KIND, 2 * KIND + 18,
        KIND, 10, KIND, 0, 4 * KIND, 147, 8 * KIND + 18, KIND, 2, 7 * KIND + 13, 17 * KIND, 150);
    b.end();
  }

  private static void notMade() {
    Bench b = new Bench("what the chip is not made of", 4, 0);
    b.good("5 VALUE v DEFER d : con CREATE DOES> ; con x CREATE y MARKER m : q [: 1 ;] ; : qq q ; : in DUP ;");
    for (String t : ("HERE|ALLOT|,|C,|ALIGN|.|EMIT|BASE|>IN|EXECUTE|>BODY|CATCH|THROW|ABORT|PAUSE|TASK|v|d|x|m|q|qq"
        + "|con|5 TO v|['] DUP IS d|ABORT\" x\"|POSTPONE DUP|.\" a\"|DOES>|[: ;]|CHAR|COUNT TYPE|IMMEDIATE").split("\\|")) {
      b.good(": w " + t + " ;");
      b.due("w of " + t, make(b, "w"), 0);
    }
    for (String t : ("?DUP|PICK|ROLL|DEPTH|>R|2R>|FM/MOD|WITHIN|FALSE|!|2@|ALIGNED|COUNT|MOVE|FILL|I|J|UNLOOP|EXIT|in").split("\\|")) {
      b.good(": w " + t + " ;");
      b.due("w of " + t, make(b, "w") > 0, true);
    }
    b.due("one within", b.house.chip(0, b.find("q") + 1), 0);
    b.good(": w y ;");
    b.due("CREATE", make(b, "w"), 3);
    b.end();
  }

  private static void limits() {
    Bench b = new Bench("2000 chip words", 4, 0);
    b.good(": n, BEGIN DUP WHILE 1- POSTPONE DUP REPEAT DROP ; IMMEDIATE");
    b.due("w", b.runOn(": w [ 1999 ] n, ;"), 0);
    b.due("2000", make(b, "w"), 2000);
    b.good(": x w ;");
    b.due("2002", make(b, "x"), 0);
    b.due("none", b.house.chipTold(6), 0);
    b.good("MARKER m");
    b.end();
  }

  private static void running() {
    Bench b = new Bench("the chip steps", 4, 1);
    b.good("VARIABLE v 5 v ! : fac DUP 1 > IF DUP 1- RECURSE * THEN ; : a v @ fac 7 v ! -7 2 / ;");
    make(b, "a");
    b.due("a", b.house.chipGo(1000), 0);
    b.due("floored", b.house.chipCell(0), -4);
    b.due("120", b.house.chipCell(1), 120);
    b.due("its SPACE", b.house.chipByte(256), 7);
    b.due("the system's", b.house.fetch(0, 256, 0), 5);
    b.good(": s 0 10 0 DO I + LOOP ; : c {: x :} x CASE 1 OF 10 ENDOF 2 OF 20 ENDOF 30 SWAP ENDCASE ;");
    make(b, "s");
    b.due("s", b.house.chipGo(1000), 0);
    b.due("45", b.house.chipCell(0), 45);
    b.due("steps", b.house.chipTold(5), 3 + 1 + 30 + 1);
    make(b, "c");
    b.house.chipPut(2);
    b.due("c", b.house.chipGo(1000), 0);
    b.due("20", b.house.chipCell(0), 20);
    b.due("LOCALS are none of chipTold", b.house.chipTold(1), 1);
    b.good(": w 5 0 DO I 3 = IF UNLOOP I EXIT THEN LOOP ; : y 5 5 ?DO 1 LOOP 2 ; : z 3 >R R@ R> ;");
    make(b, "y");
    b.house.chipGo(100);
    b.due("?DO", b.house.chipCell(0) * 10 + b.house.chipTold(1), 21);
    make(b, "z");
    b.house.chipGo(100);
    b.due("R@", b.house.chipCell(0) * 10 + b.house.chipCell(1), 33);
    make(b, "w");
    b.due("I without a loop", b.house.chipGo(100), -2);
    b.due("code", b.house.chipTold(4), -26);
    Bench c = new Bench("", 2, 4);
    c.good(": a 32767 1+ 258 1000 ! 1000 C@ -7 2 / ;");
    c.house.chip(0, 172);
    b.due("2 bytes", c.house.chipGo(99), 0);
    b.due("not floored", c.house.chipCell(0), -3);
    b.due("highest first", c.house.chipCell(1), 1);
    b.due("going round", c.house.chipCell(2), -32768);
    b.end();
  }

  private static void fault(Bench b, String text, int code, int place, int done) {
    b.good(": w " + text + " ;");
    make(b, "w");
    b.due("FAULT of " + text, b.house.chipGo(20000), -2);
    b.due("code of " + text, b.house.chipTold(4), code);
    b.due("place of " + text, b.house.chipTold(0), place);
    b.due("done of " + text, b.house.chipTold(5), done);
  }

  private static void faults() {
    Bench b = new Bench("the chip's FAULTs", 4, 0);
    fault(b, "DROP", -4, 0, 1);
    fault(b, "1 0 /", -10, 4, 3);
    fault(b, "5 9999 !", -9, 4, 3);
    b.due("taken", b.house.chipTold(1), 0);
    fault(b, "1 R>", -6, 2, 2);
    fault(b, "1 >R", -25, 3, 3);
    b.due("RETURN", b.house.chipTold(2), 1);
    fault(b, "1 0 DO EXIT LOOP", -26, 5, 4);
    b.due("LOOPS", b.house.chipTold(3), 1);
    fault(b, "BEGIN 1 AGAIN", -3, 0, 129);
    b.due("DATA", b.house.chipTold(1), 64);
    fault(b, "BEGIN 1 >R AGAIN", -5, 2, 3 * 64 + 2);
    fault(b, "5 PICK", -4, 2, 2);
    fault(b, "0 1 1 UM/MOD", -11, 6, 4);
    fault(b, "{: x :} x", -4, 0, 1);
    b.end();
  }

  private static void rows() {
    Bench b = new Bench("the chip's rows", 4, 0);
    b.good(": r 1 >R RECURSE ; : s RECURSE ; : t DUP IF 1- RECURSE THEN ;");
    make(b, "s");
    b.due("FRAMES are full", b.house.chipGo(1000), -2);
    b.due("-5", b.house.chipTold(4), -5);
    b.due("40", b.house.chipTold(7), 40);
    b.due("40 that it does, and one that has no place", b.house.chipTold(5), 41);
    make(b, "r");
    b.due("FRAMES as it begins", b.house.chipTold(7), 0);
    b.house.chipGo(2);
    b.due("FRAMES ahead of the first definition done", b.house.chipTold(7), 0);
    b.house.chipGo(1);
    b.due("FRAMES behind it", b.house.chipTold(7), 1);
    b.house.chipGo(3);
    b.due("FRAMES", b.house.chipTold(7), 2);
    b.due("RETURN", b.house.chipTold(2), 2);
    make(b, "t");
    b.house.chipPut(3);
    b.due("ended", b.house.chipGo(1000), 0);
    b.due("at its EXIT", b.house.chipTold(0), 4);
    b.due("FRAMES", b.house.chipTold(7), 0);
    b.good(": u 1 >R R> DROP 7 {: x :} x ; : v 8 {: x :} u x 3 0 DO I LOOP ; : w R> ; : x 1 >R w ;");
    make(b, "v");
    b.house.chipGo(4);
    b.due("FRAMES", b.house.chipTold(7), 1);
    b.house.chipGo(6);
    b.due("before its EXIT", b.house.chipTold(7), 1);
    b.house.chipGo(1);
    b.due("behind its EXIT", b.house.chipTold(7), 0);
    b.due("v", b.house.chipGo(1000), 0);
    b.due("its own LOCALS and loop", b.house.chipCell(4) * 100 + b.house.chipCell(3) * 10 + b.house.chipCell(0), 782);
    make(b, "x");
    b.due("RETURN of none of this frame", b.house.chipGo(1000), -2);
    b.due("-6", b.house.chipTold(4), -6);
    b.due("FRAMES at FAULT", b.house.chipTold(7), 1);
    make(b, "t");
    b.house.keep(0, 0);
    b.house.again(0, 0);
    b.due("the chip is the house's", b.house.chipTold(6), 5);
    b.end();
  }
}
