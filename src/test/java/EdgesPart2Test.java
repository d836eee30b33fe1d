/** Part 2, sentence by sentence: where texts and words end, what is found, what is a number. */
public final class EdgesPart2Test {
  private static final int NONE = -1;

  public static void main(String[] args) {
    parting();
    beyondTheEnd();
    readingBeyondTheEnd();
    blankBehind();
    nestedTexts();
    nestedFull();
    blocks();
    blockEnds();
    asItIs();
    textsEnd();
    order();
    hidden();
    localsFirst();
    onlyForCompiling();
    immediateOnes();
    quoted();
    bases();
    badBase();
    digits();
    noDigits();
    doubles();
    reckonedRound();
    whereNumbersGo();
    noneOfThem();
    notThere();
    tooLong();
    otherTasks();
    otherTasksOrder();
    emptyEvaluate();
    Bench.exit();
  }

  private static void parting() {
    Bench b = new Bench("part 2: words are parted by bytes 1 .. 32 and 0");
    for (int i = 0; i < 256; i++) {
      Bench one = new Bench("", 4, 0);
      one.house.type('5', 1);
      one.house.type(i, 1);
      one.house.type('6', 1);
      boolean blank = i <= 32;
      boolean digit = i >= '0' && i <= '9';
      b.due("byte " + i, one.house.evaluate(0, 9), blank || digit ? 0 : -2);
      b.due("byte " + i, one.data(0, 0), blank ? "5 6" : digit ? "5" + (char) i + "6" : "");
    }
    Bench none = new Bench("", 4, 0);
    for (int i = 0; i <= 32; i++) none.house.type(i, 1);
    b.due("all of them", none.house.evaluate(0, 1), 0);
    b.due("all of them", none.house.fetch(0, 4, 0), 33);
    b.end();
  }

  private static void beyondTheEnd() {
    Bench b = new Bench("part 2: beyond the end there is nothing, >IN is the end then, as behind blanks up to it", 2, 0);
    for (String at : "11 12 13 100 4095 32767 -1 -32768".split(" ")) {
      String text = at + " >IN ! 5    ";
      b.due("at " + at, b.run(text), 0);
      b.due("nothing is read at " + at, b.house.depth(0, 0, 0), 0);
      b.due(">IN behind " + at, b.house.fetch(0, 4, 0), text.length());
    }
    b.data("8 >IN ! 5", "5");
    b.data("9 >IN ! 5", "");
    b.data("10 >IN ! 5", "");
    b.due("the end", b.house.fetch(0, 4, 0), 10);
    b.good("     ");
    b.due("behind blanks", b.house.fetch(0, 4, 0), 5);
    b.good("1    DROP    ");
    b.due("behind blanks", b.house.fetch(0, 4, 0), 13);
    b.good("");
    b.due("an empty text", b.house.fetch(0, 4, 0), 0);
    b.end();
  }

  private static void readingBeyondTheEnd() {
    Bench b = new Bench("part 2: what reads beyond the end reads nothing, >IN is the end then", 4, 0);
    b.good(": far 999 >IN ! ; : p far POSTPONE ( ; : q far POSTPONE \\ ; : s far POSTPONE S\" ; : d far POSTPONE .\" ; : c far ['] CHAR CATCH ;");
    for (String w : "p q d".split(" ")) {
      b.good(w + " 1 2 3");
      b.due(w, b.house.fetch(0, 4, 0), 7);
      b.due(w, b.house.depth(0, 0, 0), 0);
    }
    b.good("s 1 2");
    b.due("S\"", b.data(0, 0), "128 0");
    b.due("S\"", b.house.fetch(0, 4, 0), 5);
    b.good("2DROP");
    b.data("c 1 2", "-16");
    b.due("put out", b.out(0), "");
    b.end();
  }

  private static void blankBehind() {
    Bench b = new Bench("part 2: a word takes the blank behind it, too");
    b.house.system(4, 0);
    b.data(">IN @ ", "6");
    b.data(">IN @", "5");
    b.data(">IN @  ", "6");
    b.data(">IN   @", "7");
    b.data("S\" ab\" NIP", "2");
    b.data("S\"  ab\" NIP", "3");
    b.data("S\"\tab\" NIP", "2");
    b.data("CHAR a\tCHAR b", "97 98");
    b.data("( a)5", "5");
    b.end();
  }

  private static void nestedTexts() {
    Bench b = new Bench("part 2: 5 nested texts at most, -5 beyond");
    for (int most = 1; most <= 6; most++) {
      Bench one = new Bench("", 4, 0);
      one.good("VARIABLE n " + most + " n ! : s n @ IF -1 n +! 128 2 EVALUATE THEN ; S\" s \" 2DROP");
      b.due(most + " nested", one.run("s"), most <= 5 ? 0 : -2);
      b.due("code", one.house.thrown(0, 0), most <= 5 ? 0 : -5);
      b.due("how many then", one.house.thrown(0, 2), most <= 5 ? 0 : 5);
      b.due("none is left", one.house.count(0, 15), 0);
    }
    b.end();
  }

  private static void nestedFull() {
    Bench b = new Bench("part 2: a BLOCK is a nested text, too, 5 at most", 4, 0);
    b.good("VARIABLE n : s n @ IF -1 n +! 3 LOAD THEN ;");
    b.type("s");
    b.house.put(0, 3, 0);
    b.good("5 n ! s");
    b.thrown("6 n ! s", -5);
    b.due("how many then", b.house.thrown(0, 2), 5);
    b.good(": m n @ IF -1 n +! 3 LOAD ELSE S\" 1 DROP\" EVALUATE THEN ; ");
    b.type("m");
    b.house.put(0, 3, 0);
    b.good("4 n ! m");
    b.thrown("5 n ! m", -5);
    b.end();
  }

  private static void blocks() {
    Bench b = new Bench("part 2: BLOCKS are 0 .. 7, -35");
    for (int cell = 2; cell <= 4; cell++) {
      Bench one = new Bench("", cell, 0);
      for (int i = 0; i < 8; i++) {
        one.type("" + (10 + i));
        one.house.put(0, i, 0);
      }
      one.data("0 LOAD 7 LOAD 3 LOAD", "10 17 13");
      for (String t : "8 -1 9 256 32767 -32768".split(" ")) {
        b.due(t, one.run(t + " LOAD"), -2);
        b.due("code of " + t, one.house.thrown(0, 0), -35);
      }
    }
    b.end();
  }

  private static void blockEnds() {
    Bench b = new Bench("part 2: a BLOCK has 512 bytes", 4, 0);
    b.type("777");
    b.due("its end", b.house.put(0, 2, 509), 3);
    b.data("2 LOAD", "777");
    b.type("8");
    b.house.put(0, 3, 0);
    b.data("2 LOAD", "777");
    b.type(">IN @");
    b.house.put(0, 4, 507);
    b.data("4 LOAD", "512");
    b.data("511 5 LOAD >IN @", "511 16");
    b.type("S\" ");
    b.house.put(0, 6, 500);
    b.data("6 LOAD", "128 9");
    for (int i = 0; i < 9; i++) b.due("a blank", b.house.fetch(0, 128 + i, 1), 32);
    b.end();
  }

  private static void asItIs() {
    Bench b = new Bench("part 2: a text is as it is when a word is read", 4, 0);
    b.data("S\" 54 128 9 + C! 0 \" EVALUATE", "0");
    b.data("S\" 54 141 C!  1 2 \" EVALUATE", "1 6");
    Bench c = new Bench("", 4, 0);
    c.type("1 2 3");
    c.house.put(0, 6, 0);
    b.due("in it", c.run(0, "6 LOAD", 3), 1);
    c.type("4");
    c.house.put(0, 6, 2);
    b.due("on", c.house.go(0, 9), 0);
    b.due("a BLOCK as it is", c.data(0, 0), "1 4 3");
    b.end();
  }

  private static void textsEnd() {
    Bench b = new Bench("part 2: at its end the one before goes on, >IN, RETURN, LOOPS and LOCALS as they were", 4, 0);
    b.data("S\" 500 >IN ! 9\" EVALUATE 6", "6");
    b.data("S\" 9 ' >R EXECUTE 8 ' >R EXECUTE\" EVALUATE 6", "6");
    b.due("RETURN", b.house.depth(0, 0, 1), 0);
    b.data("7 ' >R EXECUTE S\" 9 ' >R EXECUTE\" EVALUATE ' R> EXECUTE", "7");
    b.data(": a {: x :} 3 0 DO I 1 = IF S\" 5\" EVALUATE x THEN LOOP x ; 4 a", "5 4 4");
    b.data(": c 8 >R S\" 9 ' >R EXECUTE\" EVALUATE R> ; c", "8");
    b.thrown("7 ' >R EXECUTE S\" ' R> EXECUTE\" EVALUATE", -6);
    b.thrown("7 ' >R EXECUTE S\" ' R@ EXECUTE\" EVALUATE", -6);
    b.thrown(": d 1 0 DO S\" ' I EXECUTE\" EVALUATE LOOP ; d", -26);
    b.end();
  }

  private static void order() {
    Bench b = new Bench("part 2: the search order's lists from the latest on, in each the newest one of that name", 4, 0);
    b.good(": x 1 ; : x 2 ; WORDLIST CONSTANT l l >ORDER DEFINITIONS : x 3 ; : x 4 ; WORDLIST >ORDER DEFINITIONS : y 5 ;");
    b.data("x y", "4 5");
    b.good("ONLY");
    b.data("x", "2");
    b.thrown("y", -13);
    b.good("l >ORDER 1 >ORDER");
    b.data("x PREVIOUS x PREVIOUS x", "2 4 2");
    b.thrown("PREVIOUS x", -13);
    b.thrown("DUP", -13);
    b.data("5 'a'", "5 97");
    b.end();
  }

  private static void hidden() {
    Bench b = new Bench("part 2: a definition is HIDDEN until its ; is", 4, 0);
    b.data(": x 1 ; : x x 2 ; x", "1 2");
    b.good(": y 1 [");
    b.due("not found", b.find("y"), NONE);
    b.due("HIDDEN", b.house.word(0, b.house.count(0, 13), 7), 1);
    b.thrown("y", -13);
    b.good(": y 1 ;");
    b.due("found", b.find("y"), b.house.count(0, 13));
    b.due("not HIDDEN", b.house.word(0, b.house.count(0, 13), 7), 0);
    b.thrown(": z [ ' z", -13);
    b.good("5 CONSTANT k");
    b.due("others never are", b.house.word(0, b.find("k"), 7), 0);
    b.end();
  }

  private static void localsFirst() {
    Bench b = new Bench("part 2: a local is looked for first, while compiling", 4, 0);
    b.data(": a {: DUP :} DUP DUP ; 7 a", "7 7");
    b.data(": c {: 5 :} 5 ; 8 c", "8");
    b.data(": d {: ; x :} x [ 3 ] LITERAL [", "");
    b.due("; is a local there", b.run("] ; ["), 0);
    b.thrown("foo", -13);
    b.data("9 CONSTANT y : e {: y :} y [ y ] LITERAL ; 1 e", "1 9");
    b.due("DATA", b.data(0, 0), "");
    b.thrown(": f {: z :} [ z", -13);
    b.end();
  }

  private static void onlyForCompiling() {
    Bench b = new Bench("part 2: -14 is a word that is only for compiling", 4, 0);
    String all = ">R R> R@ 2>R 2R> IF ELSE THEN BEGIN UNTIL WHILE REPEAT AGAIN AHEAD DO ?DO LOOP +LOOP LEAVE I J UNLOOP EXIT CASE OF "
        + "ENDOF ENDCASE ; ['] [CHAR] LITERAL POSTPONE RECURSE DOES> ABORT\" {: [: ;]";
    String told = " " + all + " ";
    for (int t = 0; t < 172; t++) {
      Bench one = new Bench("", 4, 0);
      StringBuilder name = new StringBuilder();
      for (int i = 0; i < one.house.word(0, t, 6); i++) name.append((char) one.house.name(0, t, i));
      one.run("5 5 5 5 " + name);
      // ] is -14 as well, because nothing is under way.
      boolean only = told.contains(" " + name + " ") || t == 115;
      b.due("while interpreting " + name, one.house.thrown(0, 0) == -14, only);
      if (only) b.due(">IN behind it", one.house.thrown(0, 1), 8 + name.length());
    }
    b.end();
  }

  private static void immediateOnes() {
    Bench b = new Bench("part 2: while compiling it is done if it is IMMEDIATE, else WORD is added", 4, 0);
    b.good(": a 1 ; : c 2 ; IMMEDIATE 6 CONSTANT k IMMEDIATE 7 VALUE v");
    b.data(": d a c k v [", "2 6");
    b.due("items", b.items(0, 4, 6), "0:172 0:175");
    b.thrown("foo", -13);
    for (int t = 0; t < 172; t++) {
      if (b.house.word(0, t, 1) != 0) continue;
      StringBuilder name = new StringBuilder();
      for (int i = 0; i < b.house.word(0, t, 6); i++) name.append((char) b.house.name(0, t, i));
      Bench one = new Bench("", 4, 0);
      one.good(": w " + name + " [");
      b.due("an item of " + name, one.items(0, 0, one.house.count(0, 2)), "0:" + t);
    }
    b.end();
  }

  private static void quoted() {
    Bench b = new Bench("part 2: ' , any byte, ' is a number");
    for (int i = 33; i < 256; i++) {
      Bench one = new Bench("", 4, i % 8);
      b.due("byte " + i, one.run("'" + (char) i + "'"), 0);
      b.due("byte " + i, one.data(0, 0), "" + i);
    }
    Bench c = new Bench("", 4, 0);
    for (String t : "'a 'ab 'ab' a'' ''a '' ''''".split(" ")) {
      c.run(t);
      b.due("none: " + t, c.house.thrown(0, 0), -13);
      c.run("ABORT");
    }
    c.data("#0 #0 ! 'z' #10 #0 !", "122");
    c.good(": q 'z' ;");
    b.due("LIT", c.items(0, 0, 2), "1:122 0:150");
    b.end();
  }

  private static void bases() {
    Bench b = new Bench("part 2: BASE is 2 .. 36, and # $ % are 10, 16, 2 by any of them", 4, 0);
    String all = "0123456789ABCDEFGHIJKLMNOPQRSTUVWXYZ";
    for (int base = 2; base <= 36; base++) {
      b.good("#" + base + " #0 ! ");
      // A 1 ahead keeps them from being words.
      b.data("1" + all.charAt(base - 1) + " -1" + Character.toLowerCase(all.charAt(base - 1)), (2 * base - 1) + " " + (1 - 2 * base));
      if (base < 36) b.thrown("1" + all.charAt(base), -13);
      b.thrown("1:", -13);
      b.data("#19 $1f %10", "19 31 2");
      b.thrown("#1A", -13);
      b.thrown("$1G", -13);
      b.thrown("%12", -13);
    }
    b.end();
  }

  private static void badBase() {
    Bench b = new Bench("part 2: -40 unless BASE is 2 .. 36, whatever follows", 2, 0);
    for (String base : "0 1 37 -1 -10 32767 256".split(" ")) {
      b.good("#" + base + " #0 !");
      for (String t : "5 foo - . 1. -x '' 'ab' (".split(" ")) {
        if (b.find(t) < 0) b.thrown(t, -40);
      }
      b.data("#5 $-f %1. 'x' DROP 2DROP", "5 -15");
      b.thrown("$", -13);
      b.thrown(": x 5", -40);
      b.thrown("' foo", -13);
    }
    b.good("#2 #0 !");
    b.data("1", "1");
    b.good("#36 #0 !");
    b.data("1Z", "71");
    b.end();
  }

  private static void digits() {
    Bench b = new Bench("part 2: perhaps - , digits 0 .. 9, A .. Z, also small, below the base", 4, 2);
    b.data("-5 #-5 $-A %-1 0 00012 -0", "-5 -5 -10 -1 0 12 0");
    b.data("$aF $Af", "175 175");
    for (String t : "5- --5 -#5 +5 5- 1,0 1/2 1:2 1@2 1[2 1`2 1{2 #-$5 $#5 1_0".split(" ")) b.thrown(t, -13);
    for (String t : ("/ : @ [ ` {").split(" ")) b.thrown("$1" + t, -13);
    b.thrown("1" + (char) 0xB0, -13);
    b.end();
  }

  private static void noDigits() {
    Bench b = new Bench("part 2: one digit at least", 4, 0);
    for (String t : "# $ % #- $- %- #. $. %. #-. $-. -.".split(" ")) {
      if (b.find(t) < 0) b.thrown(t, -13);
    }
    b.good(": none PREVIOUS ;");
    b.house.keep(0, 0);
    for (String t : "- . -. #".split(" ")) {
      b.house.again(0, 0);
      b.thrown("none " + t, -13);
    }
    b.end();
  }

  private static void doubles() {
    Bench b = new Bench("part 2: with a . behind it is a double, without one the lower cell counts", 2, 0);
    b.data("65536. 65536 65537 -65537. -1. 1. 0.", "0 1 0 1 -1 -2 -1 -1 1 0 0 0");
    for (String t : "1.. .1 1.5 1.- -.1 ..".split(" ")) b.thrown(t, -13);
    b.data("$10. #10. %10. #-1.", "16 0 10 0 2 0 -1 -1");
    b.good(": a 65538. ;");
    b.due("the lower first", b.items(0, 0, 3), "1:2 1:1 0:150");
    b.end();
  }

  private static void reckonedRound() {
    Bench b = new Bench("part 2: a number is reckoned round by two cells");
    b.due("2 bytes", Bench.output(2, 0, "4294967295. . . 4294967296. . . 4294967297 . 2147483648. . . -4294967295. . ."),
        "-1 -1 0 0 1 -32768 0 0 1 ");
    b.due("3 bytes", Bench.output(3, 0, "281474976710655. . . 281474976710656. . . 281474976710661 ."), "-1 -1 0 0 5 ");
    b.due("4 bytes", Bench.output(4, 0, "18446744073709551615. . . 18446744073709551616. . . 18446744073709551623 . -18446744073709551615. . ."),
        "-1 -1 0 0 7 0 1 ");
    b.due("many digits", Bench.output(4, 0, "HEX 123456789ABCDEF0123456789ABCDEF. . . 00000000000000000000000000005 ."), "1234567 -76543211 5 ");
    b.end();
  }

  private static void whereNumbersGo() {
    Bench b = new Bench("part 2: a number is put on DATA, while compiling LIT is added", 4, 0);
    b.good(": ones 0 DO 1 LOOP ;");
    b.due("room for two", b.run("62 ones 5."), 0);
    b.due("64", b.house.depth(0, 0, 0), 64);
    b.thrown("5", -3);
    b.thrown("63 ones 5.", -3);
    b.thrown("64 ones 5", -3);
    b.thrown("64 ones 'a'", -3);
    b.good("63 ones 5");
    b.good(": w 5 6. 'a' ;");
    b.due("LIT whatever is on DATA", b.house.depth(0, 0, 0), 64);
    b.due("items", b.items(0, 5, 10), "1:5 1:6 1:0 1:97 0:150");
    b.end();
  }

  private static void noneOfThem() {
    Bench b = new Bench("part 2: what is neither found nor a number is -13", 4, 0);
    for (String t : "foo DUPP DU 1x abcdefghijklmnopqrstuvwxy abcdefghijklmnopqrstuvwxyabcdefghijklmnopqrstuvwxy".split(" ")) {
      b.thrown("5 " + t + " 6", -13);
      b.due(">IN is behind it", b.house.thrown(0, 1), 3 + t.length());
      b.thrown(": w " + t, -13);
      b.thrown("' " + t, -13);
      b.thrown(": w ['] " + t, -13);
      b.thrown(": w POSTPONE " + t, -13);
      b.thrown("5 TO " + t, -13);
      b.thrown("5 IS " + t, -13);
    }
    b.end();
  }

  private static void notThere() {
    Bench b = new Bench("part 2: a name that is not there is -16", 4, 0);
    for (String w : ": CONSTANT VARIABLE VALUE CREATE DEFER MARKER ' CHAR TO IS".split(" ")) {
      for (String end : new String[] {"", " ", "    ", "\n"}) b.thrown("5 " + w + end, -16);
      b.due("no word", b.house.count(0, 1), 172);
    }
    for (String w : "['] [CHAR] POSTPONE TO IS".split(" ")) b.thrown(": w " + w + "  ", -16);
    b.thrown("CREATE a' CONSTANT", -16);
    b.due("where the text ends", b.house.thrown(0, 1), 18);
    b.end();
  }

  private static void tooLong() {
    Bench b = new Bench("part 2: a name of more than 24 bytes is -19, only where one is made", 4, 0);
    String name = "abcdefghijklmnopqrstuvwx";
    for (String w : ": CONSTANT VARIABLE VALUE CREATE DEFER MARKER".split(" ")) {
      b.thrown("5 " + w + " " + name + "y z", -19);
      b.due("it was read", b.house.thrown(0, 1), 2 + w.length() + 27);
      b.thrown("5 " + w + " " + name + name + name + name + name, -19);
    }
    b.due("no word", b.house.count(0, 1), 172);
    for (String w : "' TO IS".split(" ")) b.thrown("5 " + w + " " + name + "y", -13);
    b.data("CHAR " + name + "y", "97");
    b.good("7 CONSTANT " + name);
    b.data(name, "7");
    b.thrown(name + "y", -13);
    b.thrown(name.substring(1), -13);
    b.end();
  }

  /** The code by which a definition ends a task. */
  private static int inTask(Bench b, String text) {
    b.good(": w " + text + " ; ' w TASK DROP PAUSE 77 88 2DROP");
    return (3 - b.house.task(0, 1)) / 16;
  }

  private static void otherTasks() {
    Bench b = new Bench("part 2: in other tasks than 0 there is no text, nothing stands there", 4, 0);
    b.good("5 VALUE v DEFER d");
    for (String w : "' CHAR CREATE VARIABLE DEFER : CONSTANT VALUE MARKER".split(" ")) b.due(w, inTask(b, w), -16);
    for (String w : "TO IS".split(" ")) b.due(w, inTask(b, "5 [ ' " + w + " ] LITERAL EXECUTE"), -16);
    b.due("S\"", inTask(b, "[ ' S\" ] LITERAL EXECUTE SWAP . ."), 0);
    b.due("an empty one", b.out(0), "128 0 ");
    for (String w : ".\" ( \\".split(" ")) b.due(w, inTask(b, "[ ' " + w + " ] LITERAL EXECUTE"), 0);
    b.due("nothing is put out", b.out(0), "128 0 ");
    b.data("5 6", "5 6");
    b.end();
  }

  private static void otherTasksOrder() {
    Bench b = new Bench("part 2: in other tasks EVALUATE and LOAD are -24, ahead of -9, -35, these ahead of -5", 4, 0);
    b.due("EVALUATE", inTask(b, "128 1 EVALUATE"), -24);
    b.due("of no bytes", inTask(b, "128 0 EVALUATE"), -24);
    b.due("ahead of -9", inTask(b, "9999 9 EVALUATE"), -24);
    b.due("behind -4", inTask(b, "9 EVALUATE"), -4);
    b.due("LOAD", inTask(b, "1 LOAD"), -24);
    b.due("ahead of -35", inTask(b, "8 LOAD"), -24);
    b.due("behind -4", inTask(b, "LOAD"), -4);
    b.good("VARIABLE n : s n @ IF -1 n +! 128 2 EVALUATE ELSE EXECUTE THEN ; : e 9999 9 EVALUATE ; : l 8 LOAD ; : g 0 LOAD ;");
    b.good("S\" s \" 2DROP");
    b.thrown("' e 5 n ! s", -9);
    b.thrown("' l 5 n ! s", -35);
    b.thrown("' g 5 n ! s", -5);
    b.good(": deep DUP IF 1- RECURSE ELSE DROP EXECUTE THEN ;");
    b.thrown("' e 38 deep", -9);
    b.thrown("' l 38 deep", -35);
    b.thrown("' g 38 deep", -5);
    b.good("' g 37 deep");
    b.end();
  }

  private static void emptyEvaluate() {
    Bench b = new Bench("part 2: EVALUATE of no bytes looks at no address", 2, 0);
    for (String at : "0 4095 4096 5000 -1 -32768".split(" ")) {
      b.good(at + " 0 EVALUATE");
      if (!at.equals("0") && !at.equals("4095")) b.thrown(at + " 1 EVALUATE", -9);
    }
    b.good("4095 1 EVALUATE");
    b.thrown("4095 2 EVALUATE", -9);
    b.thrown("0 4097 EVALUATE", -9);
    b.thrown("0 -1 EVALUATE", -9);
    b.thrown("4095 -1 EVALUATE", -9);
    b.due("its end is a step all the same", b.run(0, "9999 0 EVALUATE", 3), 1);
    b.due("nested", b.house.count(0, 15), 1);
    b.due("its end", b.house.go(0, 1), 1);
    b.due("the end", b.house.go(0, 1), 0);
    b.end();
  }
}
