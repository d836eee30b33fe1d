/** Part 2: how texts are read, numbers, names, nested texts and blocks. */
public final class TextsTest {
  public static void main(String[] args) {
    parting();
    in();
    numbers();
    names();
    nested();
    blocks();
    looking();
    strings();
    stringsOverIn();
    Bench.exit();
  }

  private static void parting() {
    Bench b = new Bench("parting words");
    b.house.system(4, 0);
    for (int i = 0; i <= 32; i++) {
      b.house.type('1', 1);
      b.house.type(i, 1);
      b.house.type('2', 1);
      b.due("byte " + i, b.house.evaluate(0, 9), 0);
      b.due("byte " + i, b.data(0, 0), "1 2");
      b.run("2DROP");
    }
    b.type("1" + (char) 160 + "2");
    b.due("byte 160 parts nothing", b.house.evaluate(0, 9), -2);
    b.due("steps of a text of blanks", b.run(0, "   ", 1), 0);
    b.due(">IN", b.house.fetch(0, 4, 0), 3);
    b.end();
  }

  private static void in() {
    Bench b = new Bench(">IN", 4, 0);
    b.data("1 >IN @ 2", "1 8 2");
    b.data("1 >IN @", "1 7");
    b.data("10 >IN ! 5 6 7", "6 7");
    b.data("1 100 >IN ! 2 3", "1");
    b.due("the end", b.house.fetch(0, 4, 0), 4);
    b.data("1 -1 >IN ! 2", "1");
    b.data(": a 100 >IN ! POSTPONE ( >IN @ ; a 2 3", "38");
    b.data("VARIABLE n : b n @ IF EXIT THEN 1 n ! 0 >IN ! ; 9 DROP", "");
    b.data("7 b", "7 7");
    b.due("2 bytes without sign", Bench.output(2, 0, "5 . -2 >IN ! 6 ."), "5 ");
    b.end();
  }

  private static void numbers() {
    Bench b = new Bench("numbers", 4, 0);
    b.data("12 -12 #12 #-12 $1F $-1f %101 %-11 'a' '''", "12 -12 12 -12 31 -31 5 -3 97 39");
    b.data("4294967295 4294967296 -4294967297 99999999999999999999", "-1 0 -1 1661992959");
    b.data("1. -1. $FFFFFFFFF. #-5. 0.", "1 0 -1 -1 -1 15 -5 -1 0 0");
    b.data(": a 5. ; a", "5 0");
    b.due("the lower one first", b.items(0, 0, 3), "1:5 1:0 0:150");
    b.data("HEX ff FF -aB DECIMAL", "255 255 -171");
    b.data("36 BASE ! z zZ #35 BASE ! DECIMAL", "35 1295");
    for (String s : "- . -. $ # % #- $. 1a 12- 1.2 1.. %2 $G #A 'ab' 'a ' '' --1 +1 ,5 $'a' -$5 1- 5'".split(" ")) {
      if (b.find(s) < 0) b.thrown(s, -13);
    }
    b.thrown("37 BASE ! foo", -40);
    b.thrown("12", -40);
    b.thrown("$10 foo", -40);
    b.data("'x' $10 #10 %10 DROP DROP DROP DROP #10 #0 !", "");
    b.thrown("1 BASE ! -", -4);
    b.thrown("1 #0 !", -40);
    b.good("#10 #0 !");
    b.thrown("HEX 1G", -13);
    b.thrown("DECIMAL 1A", -13);
    b.thrown(": q 63 0 DO 1 LOOP ; q 1.", -3);
    b.good("q 1");
    b.end();
  }

  private static void names() {
    Bench b = new Bench("names", 4, 0);
    String long24 = "abcdefghijklmnopqrstuvwx";
    b.data("5 CONSTANT " + long24 + " " + long24, "5");
    for (String w : ": CONSTANT VARIABLE VALUE CREATE DEFER MARKER".split(" ")) {
      b.thrown(w, -16);
      b.thrown(w + " " + long24 + "y", -19);
    }
    for (String w : "' CHAR TO IS".split(" ")) b.thrown(w + "  ", -16);
    for (String w : "['] [CHAR] POSTPONE".split(" ")) b.thrown(": a " + w, -16);
    b.thrown("' " + long24 + "y", -13);
    b.thrown("' foo", -13);
    b.thrown(long24 + "y", -13);
    b.data("CHAR " + long24 + "y", "97");
    b.caught("7", "S\" CONSTANT\" EVALUATE", "7 -16");
    b.thrown("CONSTANT ab", -4);
    b.thrown("VALUE ab", -4);
    b.due("no word was made", b.find("ab"), -1);
    b.data(": aBc 1 ; ABC", "1");
    b.due("by case", Bench.output(4, 2, ": aBc 1 ; : ABC 2 ; aBc . ABC ."), "1 2 ");
    b.due("numbers are not by case", Bench.output(4, 2, "HEX fF ."), "FF ");
    b.data("1 CONSTANT " + (char) 193 + " 2 CONSTANT " + (char) 225 + " " + (char) 193, "1");
    b.data("3 CONSTANT [z 4 CONSTANT {Z [z {z", "3 4");
    b.end();
  }

  private static void nested() {
    Bench b = new Bench("nested texts", 4, 0);
    b.data("S\" 1 2\" EVALUATE 3", "1 2 3");
    b.data("9 9 0 EVALUATE 4000 1 EVALUATE 9999 0 EVALUATE", "9");
    b.thrown("4095 2 EVALUATE", -9);
    b.thrown("-1 1 EVALUATE", -9);
    b.thrown("1 EVALUATE", -4);
    b.good(": r 128 8 EVALUATE ;");
    b.thrown("S\" r       \" EVALUATE", -5);
    b.due("five texts", b.house.thrown(0, 2), 5);
    b.due("none is left", b.house.count(0, 15), 0);
    b.good("VARIABLE n : s n @ 5 < IF 1 n +! 128 8 EVALUATE THEN ; S\" s 1     \" 2DROP s");
    b.due("five go", b.data(0, 0), "1 1 1 1 1");
    b.good("DROP DROP DROP DROP DROP");
    b.due("a step at its end", b.run(0, "S\" 1\" EVALUATE", 4), 1);
    b.due("end of both", b.house.go(0, 2), 0);
    b.good("DROP");
    b.data("S\" 42 128 C! 1\" EVALUATE", "1");
    b.data("S\" 50 138 C! 1 \" EVALUATE", "2");
    b.data("S\" 7 ' >R EXECUTE\" EVALUATE", "");
    b.due("RETURN as it was", b.house.depth(0, 0, 1), 0);
    b.thrown("8 ' >R EXECUTE S\" ' R> EXECUTE\" EVALUATE", -6);
    b.data(": t S\" 5\" EVALUATE 6 ; t 7", "5 6 7");
    b.good(": u 1 S\" : v 2 \" EVALUATE ; u 3 ; v");
    b.due("a definition goes on", b.data(0, 0), "1 2 3");
    b.end();
  }

  private static void blocks() {
    Bench b = new Bench("blocks", 4, 0);
    b.type("1 2 \\ 3 4");
    b.house.put(0, 2, 0);
    b.type("5 >IN @");
    b.house.put(0, 2, 64);
    b.data("2 LOAD 6", "1 2 5 72 6");
    b.type("1 2 (  4 ) 9");
    b.house.put(0, 2, 0);
    b.data("2 LOAD", "1 2 9 5 72");
    b.type("\\");
    b.house.put(0, 3, 62);
    b.type("7 8 \\");
    b.house.put(0, 3, 64);
    b.type("9");
    b.house.put(0, 3, 127);
    b.data("3 LOAD", "7 8");
    b.type("\\");
    b.house.put(0, 6, 63);
    b.type("8");
    b.house.put(0, 6, 66);
    b.type("9");
    b.house.put(0, 6, 129);
    b.data("6 LOAD", "9");
    b.thrown("8 LOAD", -35);
    b.thrown("-1 LOAD", -35);
    b.thrown("LOAD", -4);
    b.type("4 LOAD ");
    b.house.put(0, 4, 0);
    b.thrown("4 LOAD", -5);
    b.due("steps", b.run(0, "5 LOAD", 3), 1);
    b.due("a block of blanks", b.house.go(0, 1), 0);
    b.type(": w 1 [");
    b.house.put(0, 4, 0);
    b.good("4 LOAD ] ; w");
    b.due("w", b.data(0, 0), "1");
    b.due("nested", b.run(0, "4 LOAD", 4), 1);
    b.due("a BLOCK", b.house.count(0, 15), 1);
    b.type("6");
    b.house.put(0, 4, 6);
    b.due("as it is when a word is read", b.house.go(0, 1), 1);
    b.due("6", b.house.item(0, b.house.count(0, 2) - 1, 1), 6);
    b.end();
  }

  private static void looking() {
    Bench b = new Bench("looking for words", 4, 0);
    b.data(": a 1 ; : a a 2 ; a", "1 2");
    b.data(": DUP 7 ; DUP", "7");
    b.good("WORDLIST CONSTANT l l >ORDER DEFINITIONS : a 9 ;");
    b.data("a ONLY a", "9 1 2");
    b.data("l >ORDER a PREVIOUS a", "9 1 2");
    b.thrown("PREVIOUS DUP", -13);
    b.due("the order stays", b.house.count(0, 7), 0);
    b.thrown("ONLY", -13);
    b.end();
  }

  private static void strings() {
    Bench b = new Bench("strings while interpreting", 4, 0);
    StringBuilder s = new StringBuilder();
    for (int i = 0; i < 128; i++) s.append('a');
    b.data("S\" " + s + "\"", "128 128");
    b.due("the last byte", b.house.fetch(0, 255, 1), 97);
    b.thrown("S\" " + s + "b\"", -18);
    b.due("HERE", b.house.fetch(0, 256, 1), 0);
    b.good(".\" " + s + s + "\"");
    b.due("however long", b.house.count(0, 3), 256);
    b.thrown(": q 63 0 DO 1 LOOP ; q S\" " + s + "b\"", -3);
    b.due(">IN is behind it", b.house.thrown(0, 1), 26 + 130);
    b.end();
  }

  /** Texts from 0 on hold the cell of >IN: a string is what stood there as it was read. */
  private static void stringsOverIn() {
    Bench b = new Bench("strings that lie over >IN", 2, 4);
    b.good("21282 2 ! 0 9 EVALUATE");
    b.due("S\"", b.data(0, 0), "128 4");
    b.due("its first byte is >IN then", b.house.fetch(0, 128, 1), 5);
    b.due("the others are 0", b.house.fetch(0, 129, 1) + b.house.fetch(0, 130, 0), 0);
    b.good("2DROP 11810 2 ! 0 9 EVALUATE");
    b.due(".\"", b.out(0), "" + (char) 5 + (char) 0 + (char) 0 + (char) 0);
    b.good("21282 2 ! : e 0 9 EVALUATE ; IMMEDIATE : a e ;");
    b.due("S\" in a definition", b.house.fetch(0, 256, 1), 5);
    b.data("a", "256 4");
    b.good("11810 2 ! : p e ; p");
    b.due(".\" in a definition", b.out(0).length() + b.house.out(0, 4), 13);
    b.due("as it was read", b.house.fetch(0, 260, 1), 5);
    b.end();
  }
}
