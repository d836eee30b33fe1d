/** Part 3: definitions, CONTROL, quotations, DOES>, locals, TO and its like. */
public final class DefinitionsTest {
  public static void main(String[] args) {
    colon();
    underWay();
    control();
    unpaired();
    cases();
    loops();
    quotations();
    does();
    locals();
    localsWrong();
    compiling();
    settings();
    strings();
    notNow();
    full();
    takenBack();
    Bench.exit();
  }

  private static void colon() {
    Bench b = new Bench(": and ;", 4, 0);
    b.good(": a 1");
    b.due("STATE", b.house.count(0, 5), 1);
    b.due("HIDDEN", b.find("a"), -1);
    b.due("latest", b.house.count(0, 13), 172);
    b.good("2 ;");
    b.due("STATE", b.house.count(0, 5), 0);
    b.data("a", "1 2");
    b.data(":NONAME 5 ; DUP EXECUTE", "173 5");
    b.due("latest with a name", b.house.count(0, 13), 172);
    b.due("items", b.items(0, 0, 5), "1:1 1:2 0:150 1:5 0:150");
    b.good(": e ; IMMEDIATE");
    b.due("only EXIT", b.house.word(0, 174, 4), 1);
    b.due("IMMEDIATE", b.house.word(0, 174, 1), 1);
    Bench c = new Bench("", 4, 0);
    b.due("IMMEDIATE without one", c.run("IMMEDIATE") * 100 + c.house.thrown(0, 0), -216);
    b.due("of :NONAME", c.run(":NONAME ; IMMEDIATE") * 100 + c.house.thrown(0, 0), -216);
    b.end();
  }

  private static void underWay() {
    Bench b = new Bench("under way", 4, 0);
    b.thrown(": a [ : b", -29);
    b.thrown(": a [ :", -29);
    b.thrown(": a [ :NONAME", -29);
    b.thrown(": a [ MARKER", -29);
    b.thrown("]", -14);
    b.data(": a [ 5 ] LITERAL ; a", "5");
    b.data(": a [ CREATE c 7 , ] 1 ; c @", "7");
    b.due("latest", b.house.count(0, 13), b.find("c"));
    b.data(": d [ [ ] 3 ; d", "3");
    b.thrown(": d2 ] ; d2", -14);
    b.good(": f [");
    b.due("STATE", b.house.count(0, 5), 0);
    b.data("1 2", "1 2");
    b.good("] 8 ;");
    b.data("f", "8");
    b.end();
  }

  private static void control() {
    Bench b = new Bench("CONTROL", 4, 0);
    b.data(": a IF 1 ELSE 2 THEN 3 ; 0 a 5 a", "2 3 1 3");
    b.due("items", b.items(0, 0, 6), "3:3 1:1 2:4 1:2 1:3 0:150");
    b.data(": b BEGIN 1- DUP 0= UNTIL ; 5 b", "0");
    b.data(": c AHEAD 1 THEN 2 ; c", "2");
    b.data(": d 0 BEGIN 1+ DUP 3 = IF EXIT THEN AGAIN ; d", "3");
    b.data(": e 0 BEGIN DUP 3 < WHILE 1+ REPEAT ; e", "3");
    b.data(": f 0 BEGIN 1+ DUP 5 < WHILE DUP 3 < WHILE REPEAT 10 + ELSE 20 + THEN ; f", "13");
    b.good(": g IF BEGIN");
    b.due("pairs", b.house.count(0, 14), 2);
    b.thrown("foo", -13);
    b.due("no pairs", b.house.count(0, 14), 0);
    b.data(": h 0 IF IF 1 THEN 2 THEN 3 ; h", "3");
    b.end();
  }

  private static void unpaired() {
    Bench b = new Bench("what is not on top", 4, 0);
    for (String s : ("THEN|ELSE|UNTIL|AGAIN|WHILE|REPEAT|LOOP|+LOOP|LEAVE|ENDOF|ENDCASE|;]|IF ;|BEGIN ;|DO ;|CASE ;"
        + "|CASE OF ;|BEGIN THEN|BEGIN ELSE|IF UNTIL|IF AGAIN|IF WHILE|BEGIN REPEAT|BEGIN BEGIN REPEAT|IF LOOP"
        + "|DO THEN|DO IF LOOP|CASE ENDOF|CASE OF ENDCASE|CASE IF ENDCASE|CASE OF ENDOF ENDOF|IF DOES>|[: ;|[: IF ;]"
        + "|IF [: THEN|DO [: LEAVE|DO [: LOOP|IF [: ;] ;|CASE OF IF ENDOF").split("\\|")) {
      b.thrown(": w " + s, -22);
    }
    b.thrown(": x CASE IF OF THEN", -22);
    b.good(": y DO IF LEAVE THEN LOOP ;");
    b.good(": z IF [: IF THEN ;] DROP THEN ;");
    b.end();
  }

  private static void cases() {
    Bench b = new Bench("CASE", 4, 0);
    b.data(": a CASE 1 OF 10 ENDOF 2 OF 20 ENDOF 99 SWAP ENDCASE ; 1 a 2 a 3 a", "10 20 99");
    b.due("items", b.items(0, 0, 12), "1:1 9:4 1:10 2:11 1:2 9:8 1:20 2:11 1:99 0:2 0:1 0:150");
    b.data(": c CASE ENDCASE 5 ; 7 c", "5");
    b.data(": d CASE 5 OF 1 ENDOF 6 OF ENDOF ENDCASE ; 5 d 6 d 8 d", "1");
    b.thrown(": e 1 OF ; ", -22);
    b.good(": f CASE DUP IF 3 OF");
    b.due("pairs", b.house.count(0, 14), 3);
    b.thrown("ENDCASE", -22);
    b.end();
  }

  private static void loops() {
    Bench b = new Bench("loops compiled", 4, 0);
    b.good(": a DO IF LEAVE THEN ?DO LEAVE LOOP LEAVE +LOOP ;");
    b.due("items", b.items(0, 0, 9), "4:0 3:3 8:8 5:6 8:6 6:4 8:8 7:1 0:150");
    b.good(": b DO LEAVE");
    b.due("not known yet", b.items(0, 9, 11), "4:0 8:-11");
    b.good("IF 1 ELSE OF ?DO");
    b.due("not known yet", b.items(0, 11, 16), "3:14 1:1 2:0 9:0 5:0");
    b.end();
  }

  private static void quotations() {
    Bench b = new Bench("quotations", 4, 0);
    b.data(": a [: 1 2 ;] EXECUTE 3 ; a", "1 2 3");
    b.due("items", b.items(0, 0, 8), "2:4 1:1 1:2 0:150 1:173 0:122 1:3 0:150");
    b.due("its items", b.house.word(0, 173, 4), 3);
    b.due("its first", b.house.word(0, 173, 3), 1);
    b.due("all items", b.house.word(0, 172, 4), 8);
    b.due("its effect", b.house.effectOf(0, 173, 1), 2);
    b.due("no name", b.house.word(0, 173, 6), 0);
    b.data(": c [: [: [: [: 5 ;] EXECUTE ;] EXECUTE ;] EXECUTE ;] EXECUTE ; c", "5");
    b.thrown(": d [: [: [: [: [:", -29);
    b.data(": e {: x :} [: {: x :} x 1+ ;] EXECUTE x ; 5 6 e", "6 6");
    b.end();
  }

  private static void does() {
    Bench b = new Bench("DOES>", 4, 0);
    b.data(": con CREATE , DOES> @ ; 5 con f 6 con g f g", "5 6");
    b.due("the item behind its DOES", b.house.word(0, b.find("f"), 5), 3);
    b.due("items", b.items(0, 0, 5), "0:106 0:72 10:0 0:64 0:150");
    b.thrown(": d DOES> ; : e ; d", -31);
    b.thrown(": m DOES> ; 5 CONSTANT k m", -31);
    b.thrown("VARIABLE v d", -31);
    b.data("CREATE h : d2 DOES> DROP 1 ; CREATE i d2 i h", "1 268");
    b.data(": two DOES> DROP 2 ; : t2 DOES> DROP 3 DOES> DROP 4 ; CREATE j two j t2 j j", "2 3 4");
    b.thrown(": n {: x :} x DOES> x ; ", -13);
    b.thrown(": n DOES> {: x :}", -22);
    b.thrown(": p >R DOES> ; CREATE q 5 p", -25);
    b.due("it has it all the same", b.house.word(0, b.find("q"), 5) > 0, true);
    b.end();
  }

  private static void locals() {
    Bench b = new Bench("locals", 4, 0);
    b.data(": a {: x y :} y x ; 1 2 a", "2 1");
    b.due("items", b.items(0, 0, 4), "11:34 12:1 12:0 0:150");
    b.data(": c {: x | y z -- foo bar :} x y z 5 TO z z ; 9 c", "9 0 0 5");
    b.due("ENTER of one of three", b.house.item(0, 4, 1), 1 + 48);
    b.good(": d {: :} ;");
    b.due("ENTER of none", b.items(0, b.house.word(0, b.find("d"), 3), b.house.count(0, 2)), "11:0 0:150");
    b.data(": e {: | | a :} | a ; e", "0 0");
    b.data(": f {: a b a :} a b ; 1 2 3 f", "3 2");
    b.data(": g {: DUP :} DUP DUP ; 4 g", "4 4");
    b.data(": h {: x :} x [ 5 CONSTANT x x ] LITERAL ; 4 h x", "4 5 5");
    b.data(": i {: a b c d e f g h :} h a ; 1 2 3 4 5 6 7 8 i", "8 1");
    b.data(": j {: a :} a IF a 1- RECURSE THEN a ; 2 j", "0 1 2");
    b.data(": k {: A :} a ; 6 k", "6");
    b.data(": l {: -- :} 1 ; l", "1");
    b.data(": m {: a |b :} |b a ; 1 2 m", "2 1");
    b.data(": n 1 {: a :} a 2 ; n", "1 2");
    b.data(": o {: a -- | b c d e f g h i j k abcdefghijklmnopqrstuvwxyzabc :} a ; 3 o", "3");
    b.due("by case", Bench.output(4, 2, "5 CONSTANT X : a {: x :} X x ; 6 a . ."), "6 5 ");
    b.end();
  }

  private static void localsWrong() {
    Bench b = new Bench("locals, wrong", 4, 0);
    b.thrown(": a {: x :} {: y :}", -22);
    b.due(">IN: ahead of what is read", b.house.thrown(0, 1), 15);
    b.thrown(": a IF {: x :}", -22);
    b.thrown(": a {: x", -39);
    b.thrown(": a {:", -39);
    b.thrown(": a {: x -- y", -39);
    b.thrown(": a {: a b c d e f g h i j :}", -8);
    b.due(">IN: behind the ninth", b.house.thrown(0, 1), 7 + 18);
    b.thrown(": a {: a b c d e f g | h i :}", -8);
    b.thrown(": a {: abcdefghijklmnopqrstuvwxy :}", -19);
    b.thrown(": a {: a b c d e f g h abcdefghijklmnopqrstuvwxy :}", -19);
    b.thrown("{: x :}", -14);
    b.thrown("foo", -13);
    b.data(": i {: a :} [: {: b :} b ;] EXECUTE a ; 3 4 i", "3 4");
    b.thrown(": j {: a :} [: a ;]", -13);
    b.data(": k IF [: {: a :} a ;] EXECUTE THEN ; 6 1 k", "6");
    b.thrown("1 i", -4);
    b.end();
  }

  private static void compiling() {
    Bench b = new Bench("POSTPONE and its like", 4, 0);
    b.good(": a POSTPONE + POSTPONE IF ;");
    b.due("items", b.items(0, 0, 3), "15:21 0:133 0:150");
    b.thrown("a", -14);
    b.data(": c POSTPONE DUP ; IMMEDIATE : d c * ; 7 d", "49");
    b.thrown("c", -14);
    b.thrown("POSTPONE DUP", -14);
    b.thrown(": e POSTPONE foo", -13);
    b.good(": f ['] DUP [CHAR] xyz [ 5 ] LITERAL RECURSE ;");
    b.due("items", b.items(0, b.house.word(0, b.find("f"), 3), b.house.count(0, 2)),
        "1:0 1:120 1:5 0:" + b.find("f") + " 0:150");
    b.data(": g [: RECURSE ;] DROP 1 ; g", "1");
    int q = b.find("g") + 1;
    b.due("RECURSE of the innermost", b.house.item(0, b.house.word(0, q, 3), 1), q);
    b.thrown(": h ['] foo", -13);
    b.thrown(": h {: x :} POSTPONE x", -13);
    b.thrown(": h {: x :} ['] x", -13);
    b.thrown(": h [ ' foo", -13);
    b.thrown(": h LITERAL", -4);
    b.data(": i POSTPONE LITERAL ; IMMEDIATE : j [ 9 ] i ; j", "9");
    b.thrown(": k >R ; ' RECURSE EXECUTE", -14);
    b.end();
  }

  private static void settings() {
    Bench b = new Bench("TO and IS", 4, 0);
    b.good("1 VALUE v DEFER d 5 CONSTANT k : w ; : w2 8 ;");
    b.data("2 TO v v : a TO v ; 3 a v", "2 3");
    b.data("' w2 IS d d : c IS d ; ' v c d", "8 3");
    b.due("items", b.items(0, 3, 5), "14:172 0:150");
    b.thrown("1 TO foo", -13);
    b.thrown("TO foo", -13);
    b.thrown("TO d", -32);
    b.thrown("TO k", -32);
    b.thrown("TO v", -4);
    b.thrown("IS v", -32);
    b.thrown("IS foo", -13);
    b.thrown("IS d", -4);
    b.thrown("9999 IS d", -9);
    b.thrown("9999 c", -9);
    b.thrown("c", -4);
    b.thrown("a", -4);
    b.thrown(": e {: x :} IS x", -13);
    b.thrown(": e TO k", -32);
    b.data(": f {: v :} 5 TO v v ; 1 f v", "5 3");
    b.data(": g {: x :} x [ 4 TO v ] ; v 5 g", "4 5");
    b.caught("1", "9999 c", "1 -9");
    b.data("DEFER d1 DEFER d2 DEFER d3 DEFER d4 DEFER d5 DEFER d6 DEFER d7 DEFER d8 ' w2 IS d8 ' d8 IS d7 "
        + "' d7 IS d6 ' d6 IS d5 ' d5 IS d4 ' d4 IS d3 ' d3 IS d2 ' d2 IS d1 d1", "8");
    b.thrown("DEFER d9 ' d1 IS d9 d9", -24);
    b.thrown("' d1 IS d8 d1", -24);
    b.end();
  }

  private static void strings() {
    Bench b = new Bench("strings compiled", 4, 0);
    b.good(": a S\" abc\" .\" de\" ABORT\" f\" ;");
    b.due("items", b.items(0, 0, 9), "1:256 1:3 1:259 1:2 0:89 1:261 1:1 16:0 0:150");
    b.due("HERE", b.house.count(0, 0), 262);
    b.due("byte", b.house.fetch(0, 261, 1), 'f');
    b.data(": c ABORT\" x\" 1 ; 0 c", "1");
    b.thrown("c", -4);
    b.caught("7 5", "c", "7 0 -2");
    b.due("put out", b.out(0), "x");
    b.end();
  }

  private static void notNow() {
    Bench b = new Bench("only for compiling", 4, 0);
    for (String w : ("; ['] [CHAR] LITERAL POSTPONE RECURSE DOES> ABORT\" {: [: ;] IF ELSE THEN BEGIN UNTIL WHILE "
        + "REPEAT AGAIN AHEAD DO ?DO LOOP +LOOP LEAVE CASE OF ENDOF ENDCASE").split(" ")) {
      b.thrown(w, -14);
      b.thrown("' " + w + " EXECUTE foo", -14);
      b.due(">IN: ahead of what is read", b.house.thrown(0, 1), 2 + w.length() + 9);
    }
    for (String w : ">R R> R@ 2>R 2R> I J UNLOOP EXIT".split(" ")) b.thrown(w, -14);
    b.thrown("' EXIT EXECUTE", -14);
    b.thrown("' I EXECUTE", -26);
    b.thrown("' R@ EXECUTE", -6);
    b.thrown("' UNLOOP EXECUTE", -26);
    b.end();
  }

  private static void full() {
    itemsFull();
    itemsFullCaught();
    wordsFull();
    pairsFull();
    spaceFull();
    markersFull();
  }

  /** Begins a definition with all items but so many taken, and goes on in its text. */
  private static void nearlyFull(Bench b, int room, String rest, int code) {
    int free = 4000 - b.house.count(0, 2) - room;
    int ended = b.runOn(": w [ " + free + " ] n, " + rest);
    b.due("with room for " + room + " " + rest, ended, code == 0 ? 0 : -2);
    b.due("code with room for " + room + " " + rest, code == 0 ? 0 : b.house.thrown(0, 0), code);
  }

  private static void itemsFull() {
    Bench b = new Bench("no room for an item", 4, 0);
    b.good(": n, BEGIN DUP WHILE 1- POSTPONE DUP REPEAT DROP ; IMMEDIATE 1 VALUE v DEFER d : c POSTPONE DUP ; IMMEDIATE");
    int items = b.house.count(0, 2);
    for (String x : ("DUP|5|c|IF|ELSE|AHEAD|DO|?DO|BEGIN UNTIL|BEGIN AGAIN|BEGIN WHILE|CASE OF|CASE ENDCASE|;|['] DUP"
        + "|[CHAR] x|[ 5 ] LITERAL|POSTPONE DUP|POSTPONE IF|RECURSE|1 TO v|TO v|IS d|DOES>|{: x :}|[:|EXIT").split("\\|")) {
      nearlyFull(b, 0, x, x.equals("ELSE") ? -22 : -8);
      b.due("taken back", b.house.count(0, 2), items);
    }
    for (String x : "5.|S\" a\"|.\" a\"|ABORT\" a\"|IF ELSE|BEGIN WHILE REPEAT|DO LOOP|CASE OF ENDOF|[: ;]".split("\\|")) {
      nearlyFull(b, 1, x, -8);
    }
    for (String x : ".\" a\"|ABORT\" a\"|DO LEAVE LOOP|[: ;]".split("\\|")) nearlyFull(b, 2, x, -8);
    nearlyFull(b, 3, "[: ;] ;", -8);
    b.due("HERE stays", b.house.count(0, 0), 256);
    nearlyFull(b, 4, ".\" a\" ;", 0);
    b.due("all are taken", b.house.count(0, 2), 4000);
    b.end();
  }

  private static void itemsFullCaught() {
    Bench b = new Bench("no room for an item, caught", 4, 0);
    b.good(": n, BEGIN DUP WHILE 1- POSTPONE DUP REPEAT DROP ; IMMEDIATE : t CATCH ; IMMEDIATE 9 9");
    nearlyFull(b, 1, "BEGIN IF [ ' IF ] t [ ' ELSE ] t [ ' UNTIL ] t [ ' REPEAT ] t [ ' BEGIN ] t [", 0);
    b.due("codes", b.data(0, 0), "9 9 -8 -8 -22 -22 0");
    b.due("pairs", b.house.count(0, 14), 3);
    b.good("] [ ' AGAIN ] t [ ' LEAVE ] t [ ' DOES> ] t [ ' ; ] t [ ' RECURSE ] t [ 5 ' LITERAL ] t [");
    b.due("codes", b.data(0, 0), "9 9 -8 -8 -22 -22 0 -8 -22 -22 -22 -8 0 -8");
    b.due("items", b.house.count(0, 2), 4000);
    b.end();
  }

  private static void wordsFull() {
    Bench b = new Bench("360 words", 4, 0);
    b.good(": mk S\" CREATE x\" EVALUATE ; : mks 0 DO mk LOOP ; : d [ 5 ] LITERAL ; 184 mks");
    b.due("words", b.house.count(0, 1), 359);
    b.thrown(": a [: ;]", -8);
    b.due("words", b.house.count(0, 1), 359);
    b.good("mk");
    b.due("words", b.house.count(0, 1), 360);
    for (String w : ": CREATE VARIABLE DEFER MARKER".split(" ")) b.thrown(w + " q", -8);
    b.thrown(":NONAME", -8);
    b.thrown("CONSTANT q", -4);
    b.thrown("5 CONSTANT abcdefghijklmnopqrstuvwxy", -19);
    b.due("HERE", b.house.count(0, 0), 256 + 8);
    b.end();
    Bench c = new Bench("a cell stays when there is no room for its word", 4, 0);
    c.good(": k S\" CONSTANT x\" EVALUATE ; : v S\" VALUE x\" EVALUATE ; : mk S\" CREATE x\" EVALUATE ; 0 0");
    c.good(": mks 0 DO mk LOOP ; 184 mks");
    c.data("5 ' k CATCH 6 ' v CATCH", "0 0 5 -8 6 -8");
    c.end();
  }

  private static void pairsFull() {
    Bench b = new Bench("32 pairs", 4, 0);
    StringBuilder ifs = new StringBuilder(": a ");
    for (int i = 0; i < 31; i++) ifs.append("IF ");
    for (String w : "IF AHEAD DO ?DO BEGIN CASE OF".split(" ")) {
      b.good(ifs + "BEGIN");
      b.due("pairs", b.house.count(0, 14), 32);
      b.thrown(w, -52);
    }
    b.thrown(ifs + "IF ELSE", -52);
    b.thrown(ifs + "BEGIN ELSE", -22);
    b.thrown(ifs + "BEGIN WHILE", -52);
    b.thrown(ifs + "IF WHILE", -22);
    b.thrown(ifs + "[: IF IF", -52);
    b.good(ifs + "OF ENDOF");
    b.thrown("ENDCASE", -22);
    b.good(ifs + "BEGIN UNTIL IF THEN ELSE");
    b.thrown("foo", -13);
    b.end();
  }

  private static void spaceFull() {
    Bench b = new Bench("no room in SPACE", 4, 0);
    b.good("4093 HERE - ALLOT");
    b.thrown("VARIABLE v", -8);
    b.due("no word", b.find("v"), -1);
    b.thrown(": a S\" abcd\"", -8);
    b.thrown(": a .\" abcd\"", -8);
    b.thrown(": a ABORT\" abcd\"", -8);
    b.good("CREATE c : a S\" abc\" ;");
    b.due("HERE", b.house.count(0, 0), 4096);
    b.data("a NIP c", "3 4093");
    b.good(": z S\" \" ; CREATE d");
    b.due("at the end", b.house.word(0, b.find("d"), 3), 4096);
    b.end();
  }

  private static void markersFull() {
    Bench b = new Bench("32 MARKERs", 4, 0);
    StringBuilder t = new StringBuilder();
    for (int i = 0; i < 32; i++) t.append("MARKER m").append(i).append(' ');
    b.good(t.toString());
    b.thrown("MARKER x", -8);
    b.thrown("MARKER", -16);
    b.good("m30 MARKER x MARKER y");
    b.thrown("MARKER z", -8);
    b.end();
  }

  private static void takenBack() {
    Bench b = new Bench("taken back", 4, 0);
    b.good("CREATE e");
    b.thrown(": a [ CREATE c 5 , WORDLIST >ORDER DEFINITIONS CREATE x ] IF [: 1 2 foo", -13);
    b.due("words", b.house.count(0, 1), 173);
    b.due("items", b.house.count(0, 2), 0);
    b.due("latest", b.house.count(0, 13), 172);
    b.due("STATE", b.house.count(0, 5), 0);
    b.due("pairs", b.house.count(0, 14), 0);
    b.due("HERE stays", b.house.count(0, 0), 260);
    b.due("lists stay", b.house.count(0, 6), 2);
    b.due("the order stays", b.house.count(0, 7), 2);
    b.due("the list for new words stays", b.house.count(0, 8), 2);
    b.thrown("]", -14);
    b.good("ONLY DEFINITIONS");
    b.thrown(":NONAME 1 2 foo", -13);
    b.due("words", b.house.count(0, 1), 173);
    b.good(": g 1 THROW ; : h ['] g CATCH ; IMMEDIATE : i h [ DROP ] 5 ; i");
    b.due("a caught one takes nothing back", b.data(0, 0), "5");
    b.end();
  }
}
