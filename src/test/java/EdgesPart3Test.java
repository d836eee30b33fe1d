/** Part 3, sentence by sentence: definitions, CONTROL, DOES>, locals, strings, and no room. */
public final class EdgesPart3Test {
  private static final int NONE = -1, BAD = -2;

  public static void main(String[] args) {
    colon();
    semicolon();
    noname();
    quotations();
    quotationsNested();
    underWay();
    nameless();
    brackets();
    controlItems();
    destinations();
    loops();
    cases();
    casesOnTop();
    withinQuotations();
    unpaired();
    unpairedChangesNothing();
    pairsFull();
    pairsFullChangesNothing();
    codesInOrder();
    doesMet();
    doesRefused();
    doesLocals();
    localsCounted();
    localsTaken();
    localsRefused();
    localsOnce();
    localsLast();
    postpone();
    settings();
    settingsOrder();
    noLocals();
    literals();
    stringsInterpreting();
    stringsCompiling();
    abortQuote();
    comments();
    lines();
    itemsFull();
    itemsFullChangesNothing();
    wordsFull();
    spaceFull();
    Bench.exit();
  }

  private static void colon() {
    Bench b = new Bench("part 3: : makes a HIDDEN word and begins its items, STATE is compiling", 4, 0);
    b.good("1 2 + DROP :   a [");
    b.due("HIDDEN", b.house.word(0, 172, 7), 1);
    b.due("its first item", b.house.word(0, 172, 3), 0);
    b.due("no items yet", b.house.word(0, 172, 4), 0);
    b.due("the latest", b.house.count(0, 13), 172);
    b.due("its kind", b.house.word(0, 172, 0), 1);
    b.good("] 5 6");
    b.due("STATE", b.house.count(0, 5), 1);
    b.due("items", b.house.count(0, 2), 2);
    b.due("none of them told yet", b.house.word(0, 172, 4), 0);
    b.due("no effect yet", b.house.effect(0, 172), BAD);
    b.end();
  }

  private static void semicolon() {
    Bench b = new Bench("part 3: ; adds EXIT, the word is seen, its EFFECT is worked, STATE is interpreting", 4, 0);
    b.good(": a ;");
    b.due("EXIT alone", b.items(0, 0, 1), "0:150");
    b.due("one item", b.house.word(0, 172, 4), 1);
    b.due("seen", b.find("a"), 172);
    b.due("effect", b.effect("a"), "1 0 0 -1");
    b.due("STATE", b.house.count(0, 5), 0);
    b.good(": c + ;");
    b.due("first", b.house.word(0, 173, 3), 1);
    b.due("items", b.house.word(0, 173, 4), 2);
    b.due("effect", b.effect("c"), "1 2 1 -1");
    b.thrown(";", -14);
    b.end();
  }

  private static void noname() {
    Bench b = new Bench("part 3: :NONAME likewise without a name, ; leaves its token", 4, 0);
    b.good(":NONAME 5");
    b.due("HIDDEN", b.house.word(0, 172, 7), 1);
    b.due("STATE", b.house.count(0, 5), 1);
    b.due("nothing left yet", b.house.depth(0, 0, 0), 0);
    b.data(";", "172");
    b.due("not HIDDEN", b.house.word(0, 172, 7), 0);
    b.due("no latest", b.house.count(0, 13), NONE);
    b.due("effect", b.house.effectOf(0, 172, 1), 1);
    b.good(": ones 0 DO 1 LOOP ; 63 ones :NONAME ;");
    b.due("place for the token", b.house.depth(0, 0, 0), 64);
    b.thrown(":NONAME ;", -3);
    b.due("taken back", b.house.count(0, 1), 175);
    b.good("64 ones : named ;");
    b.due("a named one leaves none", b.house.depth(0, 0, 0), 64);
    b.thrown("1 THROW", -3);
    b.thrown(":NONAME [:  ;", -22);
    b.thrown(":NONAME IF ;", -22);
    b.thrown("63 ones 1 :NONAME [: ;", -22);
    b.thrown("63 ones 1 :NONAME IF ;", -3);
    b.end();
  }

  private static void quotations() {
    Bench b = new Bench("part 3: [: adds JUMP over it, ;] adds EXIT and behind that LIT of its token", 4, 0);
    b.good(": a 1 [: 2 + ;] 3 ;");
    b.due("items", b.items(0, 0, 8), "1:1 2:5 1:2 0:21 0:150 1:173 1:3 0:150");
    b.due("its first", b.house.word(0, 173, 3), 2);
    b.due("its items", b.house.word(0, 173, 4), 3);
    b.due("of all", b.house.word(0, 172, 4), 8);
    b.due("its effect", b.house.effectOf(0, 173, 0) * 10 + b.house.effectOf(0, 173, 1), 11);
    b.due("the outer one's", b.effect("a"), "1 0 3 -1");
    b.good(": c [: ;] ;");
    b.due("an empty one", b.items(0, 8, 12), "2:10 0:150 1:175 0:150");
    b.good(": d [: 5");
    b.due("not known yet", b.items(0, 12, 14), "2:0 1:5");
    b.end();
  }

  private static void quotationsNested() {
    Bench b = new Bench("part 3: quotations, 4 within one another, -29 beyond", 4, 0);
    b.data(": a [: [: [: [: 7 ;] ;] ;] ;] EXECUTE EXECUTE EXECUTE EXECUTE ; a", "7");
    b.good(": d [: [: [: [: 1");
    int words = b.house.count(0, 1);
    int items = b.house.count(0, 2);
    b.thrown("[:", -29);
    b.due("taken back", b.house.count(0, 1), words - 5);
    b.due("taken back", b.house.count(0, 2), items - 5);
    Bench c = new Bench("", 4, 0);
    c.good(": t CATCH ; IMMEDIATE : d [: [: [: [: [ ' [: ] t [");
    b.due("caught", c.data(0, 0), "-29");
    b.due("no word", c.house.count(0, 1), 173 + 5);
    b.due("no item", c.house.count(0, 2), 2 + 4);
    b.due("they end", c.run("DROP ] ;] ;] ;] ;] ;"), 0);
    b.due("one after the other", c.run(": e [: ;] [: ;] [: ;] [: ;] [: ;] [: [: ;] [: ;] ;] ;"), 0);
    b.end();
  }

  private static void underWay() {
    Bench b = new Bench("part 3: while a definition is under way : and :NONAME are -29, : ahead of its name", 4, 0);
    b.good(": e ; 33 0 SEND DROP");
    for (String t : ": :NONAME MARKER".split(" ")) {
      b.thrown(": a [ " + t, -29);
      b.thrown(": a [ " + t + " abcdefghijklmnopqrstuvwxyz", -29);
      b.due(">IN ahead of the name", b.house.thrown(0, 1), 6 + t.length() + 1);
      b.thrown(":NONAME [ " + t, -29);
    }
    b.good(": a 1");
    b.due("it goes on in the next text", b.run("2 [ 3 ]"), 0);
    b.due("STATE", b.house.count(0, 5), 1);
    b.good(";");
    b.due("what was done in between", b.data(0, 0), "3");
    b.data("a", "3 1 2");
    b.good(": c [ CREATE d 5 CONSTANT f VARIABLE g DEFER h 5 VALUE i ] ;");
    b.due("others are made", b.house.count(0, 1), 173 + 1 + 6);
    b.end();
  }

  private static void nameless() {
    Bench b = new Bench("part 3: words made without a name have none, nothing finds them", 4, 0);
    b.good(":NONAME [: ;] DROP ; DROP");
    for (int t = 172; t < 174; t++) {
      b.due("list", b.house.word(0, t, 2), 0);
      b.due("bytes", b.house.word(0, t, 6), 0);
      b.due("the first byte", b.house.name(0, t, 0), NONE);
    }
    b.due("an empty TAPE", b.find(""), NONE);
    b.thrown("IMMEDIATE", -16);
    b.end();
  }

  private static void brackets() {
    Bench b = new Bench("part 3: [ interpreting, ] compiling, -14 if nothing is under way", 4, 0);
    b.good("[ [");
    b.due("STATE", b.house.count(0, 5), 0);
    b.thrown("]", -14);
    b.thrown(": a ; ]", -14);
    b.thrown(": a 1 foo", -13);
    b.thrown("]", -14);
    b.good(": c [ ] ] 5 [ [ ] ;");
    b.due("] is a word while compiling", b.items(0, b.house.word(0, b.find("c"), 3), b.house.count(0, 2)), "0:115 1:5 0:150");
    b.good(": e 1 [");
    b.good("]");
    b.due("STATE", b.house.count(0, 5), 1);
    b.good(";");
    b.end();
  }

  /** The items of a definition, and how many pairs are open behind it. */
  private static void control(Bench b, String text, String items, int pairs) {
    Bench one = new Bench("", 4, 0);
    b.due("it goes, " + text, one.run(": w " + text), 0);
    b.due("items of " + text, one.items(0, 0, one.house.count(0, 2)), items);
    b.due("pairs of " + text, one.house.count(0, 14), pairs);
  }

  private static void controlItems() {
    Bench b = new Bench("part 3: IF adds JUMP0, AHEAD JUMP, THEN and ELSE lead to what is behind them");
    control(b, "IF", "3:0", 1);
    control(b, "AHEAD", "2:0", 1);
    control(b, "IF THEN", "3:1", 0);
    control(b, "IF 5 THEN", "3:2 1:5", 0);
    control(b, "IF 5 ELSE", "3:3 1:5 2:0", 1);
    control(b, "IF 5 ELSE 6 THEN", "3:3 1:5 2:4 1:6", 0);
    control(b, "AHEAD ELSE THEN", "2:2 2:2", 0);
    control(b, "IF IF THEN ELSE THEN", "3:3 3:2 2:3", 0);
    control(b, "1 AHEAD IF THEN THEN", "1:1 2:3 3:3", 0);
    b.end();
  }

  private static void destinations() {
    Bench b = new Bench("part 3: UNTIL, AGAIN to the DESTINATION on top, WHILE below it, REPEAT is AGAIN and THEN");
    control(b, "1 BEGIN", "1:1", 1);
    control(b, "1 BEGIN 2 UNTIL", "1:1 1:2 3:1", 0);
    control(b, "1 BEGIN AGAIN", "1:1 2:1", 0);
    control(b, "BEGIN 1 WHILE", "1:1 3:0", 2);
    control(b, "BEGIN 1 WHILE UNTIL", "1:1 3:0 3:0", 1);
    control(b, "BEGIN 1 WHILE 2 REPEAT 3", "1:1 3:4 1:2 2:0 1:3", 0);
    control(b, "BEGIN 1 WHILE 2 UNTIL 3 THEN", "1:1 3:5 1:2 3:0 1:3", 0);
    control(b, "BEGIN BEGIN AGAIN AGAIN", "2:0 2:0", 0);
    control(b, "BEGIN WHILE WHILE REPEAT THEN", "3:3 3:3 2:0", 0);
    control(b, "IF BEGIN REPEAT", "3:2 2:1", 0);
    control(b, "BEGIN WHILE AGAIN ELSE THEN", "3:3 2:0 2:3", 0);
    b.end();
  }

  private static void loops() {
    Bench b = new Bench("part 3: LOOP and +LOOP lead behind their DO, ?DO and all LEAVE behind them");
    control(b, "DO", "4:0", 1);
    control(b, "?DO", "5:0", 1);
    control(b, "1 DO LOOP", "1:1 4:0 6:2", 0);
    control(b, "1 ?DO 2 +LOOP", "1:1 5:4 1:2 7:2", 0);
    control(b, "DO LEAVE LEAVE LOOP", "4:0 8:4 8:4 6:1", 0);
    control(b, "DO LEAVE DO LEAVE LOOP LEAVE LOOP", "4:0 8:7 4:0 8:5 6:3 8:7 6:1", 0);
    control(b, "DO LEAVE DO LEAVE LOOP LEAVE", "4:0 8:-2 4:0 8:5 6:3 8:-2", 1);
    control(b, "DO IF LEAVE ELSE LEAVE THEN LOOP", "4:0 3:4 8:6 2:5 8:6 6:1", 0);
    control(b, "DO BEGIN LEAVE UNTIL LOOP", "4:0 8:4 3:1 6:1", 0);
    control(b, "?DO CASE OF LEAVE ENDOF ENDCASE LOOP", "5:6 9:4 8:6 2:5 0:1 6:1", 0);
    control(b, "DO LOOP DO LEAVE LOOP", "4:0 6:1 4:0 8:5 6:3", 0);
    b.end();
  }

  private static void cases() {
    Bench b = new Bench("part 3: OF, ENDOF and ENDCASE");
    control(b, "CASE", "", 1);
    control(b, "CASE ENDCASE", "0:1", 0);
    control(b, "CASE OF", "9:0", 2);
    control(b, "CASE 1 OF 2 ENDOF", "1:1 9:4 1:2 2:0", 2);
    control(b, "CASE 1 OF 2 ENDOF 3 OF ENDOF 4", "1:1 9:4 1:2 2:0 1:3 9:7 2:0 1:4", 3);
    control(b, "CASE 1 OF 2 ENDOF 3 OF ENDOF 4 ENDCASE 5", "1:1 9:4 1:2 2:9 1:3 9:7 2:9 1:4 0:1 1:5", 0);
    control(b, "CASE CASE OF ENDOF ENDCASE OF ENDOF ENDCASE", "9:2 2:3 0:1 9:5 2:6 0:1", 0);
    b.end();
  }

  private static void casesOnTop() {
    Bench b = new Bench("part 3: OF whatever is on top");
    control(b, "OF", "9:0", 1);
    control(b, "IF OF", "3:0 9:0", 2);
    control(b, "OF ENDOF", "9:2 2:0", 1);
    control(b, "BEGIN OF", "9:0", 2);
    control(b, "CASE OF OF", "9:0 9:0", 3);
    Bench c = new Bench("", 4, 0);
    c.run(": w OF ENDOF ENDCASE");
    b.due("no CASE right below", c.house.thrown(0, 0), -22);
    c.run(": w CASE IF OF ENDOF ENDCASE");
    b.due("no CASE right below", c.house.thrown(0, 0), -22);
    b.end();
  }

  private static void withinQuotations() {
    Bench b = new Bench("part 3: within [: ;] the pairs of the definition around are none", 4, 0);
    for (String t : ("IF [: THEN|IF [: ELSE|BEGIN [: UNTIL|BEGIN [: AGAIN|BEGIN [: WHILE|BEGIN WHILE [: REPEAT|DO [: LOOP|DO [: +LOOP|?DO [: LOOP"
        + "|DO [: LEAVE|DO [: IF LEAVE|CASE [: ENDCASE|CASE OF [: ENDOF|CASE OF ENDOF [: ENDCASE|BEGIN WHILE BEGIN DROP [: REPEAT"
        + "|IF [: BEGIN REPEAT|CASE [: OF ENDOF ENDCASE").split("\\|")) {
      b.thrown(": w " + t, -22);
    }
    b.good(": w IF [: IF THEN ;] THEN DO [: DO LEAVE LOOP ;] LEAVE LOOP CASE OF [: CASE OF ENDOF ENDCASE ;] ENDOF ENDCASE IF [: ;] ELSE THEN ;");
    b.good(": v IF [: 1 DOES> 2 ;] THEN ;");
    b.thrown(": u [: IF DOES>", -22);
    b.end();
  }

  private static void unpaired() {
    Bench b = new Bench("part 3: what is not on top as it should be is -22", 4, 0);
    String[] opens = {"", "IF", "AHEAD", "BEGIN", "DO", "?DO", "CASE", "OF", "OF ENDOF", "CASE OF ENDOF", "BEGIN WHILE", "IF BEGIN", "IF BEGIN WHILE"};
    String[] closes = {"THEN", "ELSE", "UNTIL", "AGAIN", "WHILE", "REPEAT", "LOOP", "+LOOP", "LEAVE", "ENDOF", "ENDCASE", ";", "DOES>", ";]"};
    String[] fit = {"", "THEN ELSE", "THEN ELSE", "UNTIL AGAIN WHILE", "LOOP +LOOP LEAVE", "LOOP +LOOP LEAVE", "ENDCASE", "ENDOF", "", "ENDCASE",
      "UNTIL AGAIN WHILE REPEAT", "UNTIL AGAIN WHILE REPEAT", "UNTIL AGAIN WHILE REPEAT"};
    for (int i = 0; i < opens.length; i++) {
      for (String close : closes) {
        boolean fits = (" " + fit[i] + " ").contains(" " + close + " ") || (opens[i].isEmpty() && (close.equals(";") || close.equals("DOES>")));
        int got = b.run(": w " + opens[i] + " " + close);
        b.due(opens[i] + " " + close, got == 0 ? 0 : b.house.thrown(0, 0), fits ? 0 : -22);
        if (got == 0) b.run("foo");
      }
    }
    b.end();
  }

  /** A word that is caught while a definition is made, with so many free items: the code, and what there is. */
  private static void caught(Bench b, String before, String word, String rest, int code) {
    Bench one = new Bench("", 4, 0);
    one.good(": t CATCH ; IMMEDIATE 9 VALUE v DEFER d " + before);
    String items = one.items(0, 0, one.house.count(0, 2));
    int[] counts = new int[16];
    for (int i = 0; i < 16; i++) counts[i] = one.house.count(0, i);
    one.good("[ ' " + word + " ] t " + rest + " [");
    b.due("code of " + before + " " + word, one.house.cell(0, 0, 0, 0), code);
    b.due("items behind " + before + " " + word, one.items(0, 0, one.house.count(0, 2)), items);
    for (int i : new int[] {0, 1, 2, 6, 7, 8, 13, 14}) b.due("count " + i + " behind " + before + " " + word, one.house.count(0, i), counts[i]);
    one.good("DROP ]");
    b.due("STATE behind " + before + " " + word, one.house.count(0, 5), 1);
  }

  private static void unpairedChangesNothing() {
    Bench b = new Bench("part 4: with -22 no word, item, pair or LOCAL has been added, taken or changed");
    for (String t : ("IF BEGIN/THEN IF BEGIN/ELSE IF/UNTIL IF/AGAIN IF/WHILE BEGIN/REPEAT IF/REPEAT BEGIN_DO_BEGIN/REPEAT DO_IF/LOOP DO_IF/+LOOP IF/LEAVE "
        + "CASE/ENDOF CASE_IF/ENDCASE CASE_OF/ENDCASE CASE_OF_ENDOF_OF/ENDCASE IF/; IF/DOES> IF/;] [:/; [:_IF/;] 1_[:_DO_LEAVE_IF/LOOP").split(" ")) {
      int cut = t.indexOf('/');
      if (cut > 0) caught(b, ": w 5 " + t.substring(0, cut).replace('_', ' '), t.substring(cut + 1), "", -22);
    }
    caught(b, ": w {: x :} 5", "{:", "", -22);
    caught(b, ": w IF", "{:", "", -22);
    caught(b, ": w DOES>", "{:", "", -22);
    b.end();
  }

  private static String times(int n, String word) {
    return (word + " ").repeat(n);
  }

  private static void pairsFull() {
    Bench b = new Bench("part 3: CONTROL has 32 pairs, -52 beyond", 4, 0);
    for (String w : "IF AHEAD BEGIN DO ?DO CASE OF".split(" ")) {
      b.good(": w " + times(31, "IF") + w);
      b.due("32 with " + w, b.house.count(0, 14), 32);
      b.thrown("foo", -13);
      b.thrown(": w " + times(32, w) + w, -52);
      b.due("none are left", b.house.count(0, 14), 0);
    }
    b.good(": w " + times(30, "IF") + "BEGIN WHILE");
    b.due("WHILE as the last", b.house.count(0, 14), 32);
    b.thrown("foo", -13);
    b.thrown(": w " + times(31, "IF") + "BEGIN WHILE", -52);
    b.good(": w " + times(31, "IF") + "ELSE");
    b.due("ELSE with 31", b.house.count(0, 14), 31);
    b.thrown("foo", -13);
    b.thrown(": w " + times(32, "IF") + "ELSE", -52);
    b.good(": w " + times(31, "IF") + "OF ENDOF");
    b.due("ENDOF with 32", b.house.count(0, 14), 32);
    b.thrown("foo", -13);
    b.thrown(": w " + times(16, "IF") + "[: " + times(16, "IF") + "IF", -52);
    b.end();
  }

  private static void pairsFullChangesNothing() {
    Bench b = new Bench("part 4: with -52 no item or pair has been added, taken or changed");
    for (String w : "IF AHEAD BEGIN DO ?DO CASE OF ELSE".split(" ")) caught(b, ": w " + times(32, "IF"), w, "", -52);
    caught(b, ": w " + times(31, "IF") + "BEGIN", "WHILE", "", -52);
    b.end();
  }

  private static void codesInOrder() {
    Bench b = new Bench("part 4: -22 comes ahead of -52, that of -8", 4, 0);
    b.good(Bench.FILL);
    b.due("filled", b.runOn(": f [ 3900 ] n, ;"), 0);
    b.house.keep(0, 0);
    String all = ": w [ 4000 " + b.house.count(0, 2) + " - 32 - ] n, " + times(32, "IF");
    for (String w : "IF AHEAD DO ?DO OF ELSE BEGIN CASE".split(" ")) {
      b.house.again(0, 0);
      b.thrown(all + w, -52);
    }
    String begin = ": w [ 4000 " + b.house.count(0, 2) + " - 31 - ] n, " + times(31, "IF") + "BEGIN ";
    String[][] due = {{"WHILE", "-52"}, {"ELSE", "-22"}, {"THEN", "-22"}, {"UNTIL", "-8"}, {"AGAIN", "-8"}, {"REPEAT", "-8"},
      {"LEAVE", "-22"}, {"LOOP", "-22"}, {"ENDOF", "-22"}, {"ENDCASE", "-22"}, {";", "-22"}, {";]", "-22"}, {"DOES>", "-22"}, {"{:", "-22"}};
    for (String[] d : due) {
      b.house.again(0, 0);
      b.thrown(begin + d[0], Integer.parseInt(d[1]));
    }
    b.house.again(0, 0);
    b.thrown(all + "WHILE", -22);
    b.end();
  }

  private static void doesMet() {
    Bench b = new Bench("part 3: the latest word with a name has what is behind DOES>, DOES goes on as EXIT", 4, 0);
    b.data(": con CREATE , DOES> @ 1+ ; 5 con f f 8 con g f g", "6 6 9");
    b.due("the item behind its DOES", b.house.word(0, b.find("f"), 5), 3);
    b.data("CREATE h :NONAME DOES> DROP 77 ; EXECUTE h", "77");
    b.data(": two DOES> DROP 2 ; : three DOES> DROP 3 ; CREATE i two i three i", "2 3");
    b.due("EXIT", b.run(": e DOES> 5 ; CREATE j e 9 DROP"), 0);
    b.due("nothing behind it is done", b.house.depth(0, 0, 0), 0);
    b.data("HERE : k CREATE DOES> DOES> DROP 4 ; k l l - l", "0 4");
    b.end();
  }

  private static void doesRefused() {
    Bench b = new Bench("part 3: DOES is -31 unless CREATE made the latest word with a name", 4, 0);
    b.good(": d DOES> ; :NONAME DOES> ;");
    b.thrown("d", -31);
    for (String t : ": x ;|5 CONSTANT x|5 VALUE x|VARIABLE x|DEFER x|MARKER x".split("\\|")) {
      b.good("CREATE c " + t);
      b.thrown("d", -31);
    }
    b.good("CREATE c d :NONAME ; DROP d");
    b.thrown(": y [ d", -31);
    b.thrown(": y [ CREATE z d ] foo", -13);
    Bench none = new Bench("", 4, 0);
    none.run(":NONAME DOES> ; EXECUTE");
    b.due("no latest word", none.house.thrown(0, 0), -31);
    b.end();
  }

  private static void doesLocals() {
    Bench b = new Bench("part 3: behind DOES> there are no locals", 4, 0);
    b.thrown(": a {: x :} x DOES> x", -13);
    b.thrown(": a {: x :} DOES> 5 TO x", -13);
    b.good("7 VALUE x");
    b.data(": a {: x :} CREATE x , DOES> @ x ; 5 a c c", "5 7");
    b.data(": e {: x :} CREATE DOES> DROP 9 TO x ; 5 e f f x", "9");
    b.thrown(": g DOES> {: y :}", -22);
    b.due("ahead of what is read", b.house.thrown(0, 1), 13);
    b.data(": h {: x :} CREATE DOES> DROP [: {: x :} x ;] EXECUTE ; 4 h i 6 i", "6");
    b.end();
  }

  private static void localsCounted() {
    Bench b = new Bench("part 3: locals, 8 at most, -8 as the ninth is read, -19 ahead of that", 4, 0);
    b.data(": a {: a b c d e f g h :} a b c d e f g h ; 1 2 3 4 5 6 7 8 a", "1 2 3 4 5 6 7 8");
    b.data(": a {: | a b c d e f g h :} h ; a", "0");
    b.data(": a {: a b c d | e f g h -- i j k :} a h ; 1 2 3 4 a", "1 0");
    b.thrown(": w {: a b c d e f g h i :} ", -8);
    b.due(">IN is behind it", b.house.thrown(0, 1), 7 + 18);
    b.thrown(": w {: a b c d e f g | h i :}", -8);
    b.thrown(": w {: a b c d e f g h abcdefghijklmnopqrstuvwxy :}", -19);
    b.thrown(": w {: abcdefghijklmnopqrstuvwxy :}", -19);
    b.thrown(": w {: | abcdefghijklmnopqrstuvwxy :}", -19);
    b.good(": w {: abcdefghijklmnopqrstuvwx :} abcdefghijklmnopqrstuvwx ;");
    b.good(": w {: -- abcdefghijklmnopqrstuvwxy :} ;");
    b.data(": v [: {: a b c d e f g h :} a ;] EXECUTE ; 1 2 3 4 5 6 7 8 v", "1");
    b.end();
  }

  private static void localsTaken() {
    Bench b = new Bench("part 3: locals are the cells that are taken, the last one from the top, behind | they are 0", 4, 0);
    control(b, "{: :}", "11:0", 0);
    control(b, "{: | :}", "11:0", 0);
    control(b, "{: -- a b :}", "11:0", 0);
    control(b, "{: a :}", "11:17", 0);
    control(b, "{: | a :}", "11:16", 0);
    control(b, "{: a | b c :}", "11:49", 0);
    control(b, "{: a b c d e f g h :}", "11:136", 0);
    control(b, "{: | | :}", "11:16", 0);
    control(b, "{: -- | :}", "11:0", 0);
    b.data(": a {: x y | z :} z y x ; 1 2 a", "0 2 1");
    b.data(": a {: x | | y :} x | y ; 5 a", "5 0 0");
    b.thrown(": a {: x y :} ; 1 a", -4);
    b.data(": c {: | x :} x 5 TO x x ; c c", "0 5 0 5");
    b.end();
  }

  private static void localsRefused() {
    Bench b = new Bench("part 3: without :} -39, with something of CONTROL open -22, ahead of what is read", 4, 0);
    for (String t : "|a|a b |a --|a -- :|a | b|--| |".split("\\|")) b.thrown(": w {: " + t, -39);
    b.thrown(": w {:", -39);
    for (String t : "IF BEGIN DO ?DO CASE OF AHEAD".split(" ")) {
      b.thrown(": w " + t + " {: a", -22);
      b.due("ahead of what is read", b.house.thrown(0, 1), 4 + t.length() + 1 + 3);
    }
    b.good(": w IF THEN {: a :} a ;");
    b.good(": w 5 {: a :} a ;");
    b.good(Bench.TRY + ": w [ ' {: ] t a abcdefghijklmnopqrstuvwxyz :}");
    b.due("-19 leaves no LOCAL", b.house.cell(0, 0, 0, 0), -19);
    b.good("[ DROP ] {: b :} b ;");
    b.end();
  }

  private static void localsOnce() {
    Bench b = new Bench("part 3: {: :} once a definition", 4, 0);
    b.thrown(": w {: a :} {: b :}", -22);
    b.thrown(": w {: :} {: :}", -22);
    b.thrown(": w {: a :} {:", -22);
    b.good(": w {: a :} [: {: b :} b ;] ; ");
    b.good(": v [: {: b :} b ;] {: a :} ;");
    b.good(": u [: {: b :} ;] [: {: c :} ;] ;");
    b.good(": w {: a :} ;");
    b.end();
  }

  private static void localsLast() {
    Bench b = new Bench("part 3: of locals of one name the last, by CHOICES 2", 4, 0);
    b.data(": w {: a A a :} a ; 1 2 3 w", "3");
    b.thrown(": v a", -13);
    b.thrown(": v [: {: q :} q ;] [: q", -13);
    b.data(": w {: a b a :} b a ; 1 2 3 w", "2 3");
    b.data(": w {: a | a :} 7 TO a a ; 1 w", "7");
    b.due("TO sets the last", b.house.item(0, b.house.count(0, 2) - 3, 1), 1);
    Bench c = new Bench("", 4, 2);
    c.data(": w {: a A :} a ; 1 2 w", "1");
    b.due("by case", c.run(": w {: a :} A"), -2);
    b.end();
  }

  private static void postpone() {
    Bench b = new Bench("part 3: POSTPONE of an IMMEDIATE word adds WORD, else COMPILE", 4, 0);
    b.good(": i ; IMMEDIATE : n ; 5 CONSTANT k IMMEDIATE");
    control(b, "POSTPONE DUP POSTPONE IF POSTPONE [ POSTPONE ] POSTPONE I POSTPONE ;", "15:0 0:133 0:114 15:115 15:147 0:101", 0);
    b.good(": w POSTPONE i POSTPONE n POSTPONE k ;");
    b.due("items", b.items(0, 2, 5), "0:172 15:173 0:174");
    b.thrown(": x POSTPONE DUP ; x", -14);
    b.data(": y POSTPONE DUP ; IMMEDIATE : z 5 y ; z", "5 5");
    b.thrown(": v POSTPONE v", -13);
    b.end();
  }

  private static void settings() {
    Bench b = new Bench("part 3: TO adds SET of a local, PUT of a VALUE, IS PUT of a DEFER, while interpreting it is done at once", 4, 0);
    b.good("5 VALUE v DEFER d : w ;");
    b.good(": a {: x y :} 1 TO y TO x TO v IS d ;");
    b.due("items", b.items(0, 1, 8), "11:34 1:1 13:1 13:0 14:172 14:173 0:150");
    b.data("6 TO v v", "6");
    b.good("' w IS d d");
    b.due("its action", b.house.word(0, 173, 3), 174);
    b.thrown("175 1+ IS d", -9);
    b.thrown("-1 IS d", -9);
    b.good("175 IS d");
    b.thrown(": c IS d ; 9999 c", -9);
    b.caught("8 9999", "IS d", "8 0 -9");
    b.caught("8", "TO v TO v", "0 -4");
    b.due("it was set", b.house.word(0, 172, 3), 8);
    b.end();
  }

  private static void settingsOrder() {
    Bench b = new Bench("part 3: a name that is in no list -13, any other word -32, both ahead of -4", 4, 0);
    b.good("5 VALUE v DEFER d 6 CONSTANT k VARIABLE q CREATE c MARKER m : w ;");
    for (String w : "k q c m w DUP TO".split(" ")) {
      b.thrown("TO " + w, -32);
      b.thrown("IS " + w, -32);
      b.thrown(": x TO " + w, -32);
      b.thrown(": x IS " + w, -32);
    }
    b.thrown("TO d", -32);
    b.thrown("IS v", -32);
    b.thrown("TO foo", -13);
    b.thrown("IS foo", -13);
    b.thrown("TO", -16);
    b.thrown("IS", -16);
    b.thrown("TO v", -4);
    b.thrown("IS d", -4);
    b.good(": x TO v IS d ;");
    b.end();
  }

  private static void noLocals() {
    Bench b = new Bench("part 3: POSTPONE ' , ['] and IS look for no locals", 4, 0);
    for (String w : "POSTPONE ['] IS".split(" ")) b.thrown(": a {: x :} " + w + " x", -13);
    b.thrown(": a {: x :} [ ' x", -13);
    b.good("DEFER x 5 VALUE y");
    b.good(": a {: x y :} IS x POSTPONE x ['] x TO y ;");
    b.due("items", b.items(0, 0, 6), "11:34 14:172 15:172 1:172 13:1 0:150");
    b.end();
  }

  private static void literals() {
    Bench b = new Bench("part 3: RECURSE is the innermost, LITERAL takes a cell, ['] a token, [CHAR] a byte", 4, 0);
    b.good(": a RECURSE [: RECURSE ;] ;");
    b.due("items", b.items(0, 0, 6), "0:172 2:4 0:173 0:150 1:173 0:150");
    b.good(": c [ 7 8 ] LITERAL LITERAL ['] a [CHAR] " + (char) 255 + "x ;");
    b.due("items", b.items(0, 6, 11), "1:8 1:7 1:172 1:255 0:150");
    b.thrown(": e LITERAL", -4);
    b.thrown(": e ['] foo", -13);
    b.end();
  }

  private static void stringsInterpreting() {
    Bench b = new Bench("part 3: S\" while interpreting to 128 and on, more than 128 bytes -18", 4, 0);
    b.data("S\" \"", "128 0");
    b.data("S\"", "128 0");
    b.data("S\" a", "128 1");
    b.data("S\" " + "a".repeat(127) + "\"", "128 127");
    b.data("S\" " + "a".repeat(128), "128 128");
    b.thrown("S\" " + "a".repeat(129) + "\"", -18);
    b.thrown("S\" " + "b".repeat(1000), -18);
    b.due("nothing is laid", b.house.fetch(0, 128, 1), 'a');
    b.due("HERE", b.house.count(0, 0), 256);
    b.good(".\" " + "c".repeat(1000) + "\"");
    b.due("it is put out however long", b.house.count(0, 3), 1000);
    b.due("not laid", b.house.fetch(0, 128, 1), 'a');
    b.good(": ones 0 DO 1 LOOP ; 62 ones S\" x\"");
    b.due("64", b.house.depth(0, 0, 0), 64);
    b.thrown("1 THROW", -3);
    b.thrown("63 ones S\" " + "a".repeat(129) + "\"", -3);
    b.good("64 ones .\" abc\"");
    b.end();
  }

  private static void stringsCompiling() {
    Bench b = new Bench("part 3: S\" while compiling to HERE and on, -8, LIT of both is added; .\" likewise and TYPE", 4, 0);
    b.good(": a S\" abc\" .\" de\" S\" \" ;");
    b.due("items", b.items(0, 0, 8), "1:256 1:3 1:259 1:2 0:89 1:261 1:0 0:150");
    b.due("HERE", b.house.count(0, 0), 261);
    b.due("bytes", b.house.fetch(0, 258, 1) * 256 + b.house.fetch(0, 259, 1), 'c' * 256 + 'd');
    b.good(": c S\" " + "x".repeat(900) + "\" ;");
    b.due("however long", b.house.count(0, 0), 1161);
    b.due("nothing at 128", b.house.fetch(0, 128, 1), 0);
    b.good("4093 HERE - ALLOT");
    for (String w : "S\" .\" ABORT\"".split(" ")) {
      b.thrown(": e " + w + " wxyz\"", -8);
      b.due("HERE", b.house.count(0, 0), 4093);
      b.due("nothing is laid", b.house.fetch(0, 4093, 1), 0);
      caughtInSpace(b, w);
    }
    b.good(": e S\" xyz\" ;");
    b.due("HERE", b.house.count(0, 0), 4096);
    b.good(": f S\" \" .\" \" ABORT\" \" ;");
    b.end();
  }

  private static void caughtInSpace(Bench b, String w) {
    b.house.keep(0, 1);
    int items = b.house.count(0, 2);
    b.good(Bench.TRY + ": e [ ' " + w + " ] t wxyz\"");
    b.due("code", b.house.cell(0, 0, 0, 0), -8);
    b.due("no item of " + w, b.house.count(0, 2), items + 3);
    b.house.again(0, 1);
  }

  private static void abortQuote() {
    Bench b = new Bench("part 3: ABORT takes length, address and a flag, and if that is not 0 puts the string out, THROW -2", 4, 0);
    b.good(": a ABORT\" no!\" ;");
    b.due("items", b.items(0, 0, 4), "1:256 1:3 16:0 0:150");
    b.data("7 0 a", "7");
    b.due("nothing is put out", b.out(0), "");
    b.thrown("7 1 a", -2);
    b.due("it is put out", b.out(0), "no!");
    b.thrown("-1 a", -2);
    b.thrown("a", -4);
    b.caught("7 5", "a", "7 0 -2");
    b.thrown(": c ABORT\" \" ; 1 c", -2);
    b.due("put out", b.out(0), "no!no!no!");
    b.good(": ones 0 DO 1 LOOP ; 61 ones 0 a");
    b.due("DATA", b.house.depth(0, 0, 0), 61);
    b.thrown("1 1 a", -3);
    b.end();
  }

  private static void comments() {
    Bench b = new Bench("part 3: ( goes on behind ) , or to the text's end", 4, 0);
    b.data("1 ( 2 ) 3", "1 3");
    b.data("1 ( 2 )3", "1 3");
    b.data("1 ( )3", "1 3");
    b.data("1 (", "1");
    b.data("1 ( 2 3", "1");
    b.data("1 ( 2\n3 ) 4", "1 4");
    b.data(": a ( x -- y ) 5 ; a", "5");
    b.data("1 ( a ( b ) 2", "1 2");
    b.thrown("1 (2) 3", -13);
    b.good("( " + "x".repeat(1000) + ") 5 DROP");
    b.end();
  }

  private static void lines() {
    Bench b = new Bench("part 3: \\ goes on behind the next byte 10, in a BLOCK to the beginning of a line of 64, or to the text's end", 4, 0);
    b.data("1 \\ 2\n3", "1 3");
    b.data("1 \\ 2", "1");
    b.data("1 \\", "1");
    b.data("1 \\\n2\n3", "1 3");
    b.data("1 \\ \n2", "1 2");
    b.data("1 \\ 2\r3\n4", "1 4");
    b.data("S\" \\ 2 3\" EVALUATE 4", "4");
    String line = "1 \\ 2" + " ".repeat(59);
    for (int at = 0; at < 512; at += 64) {
      b.type(line);
      b.house.put(0, 1, at);
    }
    b.data("1 LOAD", "1 1 1 1 1 1 1 1");
    for (int at = 59; at <= 66; at++) {
      b.type(" ".repeat(512));
      b.house.put(0, 2, 0);
      b.type("\\");
      b.house.put(0, 2, at);
      b.type(">IN @");
      b.house.put(0, 2, 448);
      b.type("5");
      b.house.put(0, 2, 127);
      b.type("6");
      b.house.put(0, 2, 190);
      // Behind the \ at 62 >IN is 64, where it stays; behind that at 63, it is no more in that line.
      boolean second = at >= 63;
      b.data("2 LOAD", second ? "6 454" : "5 6 454");
    }
    b.type("\\");
    b.house.put(0, 3, 511);
    b.data("3 LOAD 7", "7");
    b.type("\\ 9 \n 8");
    b.house.put(0, 3, 0);
    b.data("3 LOAD 7", "7");
    b.data("S\" 1 \\ 2\" 2DROP 3 LOAD 7", "7");
    b.end();
  }

  /** What is compiled, ahead of it so many items, and how many items it needs itself. */
  private static final String[][] NEEDS = {
    {"", "DUP", "0", "1"}, {"", "5", "0", "1"}, {"", "'a'", "0", "1"}, {"", "5.", "0", "2"}, {"{: x :}", "x", "1", "1"}, {"{: x :}", "TO x", "1", "1"},
    {"", "TO v", "0", "1"}, {"", "IS d", "0", "1"}, {"", "IF", "0", "1"}, {"", "AHEAD", "0", "1"}, {"", "DO", "0", "1"}, {"", "?DO", "0", "1"},
    {"", "OF", "0", "1"}, {"IF", "ELSE", "1", "1"}, {"IF", "THEN", "1", "0"}, {"", "BEGIN", "0", "0"}, {"", "CASE", "0", "0"}, {"BEGIN", "UNTIL", "0", "1"},
    {"BEGIN", "AGAIN", "0", "1"}, {"BEGIN", "WHILE", "0", "1"}, {"BEGIN WHILE", "REPEAT", "1", "1"}, {"DO", "LOOP", "1", "1"}, {"?DO", "+LOOP", "1", "1"},
    {"DO", "LEAVE", "1", "1"}, {"DO LEAVE", "LOOP", "2", "1"}, {"OF", "ENDOF", "1", "1"}, {"CASE", "ENDCASE", "0", "1"}, {"CASE OF ENDOF", "ENDCASE", "2", "1"},
    {"", ";", "0", "1"}, {"", "['] DUP", "0", "1"}, {"", "[CHAR] x", "0", "1"}, {"[ 5 ]", "LITERAL", "0", "1"}, {"", "POSTPONE DUP", "0", "1"},
    {"", "POSTPONE IF", "0", "1"}, {"", "RECURSE", "0", "1"}, {"", "DOES>", "0", "1"}, {"", "{: a b :}", "0", "1"}, {"", "[:", "0", "1"}, {"[:", ";]", "1", "2"},
    {"", "S\" a\"", "0", "2"}, {"", ".\" a\"", "0", "3"}, {"", "ABORT\" a\"", "0", "3"}, {"", "c", "0", "1"}, {"", "EXIT", "0", "1"}, {"", "I", "0", "1"},
    {"", "( a )", "0", "0"}, {"", "[", "0", "0"}, {"", "\\ a", "0", "0"}};

  private static Bench nearlyFull() {
    Bench b = new Bench("", 4, 0);
    b.good(Bench.FILL + ": c POSTPONE DUP ; IMMEDIATE 1 VALUE v DEFER d " + Bench.TRY);
    b.due("filled", b.runOn(": f [ 3900 ] n, ;"), 0);
    b.house.keep(0, 0);
    return b;
  }

  private static void itemsFull() {
    Bench b = new Bench("part 3: no room for an item is -8");
    Bench one = nearlyFull();
    int free = 4000 - one.house.count(0, 2);
    for (String[] need : NEEDS) {
      int items = Integer.parseInt(need[2]) + Integer.parseInt(need[3]);
      one.house.again(0, 0);
      b.due("with room, " + need[0] + " " + need[1], one.run(": w [ " + (free - items) + " ] n, " + need[0] + " " + need[1]), 0);
      b.due("items behind " + need[1], one.house.count(0, 2), 4000);
      if (need[3].equals("0")) continue;
      one.house.again(0, 0);
      b.due("one too few, " + need[0] + " " + need[1], one.run(": w [ " + (free - items + 1) + " ] n, " + need[0] + " " + need[1]), -2);
      b.due("code of " + need[1], one.house.thrown(0, 0), -8);
      b.due("items behind " + need[1], one.house.count(0, 2), 4000 - free);
    }
    b.end();
  }

  private static void itemsFullChangesNothing() {
    Bench b = new Bench("part 4: with -8 no word, item, pair or LOCAL has been added, taken or changed");
    Bench one = nearlyFull();
    int free = 4000 - one.house.count(0, 2);
    for (String[] need : NEEDS) {
      String word = need[1].split(" ")[0];
      if (need[3].equals("0") || word.equals("x") || word.charAt(0) == '5' || word.equals("'a'")) continue;
      one.house.again(0, 0);
      int room = Integer.parseInt(need[2]) + Integer.parseInt(need[3]) - 1;
      b.due("ahead of " + need[1], one.run(": w [ " + (free - room) + " ] n, " + need[0] + " [ ' " + word), 0);
      int count = one.house.count(0, 2);
      String items = one.items(0, count - 4, count);
      int pairs = one.house.count(0, 14);
      int words = one.house.count(0, 1);
      String rest = need[1].substring(word.length());
      boolean adds = word.equals("DUP") || word.equals("EXIT") || word.equals("I");
      if (adds) continue;
      b.due(need[1], one.run("] t " + rest), 0);
      b.due("code of " + need[1], one.house.cell(0, 0, 0, 0), -8);
      b.due("items behind " + need[1], one.items(0, one.house.count(0, 2) - 4, one.house.count(0, 2)), items);
      b.due("how many behind " + need[1], one.house.count(0, 2), count);
      b.due("pairs behind " + need[1], one.house.count(0, 14), pairs);
      b.due("words behind " + need[1], one.house.count(0, 1), words);
      b.due("HERE behind " + need[1], one.house.count(0, 0), 256);
      if (word.equals("LITERAL")) b.due("its cell was taken", one.data(0, 0), "0 -8");
    }
    one.house.again(0, 0);
    one.good(": w [ " + (free - 1) + " ] n, [ S\" 5.\" ' EVALUATE ] t");
    b.due("a double, of which one LIT has room", one.house.cell(0, 0, 0, 0), -8);
    b.due("no LIT", one.house.count(0, 2), 3999);
    one.house.again(0, 0);
    one.good(": w [ " + free + " ] n, [ ' {: ] t a :}");
    b.due("ENTER", one.data(0, 0), "-8");
    one.run("a");
    b.due("no LOCAL", one.house.thrown(0, 0), -13);
    b.end();
  }

  private static void wordsFull() {
    Bench b = new Bench("part 3: no room for a word is -8", 4, 0);
    b.good(": mk S\" CREATE x\" EVALUATE ; : mks 0 DO mk LOOP ; " + Bench.TRY + "184 mks : w 1 [");
    b.due("360", b.house.count(0, 1), 360);
    int items = b.house.count(0, 2);
    b.good("' [: ] t");
    b.due("[:", b.data(0, 0), "-8");
    b.due("no JUMP", b.house.count(0, 2), items);
    b.good("[ DROP ] ;");
    b.due("it has none within", b.house.lean(0, 359), 0);
    String[][] due = {{":", "-8"}, {":NONAME", "-8"}, {"CREATE", "-8"}, {"VARIABLE", "-8"}, {"DEFER", "-8"}, {"MARKER", "-8"}, {"CONSTANT", "-4"}, {"VALUE", "-4"}};
    for (String[] d : due) {
      b.thrown(d[0] + " q", Integer.parseInt(d[1]));
      if (!d[0].equals(":NONAME")) {
        b.thrown("5 " + d[0], -16);
        b.thrown("5 " + d[0] + " abcdefghijklmnopqrstuvwxy", -19);
      }
      b.due("HERE stays", b.house.count(0, 0), 264);
    }
    b.data("5 ' CONSTANT t q", "5 -8");
    b.data("6 ' VALUE t q", "6 -8");
    b.end();
  }

  private static void spaceFull() {
    Bench b = new Bench("part 3: no room in SPACE is -8");
    for (int cell = 2; cell <= 4; cell++) {
      Bench one = new Bench("", cell, 0);
      one.good((4096 - cell) + " HERE - ALLOT VARIABLE v");
      b.due("the last cell", one.house.count(0, 0), 4096);
      b.due("its address", one.house.word(0, 172, 3), 4096 - cell);
      b.due("none more", one.run("VARIABLE w"), -2);
      b.due("code", one.house.thrown(0, 0), -8);
      b.due("no word", one.house.count(0, 1), 173);
      one.good((1 - cell) + " ALLOT");
      b.due("one byte too few", one.run("VARIABLE w"), -2);
      b.due("one byte too few", one.run("5 ,"), -2);
      b.due("code", one.house.thrown(0, 0), -8);
      one.good("-1 ALLOT 5 ,");
      b.due("the last cell", one.house.fetch(0, 4096 - cell, 0), 5);
      one.data("7 ' C, CATCH", "0 -8");
      one.good("-1 ALLOT 7 C,");
      b.due("the last byte", one.house.fetch(0, 4095, 1), 7);
      b.due("CREATE needs none", one.run("CREATE e DEFER f 5 CONSTANT g MARKER m : h ;"), 0);
    }
    b.end();
  }
}
