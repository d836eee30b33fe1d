/** Part 4: running, throwing and catching, loops, markers, lists, tasks and the tester. */
public final class RunningTest {
  public static void main(String[] args) {
    loops();
    plusLoops();
    loopsWrong();
    exits();
    frames();
    catching();
    catchEdges();
    throwing();
    placesThatAreNone();
    markers();
    markersWrong();
    lists();
    tasks();
    boxes();
    taskThrows();
    taskTexts();
    taskEdges();
    tester();
    steps();
    Bench.exit();
  }

  private static void loops() {
    Bench b = new Bench("loops", 4, 0);
    b.data(": a 0 DO I LOOP ; 3 a", "0 1 2");
    b.data(": b ?DO I LOOP ; 3 3 b 2 0 b", "0 1");
    b.data(": c 2 0 DO 2 0 DO J I LOOP LOOP ; c", "0 0 0 1 1 0 1 1");
    b.data(": d 10 0 DO I DUP 2 = IF LEAVE THEN LOOP 99 ; d", "0 1 2 99");
    b.data(": e 10 0 DO I 3 = IF UNLOOP 77 EXIT THEN LOOP ; e", "77");
    b.data(": f 2 0 DO 5 3 DO I LOOP LOOP ; f", "3 4 3 4");
    b.due("DO of the same goes round", Bench.output(2, 0, "VARIABLE n : g 0 0 DO 1 n +! I 1000 = IF LEAVE THEN LOOP n @ . ; g"),
        "1001 ");
    b.data(": h 3 1 ?DO I 2 = IF I THEN LOOP ; h", "2");
    b.data(": k 0 5 1 DO I + LOOP ; k", "10");
    b.good(": l 3 0 DO I BEGIN AGAIN LOOP ;");
    b.due("in it", b.run(0, "l", 30), 1);
    b.due("LOOPS", b.cells(0, 0, 1) + b.house.depth(0, 0, 2), "1");
    b.end();
  }

  private static void plusLoops() {
    Bench b = new Bench("+LOOP", 4, 0);
    b.data(": a 10 0 DO I 3 +LOOP ; a", "0 3 6 9");
    b.data(": b 0 10 DO I -3 +LOOP ; b", "10 7 4 1");
    b.data(": c 0 10 DO I -5 +LOOP ; c", "10 5 0");
    b.data(": d 5 0 DO I 0 IF 1 THEN 2 +LOOP ; d", "0 2 4");
    b.data(": e 2147483647 2147483640 DO I 2147483646 - 4 +LOOP ; e", "-6 -2");
    b.data(": f -2147483648 2147483646 DO I 1 +LOOP ; f", "2147483646 2147483647");
    b.data(": g 0 0 DO I -1 +LOOP ; g", "0");
    b.data(": h 1 2147483647 DO I 2147483647 = IF 1 ELSE 2 THEN 2147483647 +LOOP ; h", "1 2");
    b.due("2 bytes", Bench.output(2, 0, ": a 32767 32760 DO I . 3 +LOOP ; a : b -32768 32766 DO I . LOOP ; b"),
        "32760 32763 32766 32766 32767 ");
    b.end();
  }

  private static void loopsWrong() {
    Bench b = new Bench("loops, wrong", 4, 0);
    b.thrown(": a I ; a", -26);
    b.thrown(": a J ; : b 1 0 DO a LOOP ; b", -26);
    b.thrown(": c 1 0 DO J LOOP ; c", -26);
    b.thrown(": d UNLOOP ; : e 1 0 DO d LOOP ; e", -26);
    b.thrown(": f 1 0 DO EXIT LOOP ; f", -26);
    b.thrown(": g 1 0 DO 1 >R EXIT LOOP ; g", -25);
    b.thrown(": h 1 DO LOOP ; h", -4);
    b.thrown(": h2 DO LOOP ; 1 h2", -4);
    b.thrown(": i 1 0 DO +LOOP ; i", -4);
    b.thrown(": j BEGIN 2 0 DO AGAIN LOOP ;", -22);
    b.good(": k 17 0 DO 1 0 [ 0 ] LITERAL IF THEN 2DROP LOOP ;");
    b.data("k", "");
    b.good(": n 5 0 DO DUP IF 1- RECURSE THEN LOOP ;");
    b.thrown("16 n", -7);
    b.data(": m 1 0 DO DUP IF 1- RECURSE THEN LOOP ; 15 m", "0");
    b.thrown("16 m", -7);
    b.caught("16", "m", "0 -7");
    b.data(": o 5 5 ?DO LOOP ; : p 1 0 DO DUP IF 1- RECURSE ELSE o THEN LOOP ; 15 p", "0");
    b.thrown(": q 1 0 DO [ ] ; q", -22);
    b.end();
  }

  private static void exits() {
    Bench b = new Bench("EXIT", 4, 0);
    b.data(": a 1 EXIT 2 ; a", "1");
    b.thrown(": b >R ; 1 b", -25);
    b.thrown("' EXIT EXECUTE", -14);
    b.data("' EXIT CATCH", "-14");
    b.data(": c ['] EXIT CATCH 5 ; c", "-14 5");
    b.data(": d ['] EXIT EXECUTE 5 ; d 6", "6");
    b.thrown(": e S\" ' EXIT EXECUTE\" EVALUATE ; e", -14);
    b.data(": f {: x :} x EXIT ; 4 f", "4");
    b.due("LOCALS", b.house.depth(0, 0, 3), 0);
    b.thrown(": g EXECUTE 1 ; 9 ' >R g", -25);
    b.end();
  }

  private static void frames() {
    Bench b = new Bench("FRAMES and rows that are full", 4, 0);
    b.good(": a DUP IF 1- RECURSE THEN ;");
    b.data("39 a", "0");
    b.thrown("40 a", -5);
    b.good(": l {: a b c d e f g h :} a IF a 1- b c d e f g h RECURSE THEN ;");
    b.data("7 2 3 4 5 6 7 8 l", "");
    b.thrown("8 2 3 4 5 6 7 8 l", -5);
    b.data(": c DUP IF 1- RECURSE ELSE ['] DUP CATCH THEN ; 38 c", "0 0 0");
    b.thrown("39 c", -5);
    b.data(": n ; : d DUP IF 1- RECURSE ELSE ['] n CATCH THEN ; 38 d", "0 -5");
    b.data("37 d", "0 0");
    b.good(": k 60 0 DO 1 LOOP ;");
    b.thrown(": x {: p | q r :} ; x", -4);
    b.good(": con CREATE DOES> ; con y : z DUP IF 1- RECURSE ELSE y THEN ;");
    b.thrown("39 z", -5);
    b.caught("38", "z", "0 -5");
    b.thrown(": e S\" \" EVALUATE ; : g DUP IF 1- RECURSE ELSE e THEN ; 38 g 39 g", -5);
    b.end();
  }

  private static void catching() {
    Bench b = new Bench("CATCH", 4, 0);
    b.data(": a 1 2 ; ' a CATCH", "1 2 0");
    b.data(": c DROP DROP 5 THROW ; 1 2 3 ' c CATCH", "1 0 0 5");
    b.data(": d 7 8 9 5 THROW ; 1 ' d CATCH", "1 5");
    b.data(": e 2DROP 8 9 5 THROW ; 1 2 ' e CATCH", "8 9 5");
    b.data("1 2 ' + CATCH 5 ' DUP CATCH", "3 0 5 5 0");
    b.data("1 0 ' / CATCH", "0 0 -10");
    b.data("1 ' + CATCH", "1 -4");
    b.data(": f ['] d CATCH 1+ THROW ; ' f CATCH", "6");
    b.data(": g 0 THROW 3 ; ' g CATCH", "3 0");
    b.data(": h {: x y :} 5 >R 3 0 DO I 1 = IF 9 THROW THEN LOOP ; 4 6 ' h CATCH", "0 0 9");
    b.due("rows", b.house.depth(0, 0, 1) + b.house.depth(0, 0, 2) + b.house.depth(0, 0, 3) + b.house.depth(0, 0, 4), 0);
    b.data("' >R CATCH", "-4");
    b.data("5 ' >R CATCH", "0");
    b.due("RETURN as it was", b.house.depth(0, 0, 1), 0);
    b.data(": i S\" 1 2 foo 3\" EVALUATE ; ' i CATCH 4", "-13 4");
    b.data("S\" 1 2 foo 3\" ' EVALUATE CATCH 4", "1 2 -13 4");
    b.due("nested", b.house.count(0, 15), 0);
    b.data(": j >IN @ 0 >IN ! 3 THROW ; ' j CATCH 6", "3 6");
    b.good(": k 5 THROW ; ' k CATCH");
    b.due("thrown tells none of it", b.house.thrown(0, 0), 0);
    b.end();
  }

  private static void catchEdges() {
    Bench b = new Bench("CATCH, edges", 4, 0);
    b.thrown("9999 CATCH", -9);
    b.thrown("CATCH", -4);
    b.caught("7 9999", "CATCH", "7 0 -9");
    b.good(": f 0 DO 1 LOOP ; : g 64 f ; : h ['] g CATCH ; ' h CATCH");
    b.due("-3 as 0 is put there: the outer one has it", b.data(0, 0), "-3");
    b.good("DROP : m 63 f ; : j ['] m CATCH ;");
    b.good("j");
    b.due("place for the 0", b.house.depth(0, 0, 0), 64);
    b.thrown("x", -13);
    b.data(": k ; ' k CATCH", "0");
    b.due("a step at its end", b.run(0, "' DUP DROP 5 ' DUP CATCH", 5), 1);
    b.due("not ended yet", b.data(0, 0), "5 5");
    b.due("FRAMES", b.house.depth(0, 0, 4), 1);
    b.due("its end", b.house.go(0, 1), 1);
    b.due("0", b.data(0, 0), "5 5 0");
    b.due("the text's end", b.house.go(0, 1), 0);
    b.data("DROP DROP DROP DEFER e ' e CATCH", "-24");
    b.data("' R> CATCH ' I CATCH", "-6 -26");
    b.data(": l 5 >R ['] R@ CATCH R> ; l", "-6 5");
    b.data("' ABORT CATCH 0 ' THROW CATCH 4 ' THROW CATCH", "-1 0 0 4");
    b.end();
  }

  private static void throwing() {
    Bench b = new Bench("THROW out of task 0", 4, 0);
    b.good(": a {: x :} 5 >R 3 0 DO 7 THROW LOOP ; 8 0 SEND DROP 4 0 SEND DROP");
    b.thrown("1 2 3 S\" 9 a\" EVALUATE", 7);
    for (int i = 0; i < 5; i++) b.due("row " + i, b.house.depth(0, 0, i), 0);
    b.due("BOX stays", b.house.depth(0, 0, 5), 2);
    b.due("text", b.house.count(0, 12), 0);
    b.due("nested", b.house.count(0, 15), 0);
    b.due("nested then", b.house.thrown(0, 2), 1);
    b.due("the next text", b.run("5"), 0);
    b.due("the code stays", b.house.thrown(0, 0), 7);
    b.data("RECEIVE RECEIVE", "5 8 4");
    b.end();
  }

  private static void placesThatAreNone() {
    Bench b = new Bench("items and tokens that are none", 4, 0);
    b.thrown(": a 1 [ 172 EXECUTE ] ;", -9);
    b.thrown(": a 3 0 DO LEAVE [ 172 EXECUTE", -9);
    b.due("all rows are empty", b.house.depth(0, 0, 2), 0);
    b.data(": z 5 ; : a 7 AHEAD [ 173 CATCH ] DROP THEN ; a", "7 5 0 7");
    b.thrown("9999 TASK", -9);
    b.thrown("-1 TASK", -9);
    b.thrown("CREATE y 5 , :NONAME DOES> 1 2 [ " + b.house.count(0, 1) + " 1+ EXECUTE ] foo", -13);
    b.due("y has a place that is none", b.house.word(0, b.find("y"), 5), b.house.count(0, 2) + 1);
    b.thrown("y", -9);
    b.good("DEFER d MARKER m2 : w 5 ; ' w IS d m2");
    b.thrown("d", -9);
    b.good("MARKER m3 : w 6 ; ' w TASK DROP : p PAUSE ; ");
    b.end();
  }

  private static void markers() {
    Bench b = new Bench("MARKER", 4, 0);
    b.good("1 VALUE v CREATE y : a ; DEFER d : dd DOES> DROP 9 ;");
    b.good("MARKER m 5 , : c 1 2 ; WORDLIST >ORDER DEFINITIONS 2 TO v ' c IS d VARIABLE w IMMEDIATE");
    b.good("7 1000 ! m");
    b.due("words", b.house.count(0, 1), 177);
    b.due("items", b.house.count(0, 2), 5);
    b.due("HERE", b.house.count(0, 0), 256);
    b.due("lists", b.house.count(0, 6), 1);
    b.due("order", b.house.count(0, 7), 1);
    b.due("the list for new words", b.house.count(0, 8), 1);
    b.due("latest", b.house.count(0, 13), 176);
    b.due("SPACE stays", b.house.fetch(0, 1000, 0), 7);
    b.due("5 , stays", b.house.fetch(0, 256, 0), 5);
    b.data("v", "2");
    b.due("an action that is none now", b.house.word(0, 175, 3), 178);
    b.due("gone", b.find("m"), -1);
    b.good("MARKER n : x ; MARKER o n");
    b.due("words", b.house.count(0, 1), 177);
    b.good("MARKER p S\" p\" EVALUATE");
    b.due("from a nested text", b.house.count(0, 1), 177);
    b.good("1 >ORDER 1 >ORDER MARKER q ONLY q");
    b.due("order", b.house.count(0, 7), 3);
    b.good("ONLY CREATE z IMMEDIATE MARKER r : s DOES> DROP 4 ; IMMEDIATE");
    b.due("of an elder word what it got", b.house.word(0, b.find("z"), 1), 1);
    b.end();
  }

  private static void markersWrong() {
    Bench b = new Bench("MARKER, wrong", 4, 0);
    b.good("MARKER m IMMEDIATE DEFER d ' m IS d MARKER k");
    b.thrown("' m EXECUTE", -15);
    b.thrown("d", -15);
    b.thrown(": a k ; a", -15);
    b.thrown("' m CATCH THROW", -15);
    b.thrown(": c m", -15);
    b.thrown(": e [ k", -15);
    b.thrown(": f S\" k\" EVALUATE ; f", -15);
    b.good(": g RECEIVE DROP ; ' g TASK DROP");
    b.thrown("k", -15);
    b.good("PAUSE");
    b.thrown("k", -15);
    b.good("1 1 SEND DROP PAUSE");
    b.due("ended", b.house.task(0, 1), 3);
    b.good("k");
    b.due("gone", b.find("k"), -1);
    b.good("' m TASK PAUSE");
    b.due("in a task", b.house.task(0, 1), 3 + 15 * 16);
    b.end();
  }

  private static void lists() {
    Bench b = new Bench("lists and the search order", 4, 0);
    b.data("WORDLIST WORDLIST WORDLIST WORDLIST WORDLIST WORDLIST WORDLIST", "2 3 4 5 6 7 8");
    b.thrown("WORDLIST", -8);
    b.thrown("9 >ORDER", -24);
    b.thrown("0 >ORDER", -24);
    b.thrown("-1 >ORDER", -24);
    b.thrown(">ORDER", -4);
    b.good("2 >ORDER 3 >ORDER 4 >ORDER 5 >ORDER 6 >ORDER 7 >ORDER 8 >ORDER");
    b.thrown("1 >ORDER", -49);
    b.thrown("9 >ORDER", -24);
    b.good("DEFINITIONS : DUP 5 ;");
    b.due("its list", b.house.word(0, 172, 2), 8);
    b.data("DUP PREVIOUS DUP", "5 5");
    b.good("ONLY");
    b.due("the order", b.house.count(0, 7), 1);
    b.due("the list for new words stays", b.house.count(0, 8), 8);
    b.good("DEFINITIONS : p PREVIOUS PREVIOUS ; : q PREVIOUS DEFINITIONS ;");
    b.thrown("p", -50);
    b.due("order", b.house.count(0, 7), 0);
    b.due("nothing is found", b.find("DUP"), -1);
    b.thrown("DUP", -13);
    b.end();
    Bench c = new Bench("DEFINITIONS without an order", 4, 0);
    c.thrown(": q PREVIOUS DEFINITIONS ; q", -50);
    c.end();
  }

  private static void tasks() {
    Bench b = new Bench("tasks", 4, 0);
    b.good(": a 1 . PAUSE 2 . ; : c 3 . PAUSE 4 . PAUSE 5 . ;");
    b.data("' a TASK ' c TASK", "1 2");
    b.due("nothing is done yet", b.out(0), "");
    b.good("9 . PAUSE 8 . PAUSE 7 . PAUSE 6 .");
    b.due("in turns", b.out(0), "9 1 3 8 2 4 7 5 6 ");
    b.due("ended", b.house.task(0, 1) * 10 + b.house.task(0, 2), 33);
    b.data("' a TASK ' a TASK ' a TASK ' a TASK", "1 2 3 0");
    b.good("PAUSE PAUSE");
    b.data("' c TASK", "1");
    b.good(": d STOP 1 . ; : e BEGIN PAUSE AGAIN ; PAUSE PAUSE PAUSE ' d TASK ' e TASK 2DROP PAUSE PAUSE");
    b.due("STOP", b.house.task(0, 1), 3);
    b.due("rows of its own", b.house.depth(0, 2, 4), 1);
    b.thrown("STOP", -24);
    b.due("the others stay", b.house.task(0, 2), 1);
    b.data("PAUSE 5", "5");
    b.data(": f 5 {: x :} 6 >R 7 PAUSE R> x ; ' f TASK PAUSE", "1");
    b.due("its DATA", b.data(0, 1), "7");
    b.due("its RETURN", b.cells(0, 1, 1), "6");
    b.due("its LOCALS", b.cells(0, 1, 3), "5");
    b.due("the text alone", b.run(0, "PAUSE PAUSE", 3), 1);
    b.due("task at hand", b.house.count(0, 9), 1);
    b.end();
  }

  private static void boxes() {
    Bench b = new Bench("SEND and RECEIVE", 4, 0);
    b.data("1 0 SEND 2 0 SEND 3 0 SEND 4 0 SEND 5 0 SEND", "-1 -1 -1 -1 0");
    b.data("RECEIVE RECEIVE RECEIVE RECEIVE", "1 2 3 4");
    b.data("1 1 SEND 1 4 SEND 1 -1 SEND", "0 0 0");
    b.thrown("RECEIVE", -257);
    b.due("READY", b.house.task(0, 0), 1);
    b.data("' RECEIVE CATCH", "-257");
    b.thrown("1 SEND", -4);
    b.good(": a RECEIVE . RECEIVE . ; ' a TASK DROP 5 1 SEND DROP PAUSE");
    b.due("waits for the second", b.house.task(0, 1), 2);
    b.due("the first", b.out(0), "5 ");
    b.data("6 1 SEND", "-1");
    b.due("READY", b.house.task(0, 1), 1);
    b.due("in its BOX", b.cells(0, 1, 5), "6");
    b.due("PAUSE, taking, ., EXIT, end, PAUSE's text's end", b.run(0, "PAUSE", 5), 1);
    b.due("both", b.out(0), "5 6 ");
    b.due("text's end", b.house.go(0, 1), 0);
    b.data("7 1 SEND", "0");
    b.good(": c 1 0 SEND DROP PAUSE 2 0 SEND DROP ; ' c TASK DROP RECEIVE . RECEIVE .");
    b.due("task 0 waits, too", b.out(0), "5 6 1 2 ");
    b.due("it has ended", b.house.task(0, 1), 3);
    b.good(": d RECEIVE ; ' d TASK DROP PAUSE 1 1 SEND 2 1 SEND 2DROP PAUSE");
    b.due("its BOX stays", b.cells(0, 1, 5), "2");
    b.good("' d TASK DROP");
    b.due("a new one's is empty", b.house.depth(0, 1, 5), 0);
    b.end();
  }

  private static void taskThrows() {
    Bench b = new Bench("throws in tasks", 4, 0);
    b.good(": a 1 0 / ; : c ['] a CATCH . ; ' c TASK DROP ' a TASK DROP PAUSE 5");
    b.due("caught", b.out(0), "-10 ");
    b.due("ended", b.house.task(0, 1), 3);
    b.due("thrown out", b.house.task(0, 2), 3 + 160);
    b.due("not out of task 0", b.house.thrown(0, 0), 0);
    b.due("rows", b.house.depth(0, 2, 0), 0);
    b.good("DROP : d RECEIVE ; ' d TASK DROP");
    b.thrown("RECEIVE", -257);
    b.due("task 1 had -257, too", b.house.task(0, 1), 3 + 257 * 16);
    b.due("at hand", b.house.count(0, 9), 0);
    b.good(": e STOP ; ' e TASK DROP : f RECEIVE ;");
    b.data("' f CATCH", "-257");
    b.due("stopped", b.house.task(0, 1), 3);
    b.good("' e TASK DROP ' RECEIVE CATCH");
    b.due("task 0 waited as it ended", b.data(0, 0), "-257");
    b.good("DROP ' e TASK DROP 9 9 ' a TASK DROP");
    b.thrown("RECEIVE", -257);
    b.due("rows of task 0", b.house.depth(0, 0, 0), 0);
    b.good(": g 5 THROW ; ' g TASK DROP 7 7");
    b.due("-257", b.run("RECEIVE"), -2);
    b.due("5", b.house.task(0, 1), 3 - 80);
    b.end();
  }

  private static void taskTexts() {
    Bench b = new Bench("no text in other tasks", 4, 0);
    String[][] due = {{"'", "-16"}, {"CHAR", "-16"}, {"CREATE", "-16"}, {":", "-16"}, {"CONSTANT", "-16"}, {"TO", "-16"},
      {"IS", "-16"}, {"MARKER", "-16"}, {"EVALUATE", "-4"}, {"LOAD", "-4"}, {"IF", "-14"}, {"{:", "-14"}, {"EXIT", "-14"}};
    for (String[] d : due) {
      b.good("' " + d[0] + " TASK DROP PAUSE");
      b.due(d[0], b.house.task(0, 1), 3 - 16 * Integer.parseInt(d[1]));
    }
    b.good(": a 9999 9999 EVALUATE ; ' a TASK DROP PAUSE");
    b.due("EVALUATE", b.house.task(0, 1), 3 + 24 * 16);
    b.good(": c 99 LOAD ; ' c TASK DROP PAUSE");
    b.due("LOAD", b.house.task(0, 1), 3 + 24 * 16);
    b.data(": d POSTPONE S\" SWAP . . POSTPONE ( POSTPONE \\ ; ' d TASK DROP PAUSE 5", "5");
    b.due("an empty string", b.out(0), "128 0 ");
    b.due("ended", b.house.task(0, 1), 3);
    b.good(": e >IN @ . ; ' e TASK DROP PAUSE");
    b.end();
  }

  private static void taskEdges() {
    Bench b = new Bench("tasks, edges", 4, 0);
    b.good(": a 5 ; ' a TASK DROP ' DUP TASK DROP ' a TASK DROP");
    b.due("beginning, 5, EXIT, end; -4 of DUP as it begins, 5", b.run(0, "PAUSE 1", 10), 1);
    b.due("task 2", b.house.task(0, 2), 3 + 64);
    b.due("task 3", b.house.task(0, 3), 3);
    b.due("1 and the end", b.house.go(0, 2), 0);
    b.due("steps", b.house.count(0, 4), 13 + 12);
    b.thrown(": w [ " + b.house.count(0, 1) + " TASK DROP ] foo", -13);
    b.good("PAUSE");
    b.due("its token is none as it begins", b.house.task(0, 1), 3 + 9 * 16);
    b.end();
  }

  private static void tester() {
    Bench b = new Bench("the tester", 4, 0);
    b.good("T{ 1 2 -> 1 2 }T");
    b.due("GOOD", b.house.count(0, 10) * 10 + b.house.count(0, 11), 10);
    b.good("T{ 1 2 -> 2 1 }T T{ 1 -> }T T{ -> 1 }T");
    b.due("BAD", b.house.count(0, 10) * 10 + b.house.count(0, 11), 13);
    b.data("7 8 T{ 3 -> 3 }T", "7 8");
    b.due("GOOD", b.house.count(0, 10), 2);
    b.data("1 2 -> 1 2 }T 3", "1 2 3");
    b.due("2 of before is noted", b.house.count(0, 10) + b.house.count(0, 11), 6);
    b.data("5 6 T{ DROP DROP -> }T", "");
    b.due("fewer than noted", b.house.count(0, 10), 3);
    b.good("T{ 1 2 -> : a 1 2 }T ; a }T");
    b.due("kept as long as nothing else is", b.house.count(0, 10) * 10 + b.house.count(0, 11), 45);
    Bench c = new Bench("", 4, 0);
    c.good("}T 5 }T");
    b.due("nothing kept at first", c.house.count(0, 10) * 10 + c.house.count(0, 11), 11);
    b.end();
  }

  private static void steps() {
    Bench b = new Bench("steps", 4, 0);
    steps(b, "1 2 +", 4);
    steps(b, ": a 1 ; a", 3 + 1 + 2 + 1);
    steps(b, ": a IF 1 THEN ; 0 a", 5 + 2 + 2 + 1);
    steps(b, "' DUP EXECUTE", 2);
    steps(b, "5 ' DUP CATCH", 3 + 1 + 1);
    steps(b, "S\" 1 2\" EVALUATE 3", 2 + 2 + 1 + 1 + 1);
    steps(b, ": c CREATE DOES> ; c d d", 4 + 1 + 2 + 1 + 1 + 1);
    steps(b, "( a b c ) \\ d", 3);
    steps(b, ": a 3 0 DO LOOP ; a", 6 + 1 + 3 + 3 + 1 + 1);
    steps(b, "DEFER d ' + IS d 1 2 d", 7);
    steps(b, "5 CONSTANT c c", 4);
    steps(b, "foo", 1);
    b.end();
  }

  private static void steps(Bench b, String text, int due) {
    Bench one = new Bench("", 4, 0);
    one.run(text);
    b.due("steps of " + text, one.house.count(0, 4), due);
  }
}
