/** The words of part 8, line by line. */
public final class WordsTest {
  public static void main(String[] args) {
    stack();
    returns();
    sums();
    quotients();
    doubles();
    compares();
    memory();
    memoryEnds();
    printing();
    pictures();
    defining();
    strings();
    comments();
    codes();
    Bench.exit();
  }

  private static void stack() {
    Bench b = new Bench("line 1", 4, 0);
    b.data("1 2 DUP", "1 2 2");
    b.data("1 2 DROP", "1");
    b.data("1 2 SWAP", "2 1");
    b.data("1 2 OVER", "1 2 1");
    b.data("1 2 3 ROT", "2 3 1");
    b.data("1 2 3 -ROT", "3 1 2");
    b.data("1 2 NIP", "2");
    b.data("1 2 TUCK", "2 1 2");
    b.data("0 ?DUP 7 ?DUP", "0 7 7");
    b.data("1 2 2DUP", "1 2 1 2");
    b.data("1 2 3 2DROP", "1");
    b.data("1 2 3 4 2SWAP", "3 4 1 2");
    b.data("1 2 3 4 2OVER", "1 2 3 4 1 2");
    b.data("10 20 30 0 PICK 2 PICK", "10 20 30 30 20");
    b.data("1 2 3 4 0 ROLL 3 ROLL", "2 3 4 1");
    b.data("5 6 DEPTH", "5 6 2");
    b.thrown("1 2 2 PICK", -4);
    b.thrown("1 -1 PICK", -4);
    b.thrown("1 2 2 ROLL", -4);
    b.caught("7 8 2", "PICK", "7 8 0 -4");
    b.thrown("DUP", -4);
    b.thrown("1 SWAP", -4);
    b.thrown("1 2 ROT", -4);
    b.thrown("1 2 3 2SWAP", -4);
    b.thrown("1 2 3 2OVER", -4);
    b.thrown("?DUP", -4);
    b.good(": fill 0 DO 1 LOOP ;");
    b.thrown("64 fill DEPTH", -3);
    b.thrown("64 fill DUP", -3);
    b.thrown("64 fill ?DUP", -3);
    b.thrown("63 fill 2DUP", -3);
    b.thrown("64 fill 5", -3);
    b.good("63 fill 0 ?DUP");
    b.due("?DUP of 0 leaves nothing more", b.house.depth(0, 0, 0), 64);
    b.end();
  }

  private static void returns() {
    Bench b = new Bench("line 2", 4, 0);
    b.data(": a >R >R R> R> ; 1 2 a", "1 2");
    b.data(": b >R R@ R@ R> ; 5 b", "5 5 5");
    b.data(": c 2>R 9 2R> ; 1 2 c", "9 1 2");
    b.data(": d 2>R R> R> ; 1 2 d", "2 1");
    b.data(": e >R >R 2R> ; 1 2 e", "2 1");
    b.thrown("1 >R", -14);
    b.thrown(": f R> ; f", -6);
    b.thrown(": g R@ ; g", -6);
    b.thrown(": h 5 >R 2R> ; h", -6);
    b.thrown(": i1 >R ; 3 i1", -25);
    b.thrown(": j1 R> DROP ; : k1 5 >R j1 R> ; k1", -6);
    b.caught("1", ">R R> DROP 2 3 R>", "2 -6");
    b.good(": many BEGIN DUP >R AGAIN ;");
    b.thrown("1 many", -5);
    b.thrown(": odd 63 0 DO 1 >R LOOP 2 3 2>R ; odd", -5);
    b.data("1 ' >R EXECUTE 2 ' R@ EXECUTE ' R> EXECUTE", "2 1 1");
    b.end();
  }

  private static void sums() {
    Bench b = new Bench("line 3, sums", 4, 0);
    b.data("2147483647 1 +", "-2147483648");
    b.data("-2147483648 1 -", "2147483647");
    b.data("65536 65536 * 3 -4 *", "0 -12");
    b.data("5 1+ 5 1- 2147483647 1+ -2147483648 1-", "6 4 -2147483648 2147483647");
    b.data("3 2* -3 2/ 1073741824 2* 5 2/", "6 -2 -2147483648 2");
    b.data("5 NEGATE -2147483648 NEGATE -7 ABS -2147483648 ABS 3 ABS", "-5 -2147483648 7 -2147483648 3");
    b.data("1 2 MIN -1 2 MIN 1 2 MAX -1 -2 MAX", "1 -1 2 -1");
    b.thrown("1 +", -4);
    b.due("2 bytes", Bench.output(2, 0, "32767 1+ . 200 200 * . -32768 ABS . 65535 ."), "-32768 -25536 -32768 -1 ");
    b.due("3 bytes", Bench.output(3, 0, "8388607 1+ . 4096 4096 * . 16777215 . 8388608 U."), "-8388608 0 -1 8388608 ");
    b.end();
  }

  private static void quotients() {
    Bench b = new Bench("line 3, quotients", 4, 0);
    b.data("-7 2 / -7 2 MOD -7 2 /MOD", "-3 -1 -1 -3");
    b.data("7 -2 / 7 -2 MOD 7 -2 /MOD", "-3 1 1 -3");
    b.data("-2147483648 -1 / -2147483648 -1 MOD", "-2147483648 0");
    b.data("1000000 1000000 1000000 */ -7 3 2 */ -7 3 2 */MOD", "1000000 -10 -1 -10");
    b.data("-2147483648 -2147483648 1 */", "0");
    b.due("floored", Bench.output(4, 1, "-7 2 / . -7 2 MOD . 7 -2 /MOD . . -7 3 2 */ . -7 3 2 */MOD . ."),
        "-4 1 -4 -1 -11 -11 1 ");
    b.thrown("1 0 /", -10);
    b.thrown("1 0 MOD", -10);
    b.thrown("1 0 /MOD", -10);
    b.thrown("1 2 0 */", -10);
    b.thrown("1 2 0 */MOD", -10);
    b.thrown("0 /", -4);
    b.caught("9 1 0", "/", "9 0 0 -10");
    b.data("-7 -1 2 SM/REM -7 -1 2 FM/MOD", "-1 -3 1 -4");
    b.data("7 0 -2 SM/REM 7 0 -2 FM/MOD", "1 -3 -1 -4");
    b.data("7 1 2 UM/MOD", "1 -2147483645");
    b.data("-1 -2 -1 UM/MOD", "-2 -1");
    b.thrown("0 1 1 UM/MOD", -11);
    b.thrown("0 1 0 UM/MOD", -10);
    b.thrown("0 1 1 SM/REM", -11);
    b.thrown("0 1 1 FM/MOD", -11);
    b.thrown("1 0 0 SM/REM", -10);
    b.thrown("1 0 0 FM/MOD", -10);
    b.thrown("0 -2147483648 -1 SM/REM", -11);
    b.data("-2147483648 -1 1 SM/REM", "0 -2147483648");
    b.thrown("-2147483648 -1 -1 SM/REM", -11);
    b.thrown("2147483647 -1 1 FM/MOD", -11);
    b.due("2 bytes", Bench.output(2, 0, "-1 0 2 UM/MOD . . -1 9 10 UM/MOD U. . 30000 30000 30000 */ ."),
        "32767 1 65535 9 30000 ");
    b.end();
  }

  private static void doubles() {
    Bench b = new Bench("line 3, doubles", 4, 0);
    b.data("-1 -1 UM* -1 -1 M* -2 3 M*", "1 -2 1 0 -6 -1");
    b.data("5 S>D -5 S>D", "5 0 -5 -1");
    b.data("-1 0 1 0 D+ 1. -2. D+", "0 1 -1 -1");
    b.data("1. DNEGATE 0. DNEGATE -1. DNEGATE", "-1 -1 0 0 1 0");
    b.data("4294967296. 18446744073709551615. -4294967296.", "0 1 -1 -1 0 -1");
    b.due("2 bytes", Bench.output(2, 0, "65536. . . -1 -1 UM* . . 300 300 M* . U. -1 0 1 0 D+ . ."),
        "1 0 -2 1 1 24464 1 0 ");
    b.due("3 bytes", Bench.output(3, 0, "-1 -1 UM* . . 16777216. . . -1. . ."), "-2 1 1 0 -1 -1 ");
    b.end();
  }

  private static void compares() {
    Bench b = new Bench("line 4", 4, 0);
    b.data("1 1 = 1 2 = 1 2 <> 1 1 <>", "-1 0 -1 0");
    b.data("-1 1 < 1 -1 < 1 -1 > -1 1 > 1 1 < 1 1 >", "-1 0 -1 0 0 0");
    b.data("-1 1 U< 1 -1 U< 1 1 U<", "0 -1 0");
    b.data("0 0= 5 0= 0 0<> 5 0<> -1 0< 0 0< 1 0> 0 0> -1 0>", "-1 0 0 -1 -1 0 -1 0 0");
    b.data("12 10 AND 12 10 OR 12 10 XOR 0 INVERT 5 INVERT", "8 14 6 -1 -6");
    b.data("1 31 LSHIFT 1 32 LSHIFT 1 -1 LSHIFT 3 0 LSHIFT", "-2147483648 0 0 3");
    b.data("-1 31 RSHIFT -1 32 RSHIFT -1 -1 RSHIFT -1 1 RSHIFT", "1 0 0 2147483647");
    b.data("5 1 10 WITHIN 10 1 10 WITHIN 1 1 10 WITHIN 0 1 10 WITHIN 5 10 1 WITHIN 20 10 1 WITHIN",
        "-1 0 -1 0 0 -1");
    b.data("TRUE FALSE", "-1 0");
    b.due("shifts by the bits of 2 bytes", Bench.output(2, 0, "1 15 LSHIFT . 1 16 LSHIFT . -1 15 RSHIFT . -1 16 RSHIFT ."),
        "-32768 0 1 0 ");
    b.due("shifts by the bits of 3 bytes", Bench.output(3, 0, "1 23 LSHIFT . 1 24 LSHIFT . -1 23 RSHIFT . -1 24 RSHIFT ."),
        "-8388608 0 1 0 ");
    b.end();
  }

  private static void memory() {
    Bench b = new Bench("line 5", 4, 0);
    b.data("5 1000 ! 1000 @ 1 1000 +! 1000 @", "5 6");
    b.data("511 2000 C! 2000 C@ 2000 @", "255 255");
    b.data("1 2 1000 2! 1000 @ 1004 @ 1000 2@", "2 1 1 2");
    b.data("HERE 8 ALLOT HERE SWAP - -8 ALLOT", "8");
    b.data("HERE 5 , 6 C, HERE OVER - SWAP @", "5 5");
    b.data("ALIGN HERE 4 MOD 5 ALIGNED 8 ALIGNED 0 ALIGNED", "0 8 8 0");
    b.data("10 CELL+ 10 CELLS 10 CHAR+ 10 CHARS", "14 40 11 10");
    b.data("1100 4 7 FILL 1100 @ 1103 C@ 1104 C@", "117901063 7 0");
    b.data("1000 4 0 FILL 1 1000 C! 2 1001 C! 1000 1001 3 MOVE 1001 C@ 1002 C@ 1003 C@", "1 2 0");
    b.data("1001 1000 3 MOVE 1000 C@ 1001 C@ 1002 C@", "1 2 0");
    b.data("3 1000 C! 1000 COUNT", "1001 3");
    b.due("low byte first", Bench.output(2, 0, "258 1000 ! 1000 C@ . 1001 C@ ."), "2 1 ");
    b.due("high byte first", Bench.output(3, 4, "66051 1000 ! 1000 C@ . 1001 C@ . 1002 C@ . 1000 @ ."), "1 2 3 66051 ");
    b.due("3 bytes", Bench.output(3, 0, "5 ALIGNED . 6 ALIGNED . -1 ALIGNED . 2 CELLS . HERE . ALIGN HERE . -2 1000 ! 1000 @ ."),
        "6 6 -1 6 256 258 -2 ");
    b.due("ALIGNED goes round", Bench.output(2, 0, "-1 ALIGNED ."), "0 ");
    b.end();
  }

  private static void memoryEnds() {
    Bench b = new Bench("line 5, ends of SPACE", 4, 0);
    b.good("4092 @ DROP 4095 C@ DROP 4088 2@ 2DROP 1 4092 ! 4096 0 0 FILL -1 0 1 FILL 9999 8888 0 MOVE -5 0 TYPE");
    b.thrown("4093 @", -9);
    b.thrown("-1 @", -9);
    b.thrown("-4 @", -9);
    b.thrown("1 4093 !", -9);
    b.thrown("4096 C@", -9);
    b.thrown("1 4096 C!", -9);
    b.thrown("1 4093 +!", -9);
    b.thrown("1 2 4089 2!", -9);
    b.thrown("4089 2@", -9);
    b.thrown("4095 2 0 FILL", -9);
    b.thrown("4095 0 2 MOVE", -9);
    b.thrown("0 4095 2 MOVE", -9);
    b.thrown("0 0 -1 MOVE", -9);
    b.thrown("4096 COUNT", -9);
    b.thrown("4095 2 TYPE", -9);
    b.caught("3 1 2 4089", "2!", "3 0 0 0 -9");
    b.due("nothing of 2! is laid", b.house.fetch(0, 4089, 1), 0);
    b.data("HERE 4096 OVER - ALLOT HERE SWAP HERE - ALLOT", "4096");
    b.thrown("HERE 4097 SWAP - ALLOT", -8);
    b.thrown("256 HERE - 1- ALLOT", -8);
    b.caught("7 30000", "ALLOT", "7 0 -8");
    b.good("4093 HERE - ALLOT");
    b.thrown("1 ,", -8);
    b.good("1 C, 1 C, 1 C,");
    b.thrown("1 C,", -8);
    b.due("3 bytes", Bench.output(3, 0, "4096 HERE - ALLOT ALIGN"), "ended -2 code -8");
    b.due("3 bytes, 4095", Bench.output(3, 0, "4094 HERE - ALLOT ALIGN HERE ."), "4095 ");
    b.end();
  }

  private static void printing() {
    Bench b = new Bench("line 6, printing", 4, 0);
    b.due(". and U.", Bench.output(4, 0, "5 . -5 . 0 . -1 U. -2147483648 . HEX 255 . -1 U. %1010 . DECIMAL 10 ."),
        "5 -5 0 4294967295 -2147483648 255 FFFFFFFF A 10 ");
    b.due("base 36", Bench.output(4, 0, "36 BASE ! ZZ . 2 BASE ! 101 ."), "ZZ 101 ");
    b.due("EMIT and its like", Bench.output(4, 0, "65 EMIT 321 EMIT CR SPACE 3 SPACES 0 SPACES -3 SPACES 66 EMIT"),
        "AA\n    B");
    b.due("TYPE", Bench.output(4, 0, "S\" hello\" TYPE 128 2 TYPE"), "hellohe");
    b.thrown("1 BASE ! 5", -40);
    b.thrown("#37 #0 ! #5 .", -40);
    b.due("BASE stays", b.house.fetch(0, 0, 0), 37);
    b.thrown("#0 #0 ! #5 U.", -40);
    b.thrown("#10 #0 ! .", -4);
    b.data("BASE >IN", "0 4");
    b.good("HEX");
    b.due("HEX", b.house.fetch(0, 0, 0), 16);
    b.good("DECIMAL");
    b.due("DECIMAL", b.house.fetch(0, 0, 0), 10);
    b.good("2147483647 SPACES 2147483647 SPACES");
    b.due("bytes put out", b.house.count(0, 3), 2147483647);
    b.due("byte 2999", b.house.out(0, 2999), 32);
    b.due("byte 3000", b.house.out(0, 3000), -1);
    b.due("2 bytes", Bench.output(2, 0, "-1 . -1 U. 65535 ."), "-1 65535 -1 ");
    b.end();
  }

  private static void pictures() {
    Bench b = new Bench("line 6, pictures", 4, 0);
    b.due("digits", Bench.output(4, 0, "<# 1234. # # 46 HOLD #S -1 SIGN #> TYPE"), "-12.34");
    b.due("#S of 0", Bench.output(4, 0, "<# 0. #S #> TYPE <# 5. # #S 0 SIGN #> TYPE"), "005");
    b.due("hex", Bench.output(4, 0, "HEX <# -1. #S #> TYPE"), "FFFFFFFFFFFFFFFF");
    b.due("binary", Bench.output(4, 0, "2 BASE ! <# -1. #S #> NIP DECIMAL ."), "64 ");
    b.due("2 bytes", Bench.output(2, 0, "<# -1. #S #> TYPE"), "4294967295");
    b.due("3 bytes", Bench.output(3, 0, "<# -1. #S #> TYPE"), "281474976710655");
    b.data("<# 1. # #>", "127 1");
    b.due("it lies below 128", b.house.fetch(0, 127, 1), 49);
    b.good(": holds 0 DO 42 HOLD LOOP ;");
    b.good("<# 112 holds");
    b.due("the lowest one", b.house.fetch(0, 16, 1), 42);
    b.thrown("42 HOLD", -17);
    b.thrown("0. #", -17);
    b.thrown("0. #S", -17);
    b.thrown("-1 SIGN", -17);
    b.data("1 SIGN 0. #>", "16 112");
    b.data("<# 0. #>", "128 0");
    b.thrown("37 BASE ! #1. #", -40);
    b.thrown("#1. #S", -40);
    b.good("DECIMAL <#");
    b.thrown("1 #", -4);
    b.thrown("1 #>", -4);
    b.good("<# 5. # 2DROP");
    b.thrown("1 THROW", 1);
    b.data("0. #>", "127 1");
    b.end();
  }

  private static void defining() {
    Bench b = new Bench("line 7, kinds of words", 4, 0);
    b.data("5 CONSTANT five five five", "5 5");
    b.data("VARIABLE v v @ 7 v ! v @", "0 7");
    b.data("3 VALUE w w 4 TO w w", "3 4");
    b.data("CREATE c 1 , c @ ' c >BODY c = ' v >BODY v =", "1 -1 -1");
    b.data("DEFER d ' five IS d d", "5");
    b.thrown("DEFER e e", -24);
    b.data(": arr CREATE CELLS ALLOT DOES> SWAP CELLS + ; 5 arr a 7 3 a ! 3 a @", "7");
    b.data("CHAR abc : l [CHAR] xyz ; l", "97 120");
    b.data(": i [ 2 3 + ] LITERAL ; i", "5");
    b.data(": j ['] five EXECUTE ' ; j DUP", "5 0");
    b.data(": fac DUP 1 > IF DUP 1- RECURSE * THEN ; 5 fac", "120");
    b.data(": k POSTPONE IF ; IMMEDIATE : m k 1 ELSE 2 THEN ; 0 m 1 m", "2 1");
    b.data(": n POSTPONE DUP ; IMMEDIATE : o n + ; 4 o", "8");
    b.data("S\" 1 2\" EVALUATE 3", "1 2 3");
    b.data(":NONAME 9 ; EXECUTE", "9");
    b.thrown("' +  >BODY", -31);
    b.thrown("' five >BODY", -31);
    b.thrown("9999 >BODY", -9);
    b.thrown("9999 EXECUTE", -9);
    b.thrown("-1 EXECUTE", -9);
    b.end();
  }

  private static void strings() {
    Bench b = new Bench("line 7, strings", 4, 0);
    b.data("S\" abc\" OVER C@", "128 3 97");
    b.due("to the text's end", Bench.output(4, 0, "S\" ab TYPE"), "");
    b.data("S\" ab", "128 2");
    b.data("S\" \"", "128 0");
    b.data(": s S\" xyz\" ; s OVER C@", "256 3 120");
    b.due("HERE", b.house.count(0, 0), 259);
    b.due("dot quote", Bench.output(4, 0, ".\" a b\" : t .\" cd\" ; t"), "a bcd");
    b.due("abort quote", Bench.output(4, 0, ": t ABORT\" no\" 1 . ; 0 t 5 t"), "ended -2 code -2");
    b.good(": q ABORT\" oh!\" ;");
    b.thrown("1 q", -2);
    b.due("it is put out", b.out(0), "oh!");
    b.thrown("ABORT\" x\"", -14);
    b.end();
  }

  private static void comments() {
    Bench b = new Bench("line 7, comments", 4, 0);
    b.data("1 ( 2 3 ) 4 ( 5", "1 4");
    b.data("1 \\ 2\n3 \\ 4", "1 3");
    b.data("1 \\\n2\n3", "1 3");
    b.end();
  }

  private static void codes() {
    Bench b = new Bench("line 9, codes", 4, 0);
    b.thrown("ABORT", -1);
    b.thrown("77 THROW", 77);
    b.data("0 THROW 1", "1");
    b.thrown("THROW", -4);
    b.end();
  }
}
