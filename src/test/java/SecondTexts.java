import java.util.ArrayList;
import java.util.List;
import java.util.Random;

/** Texts made up by a fixed sequence of numbers: most of what they say makes sense, the rest need not. */
final class SecondTexts {
  private static final String[] NAMES = {"a", "b", "c", "d", "e", "f", "g", "q", "Zed", "zed", "ZED", "x1", "\u00e9t\u00c9"};
  private static final String[] SHUFFLING = ("DUP DROP SWAP OVER ROT -ROT NIP TUCK ?DUP 2DUP 2DROP 2SWAP "
      + "2OVER PICK ROLL DEPTH + - * / MOD /MOD */ */MOD 1+ 1- 2* 2/ NEGATE ABS MIN MAX UM* UM/MOD M* "
      + "SM/REM FM/MOD S>D D+ DNEGATE = <> < > U< 0= 0<> 0< 0> AND OR XOR INVERT LSHIFT RSHIFT WITHIN "
      + "TRUE FALSE").split(" ");
  private static final String[] MEMORY = ("! @ C! C@ +! 2! 2@ HERE ALLOT , C, ALIGN ALIGNED CELL+ CELLS "
      + "CHAR+ CHARS FILL MOVE COUNT . U. EMIT CR SPACE SPACES TYPE <# # #S #> HOLD SIGN BASE DECIMAL HEX "
      + ">IN").split(" ");
  private static final String[] OTHERS = (">R R> R@ 2>R 2R> CATCH THROW ABORT WORDLIST >ORDER PREVIOUS "
      + "DEFINITIONS ONLY TASK PAUSE STOP SEND RECEIVE LOAD T{ -> }T EXECUTE >BODY EVALUATE IMMEDIATE ] [ "
      + "( \\ EXIT UNLOOP I J").split(" ");
  private static final String[] LEANER = {">R R>", "DUP DROP", "SWAP SWAP", "NEGATE NEGATE",
    "INVERT INVERT", "1 2 +", "5 DROP", "3 1+", "0 0= 2*", "7 9 MIN", "2 3 = 1 -"};
  private static final String[] CONSTANTS = {"0", "1", "2", "3", "4", "5", "-1", "-2", "7", "8", "10", "64",
    "16", "128", "256", "260", "4095", "4096", "32767", "32768", "-32768", "8388607", "8388608",
    "2147483647", "-2147483648", "2147483648", "65536", "16777216", "65535", "'a'", "'\"'", "'''"};
  private static final String[] LOCALS = {"{: p :} ", "{: p q2 :} ", "{: p | q2 :} ", "{: p | q2 -- r s :} ",
    "{: :} ", "{: | p :} ", "{: p p :} ", "{: a b | | q2 :} ", "{: p -- | :} ",
    "{: p | x x2 x3 x4 x5 x6 x7 :} ", "{: 1 2 3 4 5 6 7 8 9 :} ", "{: p", "{: abcdefghijklmnopqrstuvwxyz :} "};
  private static final String[] TASKS = {
    ": W PAUSE ; : T ['] W CATCH ; ' T TASK ", ": W RECEIVE RECEIVE + 0 SEND ; ' W TASK DROP 3 1 SEND 4 1 SEND RECEIVE ",
    ": W 5 0 DO I PAUSE LOOP ; ' W TASK ' W TASK PAUSE PAUSE ",
    ": W PAUSE 5 THROW ; : T ['] W CATCH PAUSE ; ' T TASK PAUSE 1 PAUSE 2 PAUSE ",
    ": W 0 RECEIVE DUP 0= IF STOP THEN ; ' W TASK 5 OVER SEND 0 ROT SEND PAUSE ",
    ": W 1 BEGIN 1+ PAUSE AGAIN ; ' W TASK PAUSE PAUSE ", ": W RECEIVE ; ' W TASK ' W TASK ' W TASK ' W TASK RECEIVE ",
    ": W ['] RECEIVE CATCH ; ' W TASK PAUSE ", ": W S\" x\" EVALUATE ; : V ['] W CATCH ; ' V TASK PAUSE ",
    ": W POSTPONE IF PAUSE POSTPONE THEN ; ' W TASK : u PAUSE [ PAUSE ] 1 ; ",
    ": W :NONAME PAUSE POSTPONE ; ; ' W TASK PAUSE 1 2 + PAUSE ",
    ": W 9 0 DO 5 0 SEND DROP PAUSE LOOP ; ' W TASK PAUSE PAUSE PAUSE RECEIVE RECEIVE RECEIVE RECEIVE RECEIVE "};
  private static final String[] OVER_IN = {"21282 2 ! 24 34 8 0 9 EVALUATE ", "0 9 EVALUATE ", "4 4 EVALUATE ",
    "65 5 C! 3 7 EVALUATE ", "128 0 60 MOVE 0 40 EVALUATE ", "S\" {: p q2 :}\" 4 SWAP MOVE ",
    "HEX 2053 4 ! DECIMAL ", "S\" 1 2 3 4 5\" 4 SWAP MOVE 0 30 EVALUATE "};
  private static final String[] FULL = {": zf 64 DEPTH - 0 ?DO 7 LOOP ; zf ", ": zf 65 DEPTH - 0 ?DO 7 LOOP ; zf ",
    ": zr 64 0 DO 1 >R LOOP ; zr ", ": zz RECURSE ; zz ", ": zi 4000 0 DO POSTPONE DUP LOOP ; IMMEDIATE : zk zi ",
    ": zw 200 0 DO S\" : zz ;\" EVALUATE LOOP ; zw ", ": zn 190 0 DO :NONAME POSTPONE ; DROP LOOP ; zn ",
    "4000 HERE - ALLOT ", "4096 HERE - ALLOT ", ": zc 31 0 DO POSTPONE BEGIN LOOP ; IMMEDIATE : zk zc ",
    ": zc 32 0 DO POSTPONE CASE LOOP ; IMMEDIATE : zk zc ",
    ": zl {: l1 l2 l3 l4 l5 l6 l7 l8 :} l1 1+ l2 l3 l4 l5 l6 l7 l8 RECURSE ; 1 2 3 4 5 6 7 8 zl ",
    ": zm 40 0 DO S\" MARKER mm\" EVALUATE LOOP ; zm ", ": ze S\" ze\" EVALUATE ; ze ",
    "WORDLIST WORDLIST WORDLIST WORDLIST ", "1 >ORDER 1 >ORDER 1 >ORDER 1 >ORDER 1 >ORDER 1 >ORDER ", "PREVIOUS ",
    ":NONAME [ 64 DEPTH - 0 ] LITERAL DROP DROP ; ", ": zf 65 DEPTH - 0 ?DO 7 LOOP ; zf :NONAME [ 8 ] IF [: ",
    "DEFER a ' 1+ IS a DEFER b ' a IS b DEFER c ' b IS c DEFER d ' c IS d DEFER e ' d IS e DEFER f ' e IS f DEFER g ' f IS g "
        + "DEFER q ' g IS q DEFER x1 ' q IS x1 5 q 5 x1 "};
  static final String[] BEFORE = {
    ": p 1 ; : q2 2 ; : a DUP ; : b 1+ ; VARIABLE c CREATE d 1 , 2 , 3 VALUE e DEFER f ' a IS f 9 CONSTANT g : q >R R> ; ",
    ": p {: x :} x x * ; 5 VALUE q2 : a [: 1 + ;] EXECUTE ; : b CREATE , DOES> @ ; 7 b x1 : c 3 0 DO I . LOOP ; "
        + "DEFER d MARKER e : f 5 THROW ; : g ['] f CATCH ; ",
    ": p ; : q2 IF 1 ELSE 2 THEN ; : a POSTPONE IF ; IMMEDIATE : b POSTPONE DUP ; : c CASE 1 OF 2 ENDOF 3 SWAP ENDCASE ; "
        + "VARIABLE d 4 VALUE e CREATE f 10 ALLOT : g BEGIN 1- DUP 0 < UNTIL ; "};

  private final Random random;
  // Names that are there.
  private final List<String> names = new ArrayList<>();

  SecondTexts(Random random) {
    this.random = random;
  }

  int next(int n) {
    return random.nextInt(n);
  }

  @SafeVarargs
  final <T> T pick(T... of) {
    return of[next(of.length)];
  }

  private boolean chance(int percent) {
    return next(100) < percent;
  }

  String name() {
    if (!names.isEmpty() && chance(90)) return names.get(next(names.size()));
    return pick(NAMES);
  }

  private String number() {
    int kind = next(10);
    if (kind < 6) return pick(CONSTANTS);
    if (kind < 7) return Integer.toString(next(110000) - 40000);
    if (kind < 8) return Integer.toString(165 + next(25));
    if (kind < 9) return Integer.toString(next(4200));
    StringBuilder s = new StringBuilder(pick("$", "%", "#", "")).append(pick("", "-"));
    for (int i = next(9); i >= 0; i--) s.append("0123456789abcdefXYZ".charAt(next(19)));
    return s.append(pick("", ".")).toString();
  }

  private String small() {
    return pick(Integer.toString(next(16) - 5), Integer.toString(next(300)), "-1", "256", "260",
        Integer.toString(next(80000) - 40000));
  }

  private String smalls(int most) {
    StringBuilder s = new StringBuilder();
    for (int i = next(most + 1); i > 0; i--) s.append(small()).append(' ');
    return s.toString();
  }

  private String simple() {
    int kind = next(100);
    if (kind < 35) return number();
    if (kind < 62) return pick(SHUFFLING);
    if (kind < 74) return pick(MEMORY);
    if (kind < 82) return name();
    return kind < 93 ? pick(OTHERS) : pick(LEANER);
  }

  private String body(int depth) {
    StringBuilder s = new StringBuilder(chance(40) ? smalls(4) : "");
    for (int i = next(depth < 3 ? 6 : 3); i > 0; i--) s.append(depth > 3 ? simple() : part(depth + 1)).append(' ');
    return s.toString();
  }

  private String part(int depth) {
    int kind = next(100);
    if (kind < 50) return simple();
    if (kind < 56) {
      return pick("", "DUP ", "0 ", "1 ") + "IF " + body(depth) + pick("", "ELSE " + body(depth)) + "THEN";
    }
    if (kind < 58) return "AHEAD " + body(depth) + "THEN";
    if (kind < 63) {
      return pick("3 0", "1 0", "0 0", "5 2", "-3 3", "") + pick(" DO ", " ?DO ") + body(depth)
          + pick("I DROP ", "J ", "", "LEAVE ", "UNLOOP EXIT ", "DUP 1 = IF LEAVE THEN ", "I . ")
          + pick("LOOP", "1 +LOOP", "2 +LOOP", "-1 +LOOP", "+LOOP", "LOOP");
    }
    if (kind < 67) {
      return "BEGIN " + body(depth) + pick("0 UNTIL", "1 UNTIL", "UNTIL", "AGAIN", "0 WHILE REPEAT",
          "DUP WHILE " + body(depth) + "REPEAT", "WHILE " + body(depth) + "REPEAT");
    }
    if (kind < 71) return cases(depth);
    if (kind < 76) {
      return "[: " + locals() + body(depth) + ";]" + pick(" EXECUTE", " DROP", " CATCH", "", " CATCH DROP");
    }
    return other();
  }

  private String cases(int depth) {
    StringBuilder s = new StringBuilder("CASE ");
    for (int i = next(4); i > 0; i--) s.append(number()).append(" OF ").append(body(depth + 1)).append("ENDOF ");
    return s.append(body(depth + 1)).append("ENDCASE").toString();
  }

  private String other() {
    switch (next(13)) {
      case 0: return "S\" " + pick("1 2 +", "a", "", "EXIT", ": b 5 ;", "PAUSE") + "\"" + pick(" EVALUATE", " TYPE", " 2DROP", "");
      case 1: return ".\" " + pick("hi", "", "xyz") + "\"";
      case 2: return pick("0", "1", "") + " ABORT\" " + pick("bad", "") + "\"";
      case 3: return pick("['] ", "POSTPONE ", "TO ", "IS ", "[CHAR] ") + name();
      case 4: return "POSTPONE " + SecondWords.ALL.get(next(172));
      case 5: return pick("['] ", "' ") + SecondWords.ALL.get(next(172)) + pick(" CATCH", " EXECUTE", " CATCH DROP", "");
      case 6: return "[ " + simple() + " ]" + pick("", " LITERAL");
      case 7: return "RECURSE";
      case 8: return pick("PAUSE", "RECEIVE", "STOP", "0 SEND", "1 SEND", "5 THROW", "-3 THROW", "0 THROW", "EXIT", "ABORT");
      case 9: return pick("p", "q2", "p", "TO p", "2 TO q2");
      case 10: return "\\ " + pick("foo\n", "\n");
      case 11: return "( " + simple() + " )";
      default: return "['] " + name() + pick(" CATCH", " EXECUTE", " TASK", "");
    }
  }

  private String locals() {
    return chance(70) ? "" : pick(LOCALS);
  }

  private String definition() {
    String made = pick(NAMES);
    switch (next(13)) {
      case 0: return ":NONAME " + locals() + body(0) + "; ";
      case 1: return number() + " CONSTANT " + made + " ";
      case 2: return number() + " VALUE " + made + " ";
      case 3: return pick("VARIABLE ", "CREATE ") + made + pick(" ", " 1 , ", " 5 C, 6 C, ");
      case 4: return "DEFER " + made + pick(" ", " ' " + name() + " IS " + made + " ", " ' " + made + " IS " + made + " ");
      case 5: return pick("MARKER " + made + " ", "WORDLIST >ORDER DEFINITIONS ", "WORDLIST DROP ");
      case 6: return ": " + made + " CREATE " + pick(", ", "", ", , ") + "DOES> " + body(1) + "; ";
      default:
        return ": " + made + " " + locals() + body(0) + pick("", "", "", "", "DOES> " + body(1))
            + (chance(95) ? "; " : "") + (chance(12) ? "IMMEDIATE " : "");
    }
  }

  private String use() {
    String n = name();
    switch (next(14)) {
      case 0: case 1: case 2: case 3: return n + " ";
      case 4: return "' " + n + pick(" CATCH ", " EXECUTE ", " CATCH . ", " TASK ", " TASK DROP ", " >BODY ", " DROP ");
      case 5: return "' " + SecondWords.ALL.get(next(172)) + pick(" CATCH ", " EXECUTE ", " TASK ");
      case 6: return "T{ " + simple() + " -> " + simple() + " }T ";
      case 7: return number() + " " + number() + " SEND ";
      case 8: return "S\" " + pick("1 2 +", "a b", ": d 4 ;", "( x", "\\ z", "PAUSE", "' a CATCH", "5 THROW", "EXIT", "2 LOAD")
          + "\" EVALUATE ";
      case 9: return number() + " TO " + n + " ";
      case 10: return "' " + name() + " IS " + n + " ";
      case 11: return pick("0", "1", "2", "3", "7", "8", "-1") + " LOAD ";
      case 12: return pick("0", "3", "40") + " >IN " + pick("! ", "+! ");
      default: return number() + " BASE " + pick("! DECIMAL ", "C! DECIMAL ");
    }
  }

  private String runTask() {
    return ": W " + body(1) + "; " + pick("' W TASK DROP PAUSE ", ": V ['] W CATCH ; ' V TASK PAUSE PAUSE ",
        "' W TASK ' W TASK PAUSE PAUSE PAUSE ", ": V 1 2 3 4 5 6 W ; ' V TASK DROP PAUSE ");
  }

  /** A text of some 1000 bytes at most; its words may use names that are there. */
  String text(SecondSystem s, int mode) {
    names.clear();
    for (SecondSystem.Word w : s.words.subList(SecondWords.ALL.size(), s.words.size())) {
      if (w.name.length > 0 && !w.hidden) names.add(new String(w.name, java.nio.charset.StandardCharsets.ISO_8859_1));
    }
    StringBuilder t = new StringBuilder(chance(75) ? smalls(14) : "");
    for (int i = pick(1, 1, 2, 2, 3, 4, 6); i > 0; i--) t.append(chunk(mode)).append(' ');
    if (chance(4) && t.length() > 0) t.setCharAt(next(t.length()), "\0\t\n \"):;".charAt(next(8)));
    t.setLength(Math.min(t.length(), 1020));
    return t.toString();
  }

  private String chunk(int mode) {
    int kind = next(100);
    if (mode == 1 && kind < 30) return pick(FULL);
    if (mode == 2 && kind < 35) return pick(TASKS);
    if (mode == 3 && kind < 35) return pick(OVER_IN);
    kind = next(100);
    if (kind < 8) return runTask();
    if (kind < 45) return definition();
    if (kind < 80) return use();
    if (kind < 90) return simple() + " " + simple() + " " + simple();
    return kind < 97 ? SecondWords.ALL.get(next(172)) + " " + SecondWords.ALL.get(next(172)) : pick(pick(FULL), pick(TASKS));
  }
}
