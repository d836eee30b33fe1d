import java.math.BigInteger;
import java.nio.charset.StandardCharsets;
import java.util.ArrayList;
import java.util.Arrays;
import java.util.HashMap;
import java.util.List;
import java.util.Map;
import java.util.Set;
import java.util.HashSet;

/** The words that are there at first, a second time. */
final class SecondWords {
  private static final String LINE_1 =
      "DUP DROP SWAP OVER ROT -ROT NIP TUCK ?DUP 2DUP 2DROP 2SWAP 2OVER PICK ROLL DEPTH ";
  private static final String LINE_2 = ">R R> R@ 2>R 2R> ";
  private static final String LINE_3 = "+ - * / MOD /MOD */ */MOD 1+ 1- 2* 2/ NEGATE ABS MIN MAX "
      + "UM* UM/MOD M* SM/REM FM/MOD S>D D+ DNEGATE ";
  private static final String LINE_4 =
      "= <> < > U< 0= 0<> 0< 0> AND OR XOR INVERT LSHIFT RSHIFT WITHIN TRUE FALSE ";
  private static final String LINE_5 = "! @ C! C@ +! 2! 2@ HERE ALLOT , C, ALIGN ALIGNED CELL+ CELLS "
      + "CHAR+ CHARS FILL MOVE COUNT ";
  private static final String LINE_6 =
      ". U. EMIT CR SPACE SPACES TYPE <# # #S #> HOLD SIGN BASE DECIMAL HEX >IN ";
  private static final String LINE_7 = ": ; :NONAME CONSTANT VARIABLE VALUE CREATE DEFER MARKER "
      + "IMMEDIATE ' ['] CHAR [CHAR] [ ] LITERAL POSTPONE RECURSE TO IS DOES> EXECUTE >BODY "
      + "EVALUATE S\" .\" ABORT\" ( \\ {: [: ;] ";
  private static final String LINE_8 = "IF ELSE THEN BEGIN UNTIL WHILE REPEAT AGAIN AHEAD DO ?DO LOOP "
      + "+LOOP LEAVE I J UNLOOP EXIT CASE OF ENDOF ENDCASE ";
  private static final String LINE_9 = "CATCH THROW ABORT WORDLIST >ORDER PREVIOUS DEFINITIONS ONLY "
      + "TASK PAUSE STOP SEND RECEIVE LOAD T{ -> }T";

  static final List<String> ALL = List.of(
      (LINE_1 + LINE_2 + LINE_3 + LINE_4 + LINE_5 + LINE_6 + LINE_7 + LINE_8 + LINE_9).split(" "));
  static final Set<String> ONLY_COMPILING =
      set(LINE_2 + LINE_8 + "; ['] [CHAR] LITERAL POSTPONE RECURSE DOES> ABORT\" {: [: ;]", "");
  static final Set<String> IMMEDIATE = set(LINE_8 + "; ['] [CHAR] [ LITERAL POSTPONE RECURSE TO IS "
      + "DOES> S\" .\" ABORT\" ( \\ {: [: ;]", "I J UNLOOP EXIT");
  private static final Set<String> COMPILES =
      set(String.join(" ", ONLY_COMPILING), LINE_2 + "I J UNLOOP EXIT");
  static final Set<String> TOLD = set(LINE_1 + LINE_2 + LINE_3 + LINE_4 + LINE_5 + LINE_6
      + "I J UNLOOP EXIT >BODY THROW ABORT WORDLIST >ORDER PREVIOUS DEFINITIONS ONLY TASK PAUSE STOP "
      + "SEND RECEIVE", "?DUP PICK ROLL");
  static final Set<String> ON_CHIP =
      set(LINE_1 + LINE_2 + LINE_3 + LINE_4 + LINE_5 + "I J UNLOOP EXIT", "HERE ALLOT , C, ALIGN");

  /** How many cells each takes and leaves, if that is told. */
  static final Map<String, int[]> CELLS = new HashMap<>();

  static {
    cells(0, 0, "ALIGN CR SPACE <# DECIMAL HEX UNLOOP EXIT ABORT PREVIOUS DEFINITIONS ONLY PAUSE STOP");
    cells(0, 1, "DEPTH R> R@ TRUE FALSE HERE BASE >IN I J WORDLIST RECEIVE");
    cells(0, 2, "2R>");
    cells(1, 0, "DROP >R ALLOT , C, . U. EMIT SPACES HOLD SIGN THROW >ORDER");
    cells(1, 1, "1+ 1- 2* 2/ NEGATE ABS 0= 0<> 0< 0> INVERT @ C@ ALIGNED CELL+ CELLS CHAR+ CHARS >BODY TASK");
    cells(1, 2, "DUP S>D 2@ COUNT");
    cells(2, 0, "2DROP 2>R ! C! +! TYPE");
    cells(2, 1, "NIP + - * / MOD MIN MAX = <> < > U< AND OR XOR LSHIFT RSHIFT SEND");
    cells(2, 2, "SWAP /MOD UM* M* DNEGATE # #S #>");
    cells(2, 3, "OVER TUCK");
    cells(2, 4, "2DUP");
    cells(3, 0, "2! FILL MOVE");
    cells(3, 1, "*/ WITHIN");
    cells(3, 2, "*/MOD UM/MOD SM/REM FM/MOD");
    cells(3, 3, "ROT -ROT");
    cells(4, 2, "D+");
    cells(4, 4, "2SWAP");
    cells(4, 6, "2OVER");
  }

  /** What words of line 1 make of the cells on top. */
  private static final Map<String, String> SHUFFLES = Map.ofEntries(
      Map.entry("DUP", "a aa"), Map.entry("DROP", "a "), Map.entry("SWAP", "ab ba"),
      Map.entry("OVER", "ab aba"), Map.entry("ROT", "abc bca"), Map.entry("-ROT", "abc cab"),
      Map.entry("NIP", "ab b"), Map.entry("TUCK", "ab bab"), Map.entry("2DUP", "ab abab"),
      Map.entry("2DROP", "ab "), Map.entry("2SWAP", "abcd cdab"), Map.entry("2OVER", "abcd abcdab"));

  private SecondWords() {}

  private static Set<String> set(String names, String without) {
    Set<String> all = new HashSet<>(Arrays.asList(names.split(" ")));
    all.removeAll(Arrays.asList(without.split(" ")));
    return all;
  }

  private static void cells(int takes, int leaves, String names) {
    for (String name : names.split(" ")) CELLS.put(name, new int[] {takes, leaves});
  }

  static int token(String name) {
    return ALL.indexOf(name);
  }

  static byte[] bytes(String s) {
    return s.getBytes(StandardCharsets.ISO_8859_1);
  }

  private static SecondSystem.Thrown code(int code) {
    return new SecondSystem.Thrown(code);
  }

  static void perform(SecondSystem s, String name) {
    if (COMPILES.contains(name) && !s.compiling) throw code(-14);
    int[] cells = CELLS.get(name);
    if (cells != null && !name.equals("RECEIVE")) s.need(cells[0], cells[1]);
    int token = token(name);
    if (SHUFFLES.containsKey(name)) shuffle(s, SHUFFLES.get(name));
    else if (token <= token("2R>")) stack(s, name);
    else if (token <= token("FALSE")) reckon(s, name);
    else if (token <= token("COUNT")) memory(s, name);
    else if (token <= token(">IN")) print(s, name);
    else if (token <= token(";]")) define(s, name);
    else if (token <= token("ENDCASE")) control(s, name);
    else others(s, name);
  }

  private static void shuffle(SecondSystem s, String how) {
    String from = how.substring(0, how.indexOf(' '));
    int[] cells = new int[from.length()];
    for (int i = from.length() - 1; i >= 0; i--) cells[i] = s.pop();
    for (char c : how.substring(how.indexOf(' ') + 1).toCharArray()) s.push(cells[from.indexOf(c)]);
  }

  private static void stack(SecondSystem s, String name) {
    List<Integer> data = s.data();
    List<Integer> returns = s.hand().returns;
    int has = returns.size() - (s.hand().frames.isEmpty() ? 0 : s.top().returns);
    switch (name) {
      case "?DUP" -> {
        s.need(1, 1);
        int v = data.get(data.size() - 1);
        if (v == 0) return;
        s.need(1, 2);
        s.push(v);
      }
      case "PICK", "ROLL" -> {
        s.need(1, 0);
        long n = s.bare(s.pop());
        if (data.size() < n + 1) throw code(-4);
        int at = data.size() - 1 - (int) n;
        s.push(name.equals("PICK") ? data.get(at) : data.remove(at));
      }
      case "DEPTH" -> s.push(data.size());
      case ">R", "2>R" -> {
        int n = name.equals(">R") ? 1 : 2;
        List<Integer> cells = new ArrayList<>(data.subList(data.size() - n, data.size()));
        SecondSystem.shorten(data, data.size() - n);
        if (returns.size() + n > 64) throw code(-5);
        returns.addAll(cells);
      }
      default -> {
        int n = name.equals("2R>") ? 2 : 1;
        if (has < n) throw code(-6);
        data.addAll(returns.subList(returns.size() - n, returns.size()));
        if (!name.equals("R@")) SecondSystem.shorten(returns, returns.size() - n);
      }
    }
  }

  private static BigInteger big(long v) {
    return BigInteger.valueOf(v);
  }

  private static BigInteger bare(SecondSystem s, int v) {
    return big(s.bare(v));
  }

  private static void twin(SecondSystem s, BigInteger v) {
    s.push(v.longValue());
    s.push(v.shiftRight(s.bits).longValue());
  }

  private static BigInteger popTwin(SecondSystem s, boolean signed) {
    int higher = s.pop();
    BigInteger lower = bare(s, s.pop());
    return (signed ? big(higher) : bare(s, higher)).shiftLeft(s.bits).add(lower);
  }

  private static BigInteger quotient(BigInteger what, BigInteger by, boolean floored) {
    if (by.signum() == 0) throw code(-10);
    BigInteger[] both = what.divideAndRemainder(by);
    boolean lower = floored && both[1].signum() != 0 && what.signum() != by.signum();
    return lower ? both[0].subtract(BigInteger.ONE) : both[0];
  }

  private static void flag(SecondSystem s, boolean truth) {
    s.push(truth ? -1 : 0);
  }

  private static void reckon(SecondSystem s, String name) {
    int takes = CELLS.get(name)[0];
    if (name.equals("S>D")) twin(s, big(s.pop()));
    else if (name.equals("DNEGATE")) twin(s, popTwin(s, true).negate());
    else if (name.equals("D+")) twin(s, popTwin(s, true).add(popTwin(s, true)));
    else if (takes == 0) flag(s, name.equals("TRUE"));
    else if (takes == 1) one(s, name, s.pop());
    else if (takes == 3) three(s, name);
    else two(s, name);
  }

  private static void one(SecondSystem s, String name, long v) {
    switch (name) {
      case "1+" -> s.push(v + 1);
      case "1-" -> s.push(v - 1);
      case "2*" -> s.push(v + v);
      case "2/" -> s.push(Math.floorDiv(v, 2));
      case "NEGATE" -> s.push(-v);
      case "ABS" -> s.push(v < 0 ? -v : v);
      case "INVERT" -> s.push(-1 - v);
      case "0=" -> flag(s, v == 0);
      case "0<>" -> flag(s, v != 0);
      case "0<" -> flag(s, v < 0);
      default -> flag(s, v > 0);
    }
  }

  private static void two(SecondSystem s, String name) {
    int b = s.pop();
    int a = s.pop();
    boolean floored = (s.choices & 1) != 0;
    switch (name) {
      case "+" -> s.push((long) a + b);
      case "-" -> s.push((long) a - b);
      case "*" -> s.push((long) a * b);
      case "/", "MOD", "/MOD" -> {
        BigInteger q = quotient(big(a), big(b), floored);
        if (!name.equals("/")) s.push(a - q.longValue() * b);
        if (!name.equals("MOD")) s.push(q.longValue());
      }
      case "MIN" -> s.push(a < b ? a : b);
      case "MAX" -> s.push(a > b ? a : b);
      case "UM*" -> twin(s, bare(s, a).multiply(bare(s, b)));
      case "M*" -> twin(s, big(a).multiply(big(b)));
      case "=" -> flag(s, a == b);
      case "<>" -> flag(s, a != b);
      case "<" -> flag(s, a < b);
      case ">" -> flag(s, a > b);
      case "U<" -> flag(s, s.bare(a) < s.bare(b));
      case "AND" -> s.push(a & b);
      case "OR" -> s.push(a | b);
      case "XOR" -> s.push(a ^ b);
      case "LSHIFT" -> s.push(s.bare(b) >= s.bits ? 0 : s.bare(a) << b);
      default -> s.push(s.bare(b) >= s.bits ? 0 : s.bare(a) >> b);
    }
  }

  private static void three(SecondSystem s, String name) {
    int c = s.pop();
    if (name.equals("WITHIN")) {
      int low = s.pop();
      int v = s.pop();
      flag(s, s.bare((long) v - low) < s.bare((long) c - low));
      return;
    }
    boolean scales = name.startsWith("*/");
    boolean bare = name.equals("UM/MOD");
    BigInteger by = bare ? bare(s, c) : big(c);
    BigInteger what = scales ? big(s.pop()).multiply(big(s.pop())) : popTwin(s, !bare);
    BigInteger q = quotient(what, by, scales ? (s.choices & 1) != 0 : name.equals("FM/MOD"));
    if (bare && q.bitLength() > s.bits) throw code(-11);
    if (!scales && !bare && q.bitLength() > s.bits - 1) throw code(-11);
    if (!name.equals("*/")) s.push(what.subtract(q.multiply(by)).longValue());
    s.push(q.longValue());
  }

  private static void memory(SecondSystem s, String name) {
    switch (name) {
      case "HERE" -> s.push(s.here);
      case "ALLOT" -> moveHere(s, s.here + (long) s.pop());
      case "ALIGN" -> moveHere(s, (s.here + s.cell - 1) / s.cell * s.cell);
      case "," -> {
        int v = s.pop();
        int at = s.here;
        moveHere(s, at + s.cell);
        s.lay(at, v);
      }
      case "C," -> {
        int v = s.pop();
        int at = s.here;
        moveHere(s, at + 1);
        s.space[at] = (byte) v;
      }
      case "ALIGNED" -> s.push((s.bare(s.pop()) + s.cell - 1) / s.cell * s.cell);
      case "CELL+" -> s.push((long) s.pop() + s.cell);
      case "CELLS" -> s.push((long) s.pop() * s.cell);
      case "CHAR+" -> s.push(s.pop() + 1L);
      case "CHARS" -> { }
      case "FILL" -> {
        int with = s.pop();
        long n = s.bare(s.pop());
        long to = s.bare(s.pop());
        if (n == 0) return;
        int at = s.inSpace(to, n);
        Arrays.fill(s.space, at, at + (int) n, (byte) with);
      }
      case "MOVE" -> {
        long n = s.bare(s.pop());
        long to = s.bare(s.pop());
        long from = s.bare(s.pop());
        if (n == 0) return;
        byte[] moved = Arrays.copyOfRange(s.space, s.inSpace(from, n), (int) (from + n));
        System.arraycopy(moved, 0, s.space, s.inSpace(to, n), (int) n);
      }
      case "COUNT" -> {
        int at = s.inSpace(s.bare(s.pop()), 1);
        s.push(at + 1);
        s.push(s.space[at] & 255);
      }
      default -> reach(s, name, s.bare(s.pop()));
    }
  }

  private static void moveHere(SecondSystem s, long to) {
    if (to < 256 || to > 4096) throw code(-8);
    s.here = (int) to;
  }

  private static void reach(SecondSystem s, String name, long address) {
    int[] cells = new int[CELLS.get(name)[0] - 1];
    for (int i = 0; i < cells.length; i++) cells[i] = s.pop();
    int n = name.startsWith("C") ? 1 : name.startsWith("2") ? 2 * s.cell : s.cell;
    int at = s.inSpace(address, n);
    switch (name) {
      case "!" -> s.lay(at, cells[0]);
      case "@" -> s.push(s.get(at));
      case "C!" -> s.space[at] = (byte) cells[0];
      case "C@" -> s.push(s.space[at] & 255);
      case "+!" -> s.lay(at, (long) s.get(at) + cells[0]);
      case "2!" -> {
        s.lay(at, cells[0]);
        s.lay(at + s.cell, cells[1]);
      }
      default -> {
        s.push(s.get(at + s.cell));
        s.push(s.get(at));
      }
    }
  }

  private static void hold(SecondSystem s, int letter) {
    if (s.picture <= 16) throw code(-17);
    s.picture--;
    s.space[s.picture] = (byte) letter;
  }

  private static void print(SecondSystem s, String name) {
    switch (name) {
      case ".", "U." -> {
        int v = s.pop();
        String shown = Long.toString(name.equals(".") ? v : s.bare(v), s.base()).toUpperCase() + " ";
        s.emit(bytes(shown), 0, shown.length());
      }
      case "EMIT" -> s.emit(s.pop());
      case "CR" -> s.emit(10);
      case "SPACE" -> s.emit(32);
      case "SPACES" -> {
        long n = s.pop();
        for (int i = 0; i < Math.min(n, 4000); i++) s.emit(32);
        if (n > 4000) s.outTotal = Math.min(s.outTotal + n - 4000, Integer.MAX_VALUE);
      }
      case "TYPE" -> {
        long n = s.bare(s.pop());
        s.type(s.bare(s.pop()), n);
      }
      case "<#" -> s.picture = 128;
      case "#", "#S" -> {
        BigInteger v = popTwin(s, false);
        BigInteger base = big(s.base());
        do {
          hold(s, Character.toUpperCase(Character.forDigit(v.mod(base).intValue(), 36)));
          v = v.divide(base);
        } while (name.equals("#S") && v.signum() != 0);
        twin(s, v);
      }
      case "#>" -> {
        popTwin(s, false);
        s.push(s.picture);
        s.push(128 - s.picture);
      }
      case "HOLD" -> hold(s, s.pop());
      case "SIGN" -> {
        if (s.pop() < 0) hold(s, '-');
      }
      case "BASE" -> s.push(0);
      case ">IN" -> s.push(4);
      default -> s.lay(0, name.equals("HEX") ? 16 : 10);
    }
  }

  private static void define(SecondSystem s, String name) {
    switch (name) {
      case ":", ":NONAME" -> {
        if (!s.makings.isEmpty()) throw code(-29);
        s.beginDefinition(name.equals(":") ? s.readName(true) : new byte[0], SecondSystem.NONE);
        s.compiling = true;
      }
      case ";" -> endDefinition(s);
      case "[:" -> {
        if (s.makings.size() >= 5) throw code(-29);
        s.roomForWord();
        s.add(SecondSystem.JUMP, 0);
        for (SecondSystem.Making m : s.makings) s.words.get(m.token).holds = true;
        s.beginDefinition(new byte[0], s.items.size() - 1);
      }
      case ";]" -> {
        if (s.makings.size() < 2 || pairs(s) > 0) throw code(-22);
        s.room(2);
        int jump = s.innermost().jump;
        int token = s.finishDefinition();
        s.items.get(jump)[1] = s.items.size();
        s.add(SecondSystem.LIT, token);
        SecondEffects.work(s, token);
      }
      case "CONSTANT", "VALUE" -> {
        byte[] made = s.readName(true);
        s.need(1, 0);
        s.roomForWord();
        s.make(new SecondSystem.Word(name.equals("VALUE") ? 4 : 2, made, s.current, s.pop()));
      }
      case "CREATE", "DEFER", "VARIABLE", "MARKER" -> makeWord(s, name);
      case "IMMEDIATE" -> {
        if (s.latest == SecondSystem.NONE) throw code(-16);
        s.words.get(s.latest).immediate = 1;
      }
      case "'" -> {
        int token = s.findRead();
        s.need(0, 1);
        s.push(token);
      }
      case "[']" -> s.add(SecondSystem.LIT, s.findRead());
      case "CHAR" -> {
        int letter = s.readName(false)[0] & 255;
        s.need(0, 1);
        s.push(letter);
      }
      case "[CHAR]" -> s.add(SecondSystem.LIT, s.readName(false)[0] & 255);
      case "[" -> s.compiling = false;
      case "]" -> {
        if (s.makings.isEmpty()) throw code(-14);
        s.compiling = true;
      }
      case "POSTPONE" -> {
        int token = s.findRead();
        s.add(s.words.get(token).immediate != 0 ? SecondSystem.WORD : SecondSystem.COMPILE, token);
      }
      case "RECURSE" -> s.add(SecondSystem.WORD, s.innermost().token);
      case "TO", "IS" -> set(s, name);
      case "DOES>" -> {
        if (pairs(s) > 0) throw code(-22);
        s.add(SecondSystem.DOES, 0);
        s.innermost().does = true;
      }
      case "S\"", ".\"", "ABORT\"" -> string(s, name);
      case "(" -> s.readTo(')');
      case "\\" -> s.skipLine();
      case "{:" -> locals(s);
      default -> takeCells(s, name);
    }
  }

  /** Words of line 7 that take cells. */
  private static void takeCells(SecondSystem s, String name) {
    s.need(name.equals("EVALUATE") ? 2 : 1, 0);
    int v = s.pop();
    switch (name) {
      case "LITERAL" -> s.add(SecondSystem.LIT, v);
      case "EXECUTE" -> s.perform(v, false);
      case ">BODY" -> {
        if (!s.isThere(v)) throw code(-9);
        int kind = s.words.get(v).kind;
        if (kind != 3 && kind != 7) throw code(-31);
        s.push(s.words.get(v).value);
      }
      default -> {
        long from = s.bare(s.pop());
        long n = s.bare(v);
        if (s.at != 0) throw code(-24);
        s.nest('S', n > 0 ? s.inSpace(from, n) : 0, (int) n);
      }
    }
  }

  private static int pairs(SecondSystem s) {
    return s.control.size() - (s.makings.isEmpty() ? 0 : s.innermost().pairs);
  }

  private static void endDefinition(SecondSystem s) {
    if (s.makings.size() != 1) throw code(-22);
    boolean nameless = s.innermost().nameless;
    if (nameless) s.need(0, 1);
    if (pairs(s) > 0) throw code(-22);
    s.room(1);
    int token = s.finishDefinition();
    s.compiling = false;
    SecondEffects.work(s, token);
    if (nameless) s.push(token);
  }

  private static void makeWord(SecondSystem s, String name) {
    if (name.equals("MARKER") && !s.makings.isEmpty()) throw code(-29);
    byte[] made = s.readName(true);
    s.roomForWord();
    switch (name) {
      case "CREATE" -> s.make(new SecondSystem.Word(3, made, s.current, s.here));
      case "DEFER" -> s.make(new SecondSystem.Word(5, made, s.current, SecondSystem.NONE));
      case "VARIABLE" -> {
        int at = s.here;
        moveHere(s, at + s.cell);
        s.lay(at, 0);
        s.make(new SecondSystem.Word(7, made, s.current, at));
      }
      default -> {
        if (s.words.stream().filter(w -> w.kind == 6).count() >= 32) throw code(-8);
        SecondSystem.Word w = new SecondSystem.Word(6, made, s.current, 0);
        w.mark = new int[] {s.items.size(), s.lists, s.here, s.current, s.latest};
        w.markOrder = new ArrayList<>(s.order);
        s.make(w);
      }
    }
  }

  private static void set(SecondSystem s, String name) {
    byte[] read = s.readName(false);
    int local = name.equals("TO") && s.compiling ? s.local(read) : SecondSystem.NONE;
    if (local != SecondSystem.NONE) {
      s.add(SecondSystem.SET, local);
      return;
    }
    int token = s.find(read);
    if (token == SecondSystem.NONE) throw code(-13);
    if (s.words.get(token).kind != (name.equals("TO") ? 4 : 5)) throw code(-32);
    if (s.compiling) s.add(SecondSystem.PUT, token);
    else s.put(token);
  }

  private static void string(SecondSystem s, String name) {
    byte[] read = s.readTo('"');
    if (!s.compiling && name.equals(".\"")) {
      s.emit(read, 0, read.length);
    } else if (!s.compiling) {
      s.need(0, 2);
      if (read.length > 128) throw code(-18);
      System.arraycopy(read, 0, s.space, 128, read.length);
      s.push(128);
      s.push(read.length);
    } else {
      s.room(name.equals("S\"") ? 2 : 3);
      int at = s.here;
      moveHere(s, at + read.length);
      System.arraycopy(read, 0, s.space, at, read.length);
      s.add(SecondSystem.LIT, at);
      s.add(SecondSystem.LIT, read.length);
      if (name.equals(".\"")) s.add(SecondSystem.WORD, token("TYPE"));
      if (name.equals("ABORT\"")) s.add(SecondSystem.ABORT, 0);
    }
  }

  private static void locals(SecondSystem s) {
    SecondSystem.Making m = s.innermost();
    if (m.hasLocals || m.does || pairs(s) > 0) throw code(-22);
    List<byte[]> names = new ArrayList<>();
    int taken = -1;
    boolean over = false;
    for (String read = word(s); !read.equals(":}"); read = word(s)) {
      if (over || read.equals("--")) {
        over = true;
      } else if (read.equals("|") && taken < 0) {
        taken = names.size();
      } else {
        if (read.length() > 24) throw code(-19);
        if (names.size() >= 8) throw code(-8);
        names.add(bytes(read));
      }
    }
    s.add(SecondSystem.ENTER, (taken < 0 ? names.size() : taken) + 16 * names.size());
    m.hasLocals = true;
    m.locals = names;
  }

  private static String word(SecondSystem s) {
    byte[] read = s.readWord();
    if (read.length == 0) throw code(-39);
    return new String(read, StandardCharsets.ISO_8859_1);
  }

  // CONTROL.

  private static char top(SecondSystem s, int below) {
    return pairs(s) > below ? (char) s.control.get(s.control.size() - 1 - below)[0] : ' ';
  }

  private static void want(SecondSystem s, char kind) {
    if (top(s, 0) != kind) throw code(-22);
  }

  private static void pair(SecondSystem s, char kind, int place) {
    if (s.control.size() >= 32) throw code(-52);
    s.control.add(new int[] {kind, place});
  }

  private static int popPair(SecondSystem s) {
    return s.control.remove(s.control.size() - 1)[1];
  }

  private static void branch(SecondSystem s, char kind, int item) {
    if (s.control.size() >= 32) throw code(-52);
    s.room(1);
    pair(s, kind, s.items.size());
    s.add(item, 0);
  }

  private static void point(SecondSystem s, int place) {
    s.items.get(place)[1] = s.items.size();
  }

  private static void control(SecondSystem s, String name) {
    switch (name) {
      case "IF" -> branch(s, 'O', SecondSystem.JUMP0);
      case "AHEAD" -> branch(s, 'O', SecondSystem.JUMP);
      case "DO" -> branch(s, 'L', SecondSystem.DO);
      case "?DO" -> branch(s, 'L', SecondSystem.QDO);
      case "OF" -> branch(s, 'F', SecondSystem.OF);
      case "BEGIN" -> pair(s, 'D', s.items.size());
      case "CASE" -> pair(s, 'C', 0);
      case "THEN" -> {
        want(s, 'O');
        point(s, popPair(s));
      }
      case "ELSE" -> {
        want(s, 'O');
        branch(s, 'O', SecondSystem.JUMP);
        int[] jump = s.control.remove(s.control.size() - 1);
        point(s, popPair(s));
        s.control.add(jump);
      }
      case "ENDOF" -> {
        want(s, 'F');
        s.add(SecondSystem.JUMP, 0);
        point(s, popPair(s));
        pair(s, 'E', s.items.size() - 1);
      }
      case "UNTIL", "AGAIN" -> {
        want(s, 'D');
        s.room(1);
        s.add(name.equals("UNTIL") ? SecondSystem.JUMP0 : SecondSystem.JUMP, popPair(s));
      }
      case "WHILE" -> {
        want(s, 'D');
        branch(s, 'O', SecondSystem.JUMP0);
        s.control.add(s.control.remove(s.control.size() - 2));
      }
      case "REPEAT" -> {
        want(s, 'D');
        if (top(s, 1) != 'O') throw code(-22);
        s.room(1);
        s.add(SecondSystem.JUMP, popPair(s));
        point(s, popPair(s));
      }
      case "LOOP", "+LOOP" -> endLoop(s, name);
      case "LEAVE" -> leave(s);
      case "ENDCASE" -> endCase(s);
      case "EXIT" -> s.exit();
      default -> index(s, name);
    }
  }

  private static void endLoop(SecondSystem s, String name) {
    want(s, 'L');
    s.room(1);
    int begin = popPair(s);
    s.add(name.equals("LOOP") ? SecondSystem.LOOP : SecondSystem.PLUS_LOOP, begin + 1);
    if (s.items.get(begin)[0] == SecondSystem.QDO) point(s, begin);
    for (int[] item : s.items) {
      if (item[0] == SecondSystem.LEAVE && item[1] == -2 - begin) item[1] = s.items.size();
    }
  }

  private static void leave(SecondSystem s) {
    for (int below = 0; below < pairs(s); below++) {
      if (top(s, below) != 'L') continue;
      s.add(SecondSystem.LEAVE, -2 - s.control.get(s.control.size() - 1 - below)[1]);
      return;
    }
    throw code(-22);
  }

  private static void endCase(SecondSystem s) {
    int ends = 0;
    while (top(s, ends) == 'E') ends++;
    if (top(s, ends) != 'C') throw code(-22);
    s.add(SecondSystem.WORD, token("DROP"));
    for (int i = 0; i < ends; i++) point(s, popPair(s));
    popPair(s);
  }

  private static void index(SecondSystem s, String name) {
    List<int[]> loops = s.hand().loops;
    int has = loops.size() - (s.hand().frames.isEmpty() ? 0 : s.top().loops);
    int n = name.equals("J") ? 2 : 1;
    if (has < n) throw code(-26);
    if (name.equals("UNLOOP")) loops.remove(loops.size() - 1);
    else s.push(loops.get(loops.size() - n)[0]);
  }

  // Line 9.

  private static void others(SecondSystem s, String name) {
    List<Integer> data = s.data();
    switch (name) {
      case "CATCH" -> doCatch(s);
      case "THROW" -> {
        int v = s.pop();
        if (v != 0) throw code(v);
      }
      case "ABORT" -> throw code(-1);
      case "WORDLIST" -> {
        if (s.lists >= 8) throw code(-8);
        s.lists++;
        s.push(s.lists);
      }
      case ">ORDER" -> {
        int list = s.pop();
        if (list < 1 || list > s.lists) throw code(-24);
        if (s.order.size() >= 8) throw code(-49);
        s.order.add(list);
      }
      case "PREVIOUS", "DEFINITIONS" -> {
        if (s.order.isEmpty()) throw code(-50);
        if (name.equals("PREVIOUS")) s.order.remove(s.order.size() - 1);
        else s.current = s.order.get(s.order.size() - 1);
      }
      case "ONLY" -> s.order = new ArrayList<>(List.of(1));
      case "TASK" -> makeTask(s, s.pop());
      case "PAUSE" -> s.nextReady();
      case "STOP" -> {
        if (s.at == 0) throw code(-24);
        s.endTask(0);
      }
      case "SEND" -> send(s, s.pop(), s.pop());
      case "RECEIVE" -> receive(s);
      case "LOAD" -> {
        s.need(1, 0);
        int block = s.pop();
        if (s.at != 0) throw code(-24);
        if (block < 0 || block > 7) throw code(-35);
        s.nest('B', block, 512);
      }
      case "T{" -> s.noted = data.size();
      default -> {
        int from = Math.min(s.noted, data.size());
        List<Integer> above = new ArrayList<>(data.subList(from, data.size()));
        SecondSystem.shorten(data, from);
        if (name.equals("->")) s.kept = above;
        else if (above.equals(s.kept)) s.good++;
        else s.bad++;
      }
    }
  }

  private static void doCatch(SecondSystem s) {
    s.need(1, 0);
    int token = s.pop();
    if (!s.isThere(token)) throw code(-9);
    SecondSystem.Frame f = s.open('C');
    f.depth = s.data().size();
    f.texts = s.at == 0 ? s.nested.size() : 0;
    f.in = s.get(4);
    s.perform(token, false);
  }

  private static void makeTask(SecondSystem s, int token) {
    if (!s.isThere(token)) throw code(-9);
    int i = 1;
    while (i < 4 && (s.tasks[i].state == 1 || s.tasks[i].state == 2)) i++;
    if (i < 4) {
      s.tasks[i] = new SecondSystem.Task();
      s.tasks[i].state = 1;
      s.tasks[i].token = token;
    }
    s.push(i % 4);
  }

  private static void send(SecondSystem s, int to, int v) {
    boolean there = to >= 0 && to < 4 && (s.tasks[to].state == 1 || s.tasks[to].state == 2)
        && s.tasks[to].box.size() < 4;
    if (there) {
      s.tasks[to].box.add(v);
      s.tasks[to].state = 1;
    }
    flag(s, there);
  }

  private static void receive(SecondSystem s) {
    SecondSystem.Task t = s.hand();
    if (!t.box.isEmpty()) {
      s.takeFromBox();
    } else {
      if (!s.nextReady()) throw code(-257);
      t.state = 2;
      t.takes = true;
    }
  }
}
