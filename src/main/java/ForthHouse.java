import java.util.Arrays;

/** Systems of a stack language after Forth 2012, a chip beside them, and images of them. */
public final class ForthHouse {
  public static final int NONE = -1, BAD = -2, STATE = -3, FULL = -4;

  private static final int SYSTEMS = 3, IMAGES = 2, TAPE_ROOM = 1024, MOST_STEPS = 20000;
  private static final int SPACE_ROOM = 4096, BASE_AT = 0, IN_AT = 4, FIRST_HERE = 256;
  private static final int PICTURE_LOW = 16, STRINGS_AT = 128, STRINGS_ROOM = 128;
  private static final int WORDS_ROOM = 360, NAME_ROOM = 24, ITEMS_ROOM = 4000;
  private static final int DATA_ROOM = 64, RETURN_ROOM = 64, LOOPS_ROOM = 16, LOCALS_ROOM = 64;
  private static final int FRAMES_ROOM = 40, BOX_ROOM = 4, TASKS = 4;
  private static final int TEXTS_ROOM = 5, BLOCKS = 8, BLOCK_BYTES = 512, LINE_BYTES = 64;
  private static final int PAIRS_ROOM = 32, OPEN_ROOM = 5, LOCALS_MOST = 8;
  private static final int LISTS_ROOM = 8, ORDER_ROOM = 8, MARKERS_ROOM = 32, DEFERS_MOST = 8;
  private static final int OUT_ROOM = 3000, CHIP_ROOM = 2000;

  // THROW codes.
  private static final int DATA_FULL = -3, DATA_SHORT = -4, ROWS_FULL = -5, RETURN_SHORT = -6;
  private static final int LOOPS_FULL = -7, NO_ROOM = -8, NO_PLACE = -9, BY_ZERO = -10;
  private static final int NO_QUOTIENT = -11, NOT_FOUND = -13, NOT_HERE = -14, NO_MARKER = -15;
  private static final int NO_NAME = -16, PICTURE_FULL = -17, STRING_LONG = -18, NAME_LONG = -19;
  private static final int UNPAIRED = -22, NO_SUCH = -24, RETURN_LEFT = -25, NO_LOOP = -26;
  private static final int NESTED = -29, NOT_CREATED = -31, NOT_SETTABLE = -32, NO_BLOCK = -35;
  private static final int TEXT_ENDS = -39, BAD_BASE = -40, ORDER_FULL = -49, ORDER_EMPTY = -50;
  private static final int CONTROL_FULL = -52, NONE_READY = -257;

  // Kinds of words.
  private static final int BUILT_IN = 0, DEFINED = 1, CONSTANT_KIND = 2, CREATED = 3;
  private static final int VALUE_KIND = 4, DEFERRED = 5, MARKER_KIND = 6, VARIABLE_KIND = 7;

  // Kinds of items.
  private static final int K_WORD = 0, K_LIT = 1, K_JUMP = 2, K_JUMP0 = 3, K_DO = 4, K_QDO = 5;
  private static final int K_LOOP = 6, K_PLUS_LOOP = 7, K_LEAVE = 8, K_OF = 9, K_DOES = 10;
  private static final int K_ENTER = 11, K_GET = 12, K_SET = 13, K_PUT = 14, K_COMPILE = 15;
  private static final int K_ABORT = 16, K_CALL = 17;
  private static final int CHIP_KIND = 16777216;

  // Kinds of frames, of pairs of CONTROL, of texts.
  private static final int F_DEFINITION = 1, F_TEXT = 2, F_CATCH = 3;
  private static final int P_ORIGIN = 1, P_DESTINATION = 2, P_LOOP = 3, P_CASE = 4, P_OF = 5;
  private static final int P_ENDOF = 6;
  private static final int T_SPACE = 1, T_BLOCK = 2;

  // What is told of words that are there at first.
  private static final int ONLY_COMPILING = 2, COMPILES = 4, TOLD = 8;
  // IMMEDIATE is a flag of every word; the others are of definitions.
  private static final int IMMEDIATE_FLAG = 1, HIDDEN = 2, WITHIN_ONE = 4, HOLDS_ONE = 8;

  // States of tasks.
  private static final int READY = 1, WAITING = 2, ENDED = 3;

  // Tokens of the words that are there at first, by the document's nine lines.
  private static final int DUP = 0, DROP = 1, SWAP = 2, OVER = 3, ROT = 4, NROT = 5, NIP = 6;
  private static final int TUCK = 7, QDUP = 8, TWO_DUP = 9, TWO_DROP = 10, TWO_SWAP = 11;
  private static final int TWO_OVER = 12, PICK = 13, ROLL = 14, DEPTH = 15;
  private static final int TO_R = 16, R_FROM = 17, R_FETCH = 18, TWO_TO_R = 19, TWO_R_FROM = 20;
  private static final int PLUS = 21, MINUS = 22, TIMES = 23, SLASH = 24, MOD = 25;
  private static final int SLASH_MOD = 26, TIMES_OVER = 27, TIMES_OVER_MOD = 28, ONE_PLUS = 29;
  private static final int ONE_MINUS = 30, TWO_TIMES = 31, TWO_SLASH = 32, NEGATE = 33, ABS = 34;
  private static final int MIN = 35, MAX = 36, UM_TIMES = 37, UM_SLASH_MOD = 38, M_TIMES = 39;
  private static final int SM_REM = 40, FM_MOD = 41, S_TO_D = 42, D_PLUS = 43, DNEGATE = 44;
  private static final int EQUALS = 45, DIFFERS = 46, LESS = 47, MORE = 48, U_LESS = 49;
  private static final int ZERO_EQUALS = 50, ZERO_DIFFERS = 51, ZERO_LESS = 52, ZERO_MORE = 53;
  private static final int AND = 54, OR = 55, XOR = 56, INVERT = 57, LSHIFT = 58, RSHIFT = 59;
  private static final int WITHIN = 60, TRUE = 61, FALSE = 62;
  private static final int STORE = 63, FETCH = 64, C_STORE = 65, C_FETCH = 66, PLUS_STORE = 67;
  private static final int TWO_STORE = 68, TWO_FETCH = 69, HERE = 70, ALLOT = 71, COMMA = 72;
  private static final int C_COMMA = 73, ALIGN = 74, ALIGNED = 75, CELL_PLUS = 76, CELLS = 77;
  private static final int CHAR_PLUS = 78, CHARS = 79, FILL = 80, MOVE = 81, COUNT = 82;
  private static final int DOT = 83, U_DOT = 84, EMIT = 85, CR = 86, BLANK = 87, SPACES = 88;
  private static final int TYPE = 89, LESS_SHARP = 90, SHARP = 91, SHARP_S = 92, SHARP_MORE = 93;
  private static final int HOLD = 94, SIGN = 95, BASE = 96, DECIMAL = 97, HEX = 98, TO_IN = 99;
  private static final int COLON = 100, SEMICOLON = 101, NONAME = 102, CONSTANT = 103;
  private static final int VARIABLE = 104, VALUE = 105, CREATE = 106, DEFER = 107, MARKER = 108;
  private static final int IMMEDIATE = 109, TICK = 110, BRACKET_TICK = 111, CHAR = 112;
  private static final int BRACKET_CHAR = 113, LEFT_BRACKET = 114, RIGHT_BRACKET = 115;
  private static final int LITERAL = 116, POSTPONE = 117, RECURSE = 118, TO = 119, IS = 120;
  private static final int DOES = 121, EXECUTE = 122, TO_BODY = 123, EVALUATE = 124;
  private static final int S_QUOTE = 125, DOT_QUOTE = 126, ABORT_QUOTE = 127, PAREN = 128;
  private static final int BACKSLASH = 129, LOCALS = 130, QUOTATION = 131, END_QUOTATION = 132;
  private static final int IF = 133, ELSE = 134, THEN = 135, BEGIN = 136, UNTIL = 137;
  private static final int WHILE = 138, REPEAT = 139, AGAIN = 140, AHEAD = 141, DO = 142;
  private static final int QDO = 143, LOOP = 144, PLUS_LOOP = 145, LEAVE = 146, I = 147, J = 148;
  private static final int UNLOOP = 149, EXIT = 150, CASE = 151, OF = 152, ENDOF = 153;
  private static final int ENDCASE = 154;
  private static final int CATCH = 155, THROW = 156, ABORT = 157, WORDLIST = 158, TO_ORDER = 159;
  private static final int PREVIOUS = 160, DEFINITIONS = 161, ONLY = 162, TASK = 163;
  private static final int PAUSE = 164, STOP = 165, SEND = 166, RECEIVE = 167, LOAD = 168;
  private static final int TEST = 169, TEST_KEEP = 170, TEST_END = 171, BUILT_INS = 172;

  private static final String LINE_1 =
      "DUP DROP SWAP OVER ROT -ROT NIP TUCK ?DUP 2DUP 2DROP 2SWAP 2OVER PICK ROLL DEPTH ";
  private static final String LINE_2 = ">R R> R@ 2>R 2R> ";
  private static final String LINE_3 =
      "+ - * / MOD /MOD */ */MOD 1+ 1- 2* 2/ NEGATE ABS MIN MAX UM* UM/MOD M* SM/REM FM/MOD S>D D+ DNEGATE ";
  private static final String LINE_4 =
      "= <> < > U< 0= 0<> 0< 0> AND OR XOR INVERT LSHIFT RSHIFT WITHIN TRUE FALSE ";
  private static final String LINE_5 =
      "! @ C! C@ +! 2! 2@ HERE ALLOT , C, ALIGN ALIGNED CELL+ CELLS CHAR+ CHARS FILL MOVE COUNT ";
  private static final String LINE_6 =
      ". U. EMIT CR SPACE SPACES TYPE <# # #S #> HOLD SIGN BASE DECIMAL HEX >IN ";
  private static final String LINE_7 =
      ": ; :NONAME CONSTANT VARIABLE VALUE CREATE DEFER MARKER IMMEDIATE ' ['] CHAR [CHAR] [ ] LITERAL POSTPONE RECURSE TO IS DOES> EXECUTE >BODY EVALUATE S\" .\" ABORT\" ( \\ {: [: ;] ";
  private static final String LINE_8 =
      "IF ELSE THEN BEGIN UNTIL WHILE REPEAT AGAIN AHEAD DO ?DO LOOP +LOOP LEAVE I J UNLOOP EXIT CASE OF ENDOF ENDCASE ";
  private static final String LINE_9 =
      "CATCH THROW ABORT WORDLIST >ORDER PREVIOUS DEFINITIONS ONLY TASK PAUSE STOP SEND RECEIVE LOAD T{ -> }T ";

  // How many cells each of them takes from DATA and leaves there, a row a line. Words that read
  // the text first, or look themselves, have 0 here.
  private static final byte[] TAKES = {
    1, 1, 2, 2, 3, 3, 2, 2, 1, 2, 2, 4, 4, 1, 1, 0,
    1, 0, 0, 2, 0,
    2, 2, 2, 2, 2, 2, 3, 3, 1, 1, 1, 1, 1, 1, 2, 2, 2, 3, 2, 3, 3, 1, 4, 2,
    2, 2, 2, 2, 2, 1, 1, 1, 1, 2, 2, 2, 1, 2, 2, 3, 0, 0,
    2, 1, 2, 1, 2, 3, 1, 0, 1, 1, 1, 0, 1, 1, 1, 1, 1, 3, 3, 1,
    1, 1, 1, 0, 0, 1, 2, 0, 2, 2, 2, 1, 1, 0, 0, 0, 0,
    0, 0, 0, 0, 0, 0, 0, 0, 0, 0, 0, 0, 0, 0, 0, 0, 0, 0, 0, 0, 0, 0, 1, 1, 2, 0, 0, 0, 0, 0, 0, 0, 0,
    0, 0, 0, 0, 0, 0, 0, 0, 0, 0, 0, 0, 0, 0, 0, 0, 0, 0, 0, 0, 0, 0,
    1, 1, 0, 0, 1, 0, 0, 0, 1, 0, 0, 2, 0, 1, 0, 0, 0
  };
  private static final byte[] LEAVES = {
    2, 0, 2, 3, 3, 3, 1, 3, 1, 4, 0, 4, 6, 1, 0, 1,
    0, 1, 1, 0, 2,
    1, 1, 1, 1, 1, 2, 1, 2, 1, 1, 1, 1, 1, 1, 1, 1, 2, 2, 2, 2, 2, 2, 2, 2,
    1, 1, 1, 1, 1, 1, 1, 1, 1, 1, 1, 1, 1, 1, 1, 1, 1, 1,
    0, 1, 0, 1, 0, 0, 2, 1, 0, 0, 0, 0, 1, 1, 1, 1, 1, 0, 0, 2,
    0, 0, 0, 0, 0, 0, 0, 0, 2, 2, 2, 0, 0, 1, 0, 0, 1,
    0, 0, 0, 0, 0, 0, 0, 0, 0, 0, 0, 0, 0, 0, 0, 0, 0, 0, 0, 0, 0, 0, 0, 1, 0, 0, 0, 0, 0, 0, 0, 0, 0,
    0, 0, 0, 0, 0, 0, 0, 0, 0, 0, 0, 0, 0, 0, 1, 1, 0, 0, 0, 0, 0, 0,
    0, 0, 0, 1, 0, 0, 0, 0, 1, 0, 0, 1, 1, 0, 0, 0, 0
  };
  // IMMEDIATE_FLAG, ONLY_COMPILING, COMPILES and TOLD of each of them.
  private static final byte[] TRAITS = {
    8, 8, 8, 8, 8, 8, 8, 8, 0, 8, 8, 8, 8, 0, 0, 8,
    10, 10, 10, 10, 10,
    8, 8, 8, 8, 8, 8, 8, 8, 8, 8, 8, 8, 8, 8, 8, 8, 8, 8, 8, 8, 8, 8, 8, 8,
    8, 8, 8, 8, 8, 8, 8, 8, 8, 8, 8, 8, 8, 8, 8, 8, 8, 8,
    8, 8, 8, 8, 8, 8, 8, 8, 8, 8, 8, 8, 8, 8, 8, 8, 8, 8, 8, 8,
    8, 8, 8, 8, 8, 8, 8, 8, 8, 8, 8, 8, 8, 8, 8, 8, 8,
    0, 7, 0, 0, 0, 0, 0, 0, 0, 0, 0, 7, 0, 7, 1, 0, 7, 7, 7, 1, 1, 7, 0, 8, 0, 1, 1, 7, 1, 1, 7, 7, 7,
    7, 7, 7, 7, 7, 7, 7, 7, 7, 7, 7, 7, 7, 7, 10, 10, 10, 10, 7, 7, 7, 7,
    0, 8, 8, 8, 8, 8, 8, 8, 8, 8, 8, 8, 8, 0, 0, 0, 0
  };

  private final byte[] tape = new byte[TAPE_ROOM];
  private int tapeLength;
  private final Forth[] systems = new Forth[SYSTEMS];
  private int systemCount;
  private final Forth[] images = new Forth[IMAGES];
  private final boolean[] kept = new boolean[IMAGES];
  private final Chip board = new Chip();

  // All that systems and images ever need is made here: no call makes anything.
  public ForthHouse() {
    for (int i = 0; i < SYSTEMS; i++) systems[i] = new Forth();
    for (int i = 0; i < IMAGES; i++) images[i] = new Forth();
  }

  public int type(long bytes, int n) {
    if (n < 1 || n > 8) return BAD;
    if (tapeLength + n > TAPE_ROOM) return FULL;
    for (int i = 0; i < n; i++) tape[tapeLength + i] = (byte) (bytes >> (8 * i));
    tapeLength += n;
    return tapeLength;
  }

  public int wipe() {
    int had = tapeLength;
    tapeLength = 0;
    return had;
  }

  public int system(int cell, int choices) {
    if (cell < 2 || cell > 4 || choices < 0 || choices > 7) return BAD;
    if (systemCount >= SYSTEMS) return FULL;
    systems[systemCount].begin(cell, choices);
    return systemCount++;
  }

  public int evaluate(int system, int steps) {
    int length = wipe();
    Forth forth = systemOf(system);
    if (forth == null || !stepsGood(steps)) return BAD;
    if (forth.texts.live) return STATE;
    forth.texts.start(tape, length);
    return forth.run(steps);
  }

  public int go(int system, int steps) {
    Forth forth = systemOf(system);
    if (forth == null || !stepsGood(steps)) return BAD;
    return forth.texts.live ? forth.run(steps) : STATE;
  }

  public int out(int system, int i) {
    Forth forth = systemOf(system);
    return forth == null ? BAD : forth.sink.byteOf(i);
  }

  public int count(int system, int what) {
    Forth forth = systemOf(system);
    return forth == null ? BAD : forth.figure(what);
  }

  public int thrown(int system, int what) {
    Forth forth = systemOf(system);
    if (forth == null) return BAD;
    switch (what) {
      case 0: return forth.thrownCode;
      case 1: return forth.thrownIn;
      case 2: return forth.thrownTexts;
      default: return BAD;
    }
  }

  public int depth(int system, int task, int which) {
    Task rows = taskOf(system, task);
    return rows == null ? BAD : rows.lengthOf(which);
  }

  public int cell(int system, int task, int which, int i) {
    Task rows = taskOf(system, task);
    return rows == null ? BAD : rows.cellOf(which, i);
  }

  public int task(int system, int task) {
    Task rows = taskOf(system, task);
    if (rows == null) return BAD;
    return rows.state == ENDED ? ENDED - 16 * rows.code : rows.state;
  }

  public int fetch(int system, int at, int n) {
    Forth forth = systemOf(system);
    if (forth == null || n < 0 || n > 1) return BAD;
    int bytes = n == 1 ? 1 : forth.space.cellBytes;
    if (!forth.space.holds(at, bytes)) return BAD;
    return n == 1 ? forth.space.byteAt(at) : forth.space.cellAt(at);
  }

  public int find(int system) {
    int length = wipe();
    Forth forth = systemOf(system);
    return forth == null ? BAD : forth.tokenOf(tape, length);
  }

  public int word(int system, int token, int what) {
    Forth forth = systemOf(system);
    return forth == null ? BAD : forth.words.tell(token, what);
  }

  public int name(int system, int token, int i) {
    Forth forth = systemOf(system);
    return forth == null ? BAD : forth.words.letter(token, i);
  }

  public int item(int system, int place, int what) {
    Forth forth = systemOf(system);
    if (forth == null || what < 0 || what > 1 || !forth.items.holds(place)) return BAD;
    return what == 0 ? forth.items.kinds[place] : forth.items.numbers[place];
  }

  public int effect(int system, int token) {
    Forth forth = systemOf(system);
    if (forth == null || !forth.words.isEnded(token)) return BAD;
    return forth.words.effects[token];
  }

  public int effectOf(int system, int token, int what) {
    Forth forth = systemOf(system);
    if (forth == null || !forth.words.isEnded(token)) return BAD;
    switch (what) {
      case 0: return forth.words.ins[token];
      case 1: return forth.words.outs[token];
      case 2: return forth.words.spots[token];
      default: return BAD;
    }
  }

  public int lean(int system, int token) {
    Forth forth = systemOf(system);
    if (forth == null || !forth.words.isEnded(token)) return BAD;
    if (!forth.judge.mayLean(token)) return BAD;
    if (!forth.isAtRest()) return STATE;
    return forth.judge.makeLean(token);
  }

  public int chip(int system, int token) {
    Forth forth = systemOf(system);
    if (forth == null || !forth.words.isEnded(token)) return BAD;
    return board.make(forth, token);
  }

  public int chipWord(int place) {
    return board.holds(place) ? board.words[place] : NONE;
  }

  public int chipPut(int v) {
    return board.receive(v);
  }

  public int chipGo(int steps) {
    return stepsGood(steps) ? board.run(steps) : BAD;
  }

  public int chipTold(int what) {
    return board.tell(what);
  }

  public int chipCell(int i) {
    return board.rows.cellOf(0, i);
  }

  public int chipByte(int at) {
    if (board.state == Chip.ABSENT || !board.space.holds(at, 1)) return NONE;
    return board.space.byteAt(at);
  }

  public int put(int system, int block, int at) {
    int length = wipe();
    Forth forth = systemOf(system);
    if (forth == null || block < 0 || block >= BLOCKS) return BAD;
    if (at < 0 || at > BLOCK_BYTES - length) return BAD;
    System.arraycopy(tape, 0, forth.texts.blocks, block * BLOCK_BYTES + at, length);
    return length;
  }

  public int keep(int system, int image) {
    Forth forth = systemOf(system);
    if (forth == null || image < 0 || image >= IMAGES) return BAD;
    images[image].become(forth);
    kept[image] = true;
    return 1;
  }

  public int again(int system, int image) {
    if (system < 0 || system > systemCount || image < 0 || image >= IMAGES) return BAD;
    if (!kept[image]) return NONE;
    if (system >= SYSTEMS) return FULL;
    if (system == systemCount) systemCount++;
    systems[system].become(images[image]);
    return system;
  }

  public boolean same(int a, int b) {
    Forth one = systemOf(a);
    Forth other = systemOf(b);
    return one != null && other != null && one.isLike(other);
  }

  private Forth systemOf(int number) {
    return number < 0 || number >= systemCount ? null : systems[number];
  }

  private Task taskOf(int system, int task) {
    Forth forth = systemOf(system);
    return forth == null || task < 0 || task >= TASKS ? null : forth.tasks[task];
  }

  private static boolean stepsGood(int steps) {
    return steps >= 1 && steps <= MOST_STEPS;
  }

  private static boolean sameCells(int[] one, int[] other, int from, int end) {
    for (int i = from; i < end; i++) {
      if (one[i] != other[i]) return false;
    }
    return true;
  }

  private static boolean sameBytes(byte[] one, byte[] other, int end) {
    for (int i = 0; i < end; i++) {
      if (one[i] != other[i]) return false;
    }
    return true;
  }

  private static void copyCells(int[] from, int[] to) {
    System.arraycopy(from, 0, to, 0, Math.min(from.length, to.length));
  }

  private static void copyBytes(byte[] from, byte[] to) {
    System.arraycopy(from, 0, to, 0, Math.min(from.length, to.length));
  }

  /** Whether the n bytes of a are those of b from an index on. */
  private static boolean spelled(byte[] a, int n, byte[] b, int from, boolean cased) {
    for (int i = 0; i < n; i++) {
      int one = a[i];
      int other = b[from + i];
      if (one == other) continue;
      // A great and a small letter differ in one bit.
      int small = one | 32;
      if (cased || (one ^ other) != 32 || small < 'a' || small > 'z') return false;
    }
    return true;
  }

  /** The quotient of two numbers without sign, the divisor being 1 .. 2^32. */
  private static long quotient(long what, long by) {
    long half = ((what >>> 1) / by) << 1;
    return what - half * by >= by ? half + 1 : half;
  }

  /** The memory that addresses tell of, and how cells lie in it. */
  private static final class Space {
    final byte[] bytes = new byte[SPACE_ROOM];
    int cellBytes;
    int choices;
    int here = FIRST_HERE;
    int picture = STRINGS_AT;

    void become(Space other) {
      copyBytes(other.bytes, bytes);
      cellBytes = other.cellBytes;
      choices = other.choices;
      here = other.here;
      picture = other.picture;
    }

    boolean isLike(Space other) {
      return cellBytes == other.cellBytes && choices == other.choices && here == other.here
          && sameBytes(bytes, other.bytes, SPACE_ROOM);
    }

    boolean isFloored() {
      return (choices & 1) != 0;
    }

    boolean isCased() {
      return (choices & 2) != 0;
    }

    int bits() {
      return 8 * cellBytes;
    }

    int cut(long v) {
      int spare = 32 - 8 * cellBytes;
      return ((int) v << spare) >> spare;
    }

    long bare(int v) {
      return v & ((1L << (8 * cellBytes)) - 1);
    }

    boolean holds(long at, long n) {
      return at >= 0 && n >= 0 && at + n <= SPACE_ROOM;
    }

    int byteAt(int at) {
      return at >= 0 && at < SPACE_ROOM ? bytes[at] & 255 : 0;
    }

    int cellAt(int at) {
      if (at < 0 || at > SPACE_ROOM - cellBytes) return 0;
      int v = 0;
      for (int i = 0; i < cellBytes; i++) {
        int from = (choices & 4) != 0 ? at + i : at + cellBytes - 1 - i;
        v = (v << 8) | (bytes[from] & 255);
      }
      int spare = 32 - 8 * cellBytes;
      return (v << spare) >> spare;
    }

    void layCell(int at, int v) {
      if (at < 0 || at > SPACE_ROOM - cellBytes) return;
      for (int i = 0; i < cellBytes; i++) {
        int to = (choices & 4) != 0 ? at + cellBytes - 1 - i : at + i;
        bytes[to] = (byte) (v >> (8 * i));
      }
    }

    boolean hasRoom(int n) {
      return n <= SPACE_ROOM - here;
    }

    int moveHere(long to) {
      if (to < FIRST_HERE || to > SPACE_ROOM) return NO_ROOM;
      here = (int) to;
      return 0;
    }

    long aligned(long v) {
      int n = Math.max(1, cellBytes);
      return (v + n - 1) / n * n;
    }

    int base() {
      int base = cellAt(BASE_AT);
      return base < 2 || base > 36 ? 0 : base;
    }

    int hold(int letter) {
      if (picture <= PICTURE_LOW || picture > STRINGS_AT) return PICTURE_FULL;
      picture--;
      bytes[picture] = (byte) letter;
      return 0;
    }
  }

  /** The rows of a task or of the chip, and the words and items that need nothing else. */
  private static final class Task {
    static final int FRAME = 8, KIND = 0, BACK = 1, RETURNS = 2, LOOPED = 3, LOCALED = 4;
    static final int DATAED = 5, IN = 6, TEXTS = 7;

    final Space space;
    final int[] data = new int[DATA_ROOM];
    final int[] returns = new int[RETURN_ROOM];
    final int[] loops = new int[2 * LOOPS_ROOM];
    final int[] locals = new int[LOCALS_ROOM];
    final int[] frames = new int[FRAME * FRAMES_ROOM];
    final int[] box = new int[BOX_ROOM];
    int dataCount;
    int returnCount;
    int loopCount;
    int localCount;
    int frameCount;
    int boxCount;
    int place = NONE;
    int state;
    int code;
    int token = NONE;
    boolean takes;

    Task(Space space) {
      this.space = space;
    }

    void become(Task other) {
      copyCells(other.data, data);
      copyCells(other.returns, returns);
      copyCells(other.loops, loops);
      copyCells(other.locals, locals);
      copyCells(other.frames, frames);
      copyCells(other.box, box);
      dataCount = other.dataCount;
      returnCount = other.returnCount;
      loopCount = other.loopCount;
      localCount = other.localCount;
      frameCount = other.frameCount;
      boxCount = other.boxCount;
      place = other.place;
      state = other.state;
      code = other.code;
      token = other.token;
      takes = other.takes;
    }

    boolean isLike(Task other) {
      return state == other.state && code == other.code && place == other.place
          && token == other.token && takes == other.takes && dataCount == other.dataCount
          && returnCount == other.returnCount && loopCount == other.loopCount
          && localCount == other.localCount && frameCount == other.frameCount
          && sameCells(data, other.data, 0, dataCount)
          && sameCells(returns, other.returns, 0, returnCount)
          && sameCells(loops, other.loops, 0, 2 * loopCount)
          && sameCells(locals, other.locals, 0, localCount)
          && sameCells(frames, other.frames, 0, FRAME * frameCount);
    }

    void clearRows() {
      dataCount = 0;
      returnCount = 0;
      loopCount = 0;
      localCount = 0;
      frameCount = 0;
      place = NONE;
      token = NONE;
      takes = false;
    }

    int lengthOf(int which) {
      switch (which) {
        case 0: return dataCount;
        case 1: return returnCount;
        case 2: return loopCount;
        case 3: return localCount;
        case 4: return frameCount;
        case 5: return boxCount;
        default: return BAD;
      }
    }

    int cellOf(int which, int i) {
      switch (which) {
        case 0: return i < 0 || i >= dataCount ? 0 : data[dataCount - 1 - i];
        case 1: return i < 0 || i >= returnCount ? 0 : returns[returnCount - 1 - i];
        case 2: return i < 0 || i >= 2 * loopCount ? 0 : loops[2 * (loopCount - 1 - i / 2) + i % 2];
        case 3: return i < 0 || i >= localCount ? 0 : locals[i];
        case 5: return i < 0 || i >= boxCount ? 0 : box[i];
        default: return BAD;
      }
    }

    int lack(int taken, int left) {
      if (dataCount < taken) return DATA_SHORT;
      return dataCount - taken + left > DATA_ROOM ? DATA_FULL : 0;
    }

    void push(int v) {
      if (dataCount < DATA_ROOM) data[dataCount++] = v;
    }

    int pop() {
      return dataCount > 0 ? data[--dataCount] : 0;
    }

    int peek(int i) {
      return i < 0 || i >= dataCount ? 0 : data[dataCount - 1 - i];
    }

    int give(long v) {
      push(space.cut(v));
      return 0;
    }

    int flag(boolean truth) {
      push(truth ? -1 : 0);
      return 0;
    }

    int giveTwin(long v) {
      push(space.cut(v));
      push(space.cut(v >> space.bits()));
      return 0;
    }

    /** The double on top, with sign. */
    long popTwin() {
      long higher = pop();
      return (higher << space.bits()) | space.bare(pop());
    }

    /** The double on top, without sign. */
    long popBareTwin() {
      long higher = space.bare(pop());
      return (higher << space.bits()) | space.bare(pop());
    }

    void bringUp(int i) {
      int from = dataCount - 1 - i;
      if (i < 0 || from < 0) return;
      int cell = data[from];
      for (int k = from; k < dataCount - 1; k++) data[k] = data[k + 1];
      data[dataCount - 1] = cell;
    }

    int base(int row) {
      return frameCount > 0 ? frames[FRAME * (frameCount - 1) + row] : 0;
    }

    int frameKind() {
      return base(KIND);
    }

    /** A frame more above what goes on now; false if there is no place. */
    boolean open(int kind) {
      if (frameCount >= FRAMES_ROOM) return false;
      int f = FRAME * frameCount;
      frames[f + KIND] = kind;
      frames[f + BACK] = place;
      frames[f + RETURNS] = returnCount;
      frames[f + LOOPED] = loopCount;
      frames[f + LOCALED] = localCount;
      frames[f + DATAED] = 0;
      frames[f + IN] = 0;
      frames[f + TEXTS] = 0;
      frameCount++;
      place = NONE;
      return true;
    }

    int enter(int first) {
      if (!open(F_DEFINITION)) return ROWS_FULL;
      place = first;
      return 0;
    }

    void close() {
      if (frameCount < 1) return;
      returnCount = base(RETURNS);
      loopCount = base(LOOPED);
      localCount = base(LOCALED);
      place = base(BACK);
      frameCount--;
    }

    int exit() {
      if (frameKind() != F_DEFINITION) return NOT_HERE;
      if (returnCount != base(RETURNS)) return RETURN_LEFT;
      if (loopCount != base(LOOPED)) return NO_LOOP;
      close();
      return 0;
    }

    int latestCatch() {
      for (int f = frameCount - 1; f >= 0; f--) {
        if (frames[FRAME * f] == F_CATCH) return f;
      }
      return NONE;
    }

    /** Back to how it was as the CATCH of a frame began, with what was thrown on DATA. */
    void fallTo(int f, int thrown) {
      frameCount = f + 1;
      int depth = Math.min(base(DATAED), DATA_ROOM);
      for (int i = dataCount; i < depth; i++) data[i] = 0;
      dataCount = depth;
      close();
      push(thrown);
      takes = false;
    }

    /** Words of lines 1 to 5, I, J and UNLOOP; their cells have been looked for. */
    int core(int word) {
      if (word <= DEPTH) return shuffle(word);
      if (word <= TWO_R_FROM) return overReturn(word);
      if (word <= DNEGATE) return reckon(word);
      if (word <= FALSE) return compare(word);
      if (word <= COUNT) return memory(word);
      return loopWord(word);
    }

    int shuffle(int word) {
      switch (word) {
        case DUP: push(peek(0)); return 0;
        case DROP: pop(); return 0;
        case SWAP: bringUp(1); return 0;
        case OVER: push(peek(1)); return 0;
        case ROT: bringUp(2); return 0;
        case NROT: bringUp(2); bringUp(2); return 0;
        case NIP: bringUp(1); pop(); return 0;
        case TUCK: bringUp(1); push(peek(1)); return 0;
        case QDUP: return duplicate();
        case TWO_DUP: push(peek(1)); push(peek(1)); return 0;
        case TWO_DROP: pop(); pop(); return 0;
        case TWO_SWAP: bringUp(3); bringUp(3); return 0;
        case TWO_OVER: push(peek(3)); push(peek(3)); return 0;
        case DEPTH: push(dataCount); return 0;
        default: return reachDown(word);
      }
    }

    int duplicate() {
      if (peek(0) == 0) return 0;
      if (dataCount >= DATA_ROOM) return DATA_FULL;
      push(peek(0));
      return 0;
    }

    int reachDown(int word) {
      long i = space.bare(pop());
      if (i >= dataCount) return DATA_SHORT;
      if (word == PICK) push(peek((int) i));
      else bringUp((int) i);
      return 0;
    }

    int overReturn(int word) {
      int has = returnCount - base(RETURNS);
      switch (word) {
        case TO_R: return toReturn(0, pop(), 1);
        case TWO_TO_R: {
          int upper = pop();
          return toReturn(pop(), upper, 2);
        }
        case TWO_R_FROM:
          if (has < 2) return RETURN_SHORT;
          returnCount -= 2;
          push(returns[returnCount]);
          push(returns[returnCount + 1]);
          return 0;
        default:
          if (has < 1) return RETURN_SHORT;
          push(returns[returnCount - 1]);
          if (word == R_FROM) returnCount--;
          return 0;
      }
    }

    int toReturn(int lower, int upper, int n) {
      if (returnCount + n > RETURN_ROOM) return ROWS_FULL;
      if (n == 2) returns[returnCount++] = lower;
      returns[returnCount++] = upper;
      return 0;
    }

    int reckon(int word) {
      int top = pop();
      switch (word) {
        case PLUS: return give((long) pop() + top);
        case MINUS: return give((long) pop() - top);
        case TIMES: return give((long) pop() * top);
        case SLASH: case MOD: case SLASH_MOD: case TIMES_OVER: case TIMES_OVER_MOD:
          return divide(word, top);
        case ONE_PLUS: return give(top + 1L);
        case ONE_MINUS: return give(top - 1L);
        case TWO_TIMES: return give(2L * top);
        case TWO_SLASH: return give(top >> 1);
        case NEGATE: return give(-(long) top);
        case ABS: return give(Math.abs((long) top));
        case MIN: return give(Math.min(pop(), top));
        case MAX: return give(Math.max(pop(), top));
        case UM_TIMES: return giveTwin(space.bare(pop()) * space.bare(top));
        case M_TIMES: return giveTwin((long) pop() * top);
        case UM_SLASH_MOD: return divideBare(space.bare(top));
        case SM_REM: case FM_MOD: return divideTwin(word, top);
        case S_TO_D: return giveTwin(top);
        default:
          push(top);
          return twinWord(word);
      }
    }

    int twinWord(int word) {
      long twin = popTwin();
      return giveTwin(word == D_PLUS ? popTwin() + twin : -twin);
    }

    int divide(int word, int by) {
      boolean scaled = word == TIMES_OVER || word == TIMES_OVER_MOD;
      long what = pop();
      if (scaled) what *= pop();
      if (by == 0) return BY_ZERO;
      long whole = space.isFloored() ? Math.floorDiv(what, (long) by) : what / by;
      if (word != SLASH && word != TIMES_OVER) give(what - whole * by);
      if (word != MOD) give(whole);
      return 0;
    }

    int divideBare(long by) {
      long what = popBareTwin();
      if (by == 0) return BY_ZERO;
      if ((what >>> space.bits()) >= by) return NO_QUOTIENT;
      long whole = quotient(what, by);
      give(what - whole * by);
      return give(whole);
    }

    int divideTwin(int word, int by) {
      long what = popTwin();
      if (by == 0) return BY_ZERO;
      long whole = word == FM_MOD ? Math.floorDiv(what, (long) by) : what / by;
      if (whole != space.cut(whole)) return NO_QUOTIENT;
      give(what - whole * by);
      return give(whole);
    }

    int compare(int word) {
      int top = TAKES[word] > 0 ? pop() : 0;
      switch (word) {
        case EQUALS: return flag(pop() == top);
        case DIFFERS: return flag(pop() != top);
        case LESS: return flag(pop() < top);
        case MORE: return flag(pop() > top);
        case U_LESS: return flag(space.bare(pop()) < space.bare(top));
        case ZERO_EQUALS: return flag(top == 0);
        case ZERO_DIFFERS: return flag(top != 0);
        case ZERO_LESS: return flag(top < 0);
        case ZERO_MORE: return flag(top > 0);
        case AND: return give(pop() & top);
        case OR: return give(pop() | top);
        case XOR: return give(pop() ^ top);
        case INVERT: return give(~top);
        case LSHIFT: case RSHIFT: return shift(word, space.bare(top));
        case WITHIN: return within(top);
        default: return flag(word == TRUE);
      }
    }

    int shift(int word, long by) {
      int cell = pop();
      if (by >= space.bits()) return give(0);
      return give(word == LSHIFT ? (long) cell << by : space.bare(cell) >>> by);
    }

    int within(int high) {
      int low = pop();
      int cell = pop();
      long span = space.bare(space.cut((long) high - low));
      return flag(space.bare(space.cut((long) cell - low)) < span);
    }

    int memory(int word) {
      switch (word) {
        case HERE: push(space.here); return 0;
        case ALLOT: return space.moveHere(space.here + (long) pop());
        case COMMA: return lay(pop(), space.cellBytes);
        case C_COMMA: return lay(pop(), 1);
        case ALIGN: return space.moveHere(space.aligned(space.here));
        case ALIGNED: return give(space.aligned(space.bare(pop())));
        case CELL_PLUS: return give((long) pop() + space.cellBytes);
        case CELLS: return give((long) pop() * space.cellBytes);
        case CHAR_PLUS: return give(pop() + 1L);
        case CHARS: return 0;
        case FILL: return fill(pop());
        case MOVE: return move(space.bare(pop()));
        case COUNT: {
          long at = space.bare(pop());
          if (!space.holds(at, 1)) return NO_PLACE;
          give(at + 1);
          return give(space.byteAt((int) at));
        }
        default: return reach(word, space.bare(pop()));
      }
    }

    int lay(int cell, int bytes) {
      if (!space.hasRoom(bytes)) return NO_ROOM;
      if (bytes == 1) space.bytes[space.here] = (byte) cell;
      else space.layCell(space.here, cell);
      space.here += bytes;
      return 0;
    }

    int fill(int with) {
      long n = space.bare(pop());
      long at = space.bare(pop());
      if (n == 0) return 0;
      if (!space.holds(at, n)) return NO_PLACE;
      Arrays.fill(space.bytes, (int) at, (int) (at + n), (byte) with);
      return 0;
    }

    int move(long n) {
      long to = space.bare(pop());
      long from = space.bare(pop());
      if (n == 0) return 0;
      if (!space.holds(from, n) || !space.holds(to, n)) return NO_PLACE;
      System.arraycopy(space.bytes, (int) from, space.bytes, (int) to, (int) n);
      return 0;
    }

    int reach(int word, long address) {
      int upper = TAKES[word] > 1 ? pop() : 0;
      int lower = TAKES[word] > 2 ? pop() : 0;
      int cell = space.cellBytes;
      int bytes = word == C_STORE || word == C_FETCH ? 1 : cell;
      if (word == TWO_STORE || word == TWO_FETCH) bytes = 2 * cell;
      if (!space.holds(address, bytes)) return NO_PLACE;
      int at = (int) address;
      switch (word) {
        case STORE: space.layCell(at, upper); return 0;
        case FETCH: push(space.cellAt(at)); return 0;
        case C_STORE: space.bytes[at] = (byte) upper; return 0;
        case C_FETCH: push(space.byteAt(at)); return 0;
        case PLUS_STORE: space.layCell(at, space.cut((long) space.cellAt(at) + upper)); return 0;
        case TWO_STORE:
          space.layCell(at, upper);
          space.layCell(at + cell, lower);
          return 0;
        default:
          push(space.cellAt(at + cell));
          push(space.cellAt(at));
          return 0;
      }
    }

    int loopWord(int word) {
      int has = loopCount - base(LOOPED);
      if (has < (word == J ? 2 : 1)) return NO_LOOP;
      if (word == UNLOOP) loopCount--;
      else push(loops[2 * (loopCount - (word == J ? 2 : 1))]);
      return 0;
    }

    /** Items that the chip has, too, but WORD; place is behind the item already. */
    int flow(int kind, int number) {
      switch (kind) {
        case K_LIT:
          if (dataCount >= DATA_ROOM) return DATA_FULL;
          push(number);
          return 0;
        case K_JUMP: place = number; return 0;
        case K_JUMP0:
          if (dataCount < 1) return DATA_SHORT;
          if (pop() == 0) place = number;
          return 0;
        case K_DO: case K_QDO: return beginLoop(kind, number);
        case K_LOOP:
          return loop(1, number);
        case K_PLUS_LOOP:
          if (dataCount < 1) return DATA_SHORT;
          return loop(pop(), number);
        case K_LEAVE:
          if (loopCount <= base(LOOPED)) return NO_LOOP;
          loopCount--;
          place = number;
          return 0;
        case K_OF: return of(number);
        case K_ENTER: return enterLocals(number & 15, number >> 4);
        case K_GET: case K_SET: return local(kind, number);
        default: return NO_PLACE;
      }
    }

    int beginLoop(int kind, int number) {
      if (dataCount < 2) return DATA_SHORT;
      int start = pop();
      int limit = pop();
      if (kind == K_QDO && start == limit) {
        place = number;
        return 0;
      }
      if (loopCount >= LOOPS_ROOM) return LOOPS_FULL;
      loops[2 * loopCount] = start;
      loops[2 * loopCount + 1] = limit;
      loopCount++;
      return 0;
    }

    int loop(int by, int number) {
      if (loopCount <= base(LOOPED)) return NO_LOOP;
      int at = 2 * (loopCount - 1);
      int turned = space.cut(((long) loops[at] - loops[at + 1]) ^ (1L << (space.bits() - 1)));
      long sum = (long) turned + by;
      if (sum != space.cut(sum)) {
        loopCount--;
        return 0;
      }
      loops[at] = space.cut((long) loops[at] + by);
      place = number;
      return 0;
    }

    int of(int number) {
      if (dataCount < 2) return DATA_SHORT;
      int cell = pop();
      if (cell == peek(0)) pop();
      else place = number;
      return 0;
    }

    int enterLocals(int taken, int all) {
      if (dataCount < taken) return DATA_SHORT;
      dataCount -= taken;
      if (localCount + all > LOCALS_ROOM) return ROWS_FULL;
      for (int i = 0; i < all; i++) locals[localCount + i] = i < taken ? data[dataCount + i] : 0;
      localCount += all;
      return 0;
    }

    int local(int kind, int number) {
      boolean sets = kind == K_SET;
      int lack = sets ? lack(1, 0) : lack(0, 1);
      if (lack != 0) return lack;
      int cell = sets ? pop() : 0;
      int at = base(LOCALED) + number;
      if (number < 0 || at >= localCount) return NO_PLACE;
      if (sets) locals[at] = cell;
      else push(locals[at]);
      return 0;
    }
  }

  /** All words of a system, by their tokens. */
  private static final class Words {
    final byte[] kinds = new byte[WORDS_ROOM];
    final byte[] flags = new byte[WORDS_ROOM];
    final byte[] lists = new byte[WORDS_ROOM];
    final int[] values = new int[WORDS_ROOM];
    final int[] sizes = new int[WORDS_ROOM];
    final int[] does = new int[WORDS_ROOM];
    final byte[] nameLengths = new byte[WORDS_ROOM];
    final byte[] names = new byte[WORDS_ROOM * NAME_ROOM];
    final byte[] effects = new byte[WORDS_ROOM];
    final int[] ins = new int[WORDS_ROOM];
    final int[] outs = new int[WORDS_ROOM];
    final int[] spots = new int[WORDS_ROOM];
    int total;
    int latest = NONE;

    Words() {
      addLine(LINE_1);
      addLine(LINE_2);
      addLine(LINE_3);
      addLine(LINE_4);
      addLine(LINE_5);
      addLine(LINE_6);
      addLine(LINE_7);
      addLine(LINE_8);
      addLine(LINE_9);
    }

    private void addLine(String line) {
      for (int i = 0; i < line.length(); i++) {
        if (line.charAt(i) == ' ') {
          lists[total] = 1;
          does[total] = NONE;
          flags[total] = (byte) (TRAITS[total] & IMMEDIATE_FLAG);
          total++;
        } else {
          names[total * NAME_ROOM + nameLengths[total]] = (byte) line.charAt(i);
          nameLengths[total]++;
        }
      }
    }

    void become(Words other) {
      copyBytes(other.kinds, kinds);
      copyBytes(other.flags, flags);
      copyBytes(other.lists, lists);
      copyCells(other.values, values);
      copyCells(other.sizes, sizes);
      copyCells(other.does, does);
      copyBytes(other.nameLengths, nameLengths);
      copyBytes(other.names, names);
      copyBytes(other.effects, effects);
      copyCells(other.ins, ins);
      copyCells(other.outs, outs);
      copyCells(other.spots, spots);
      total = other.total;
      latest = other.latest;
    }

    boolean isLike(Words other) {
      if (total != other.total || latest != other.latest) return false;
      for (int token = 0; token < total; token++) {
        for (int what = 0; what <= 7; what++) {
          if (tell(token, what) != other.tell(token, what)) return false;
        }
        for (int i = 0; i < nameLengths[token]; i++) {
          if (letter(token, i) != other.letter(token, i)) return false;
        }
      }
      return true;
    }

    boolean holds(int token) {
      return token >= 0 && token < total;
    }

    boolean isFull() {
      return total >= WORDS_ROOM;
    }

    boolean has(int token, int flag) {
      return holds(token) && (flags[token] & flag) != 0;
    }

    boolean isKind(int token, int kind) {
      return holds(token) && kinds[token] == kind;
    }

    boolean isEnded(int token) {
      return isKind(token, DEFINED) && !has(token, HIDDEN);
    }

    void set(int token, int flag) {
      if (holds(token)) flags[token] = (byte) (flags[token] | flag);
    }

    /** A word more, of a name of n bytes (0: without one); there is room for it. */
    int make(int kind, int value, int list, byte[] name, int n) {
      if (total >= WORDS_ROOM) return NONE;
      int token = total;
      kinds[token] = (byte) kind;
      flags[token] = (byte) (kind == DEFINED ? HIDDEN : 0);
      lists[token] = (byte) (n > 0 ? list : 0);
      values[token] = value;
      sizes[token] = 0;
      does[token] = NONE;
      nameLengths[token] = (byte) n;
      System.arraycopy(name, 0, names, token * NAME_ROOM, n);
      effects[token] = 0;
      ins[token] = 0;
      outs[token] = 0;
      spots[token] = NONE;
      total++;
      if (n > 0) latest = token;
      return token;
    }

    void end(int token, int behind) {
      if (!holds(token)) return;
      flags[token] = (byte) (flags[token] & ~HIDDEN);
      sizes[token] = behind - values[token];
    }

    int newest(int list, byte[] name, int n, boolean cased) {
      if (n < 1 || n > NAME_ROOM) return NONE;
      for (int token = total - 1; token >= 0; token--) {
        if (lists[token] == list && nameLengths[token] == n && (flags[token] & HIDDEN) == 0
            && spelled(name, n, names, token * NAME_ROOM, cased)) {
          return token;
        }
      }
      return NONE;
    }

    int tell(int token, int what) {
      if (!holds(token)) return BAD;
      switch (what) {
        case 0: return kinds[token];
        case 1: return flags[token] & IMMEDIATE_FLAG;
        case 2: return lists[token];
        case 3: return kinds[token] == MARKER_KIND ? 0 : values[token];
        case 4: return sizes[token];
        case 5: return does[token];
        case 6: return nameLengths[token];
        case 7: return has(token, HIDDEN) ? 1 : 0;
        default: return BAD;
      }
    }

    int letter(int token, int i) {
      if (!holds(token)) return BAD;
      return i < 0 || i >= nameLengths[token] ? NONE : names[token * NAME_ROOM + i] & 255;
    }
  }

  /** What definitions consist of. */
  private static final class Items {
    final byte[] kinds = new byte[ITEMS_ROOM];
    final int[] numbers = new int[ITEMS_ROOM];
    int total;

    void become(Items other) {
      copyBytes(other.kinds, kinds);
      copyCells(other.numbers, numbers);
      total = other.total;
    }

    boolean isLike(Items other) {
      return total == other.total && sameBytes(kinds, other.kinds, total)
          && sameCells(numbers, other.numbers, 0, total);
    }

    boolean holds(int place) {
      return place >= 0 && place < total;
    }

    boolean hasRoom(int n) {
      return total + n <= ITEMS_ROOM;
    }

    int add(int kind, int number) {
      if (total >= ITEMS_ROOM) return NO_ROOM;
      kinds[total] = (byte) kind;
      numbers[total] = number;
      total++;
      return 0;
    }

    /** The item at a place leads behind all that there is. */
    void point(int place) {
      if (holds(place)) numbers[place] = total;
    }

    boolean isJump(int place) {
      int kind = holds(place) ? kinds[place] : K_WORD;
      return kind == K_JUMP || kind == K_JUMP0 || (kind >= K_QDO && kind <= K_OF);
    }

    boolean isWord(int place, int token) {
      return holds(place) && kinds[place] == K_WORD && numbers[place] == token;
    }

    boolean isKind(int place, int kind) {
      return holds(place) && kinds[place] == kind;
    }
  }

  /** The text of a system with those nested in it, the blocks, and what was read last. */
  private static final class Texts {
    final Space space;
    final byte[] main = new byte[TAPE_ROOM];
    final byte[] blocks = new byte[BLOCKS * BLOCK_BYTES];
    final int[] kinds = new int[TEXTS_ROOM];
    final int[] places = new int[TEXTS_ROOM];
    final int[] lengths = new int[TEXTS_ROOM];
    final int[] waits = new int[TEXTS_ROOM];
    final byte[] read = new byte[SPACE_ROOM];
    int readLength;
    int mainLength;
    int nested;
    boolean live;
    // Where the innermost text lies: worked out anew whenever that is another one.
    byte[] source;
    int from;
    int length;

    Texts(Space space) {
      this.space = space;
      Arrays.fill(blocks, (byte) 32);
      source = main;
    }

    void become(Texts other) {
      copyBytes(other.main, main);
      copyBytes(other.blocks, blocks);
      copyCells(other.kinds, kinds);
      copyCells(other.places, places);
      copyCells(other.lengths, lengths);
      copyCells(other.waits, waits);
      mainLength = other.mainLength;
      nested = other.nested;
      live = other.live;
      settle();
    }

    boolean isLike(Texts other) {
      if (live != other.live || !sameBytes(blocks, other.blocks, blocks.length)) return false;
      if (!live) return true;
      if (nested != other.nested || mainLength != other.mainLength) return false;
      for (int i = 0; i < nested; i++) {
        if (kinds[i] != other.kinds[i] || lengths[i] != other.lengths[i]) return false;
        if (waits[i] != other.waits[i]) return false;
        if (lengths[i] > 0 && places[i] != other.places[i]) return false;
      }
      return sameBytes(main, other.main, mainLength);
    }

    private void settle() {
      int top = nested - 1;
      boolean inMain = top < 0 || top >= TEXTS_ROOM;
      boolean inBlock = !inMain && kinds[top] == T_BLOCK;
      from = inMain ? 0 : inBlock ? places[top] * BLOCK_BYTES : places[top];
      length = inMain ? mainLength : lengths[top];
      if (inMain) source = main;
      else source = inBlock ? blocks : space.bytes;
      if (from < 0 || from > source.length) from = 0;
      if (length < 0 || length > source.length - from) length = 0;
    }

    void start(byte[] bytes, int n) {
      System.arraycopy(bytes, 0, main, 0, n);
      mainLength = n;
      nested = 0;
      live = true;
      space.layCell(IN_AT, 0);
      settle();
    }

    void nest(int kind, int place, int n) {
      if (nested >= TEXTS_ROOM) return;
      kinds[nested] = kind;
      places[nested] = place;
      lengths[nested] = n;
      waits[nested] = space.cellAt(IN_AT);
      nested++;
      space.layCell(IN_AT, 0);
      settle();
    }

    void fallTo(int n, int in) {
      nested = n;
      space.layCell(IN_AT, in);
      settle();
    }

    boolean inBlock() {
      return nested > 0 && nested <= TEXTS_ROOM && kinds[nested - 1] == T_BLOCK;
    }

    /** Reads a word, 0 bytes if there is none; only task 0 has a text. */
    int readWord(boolean hasText) {
      readLength = 0;
      if (!hasText) return 0;
      int at = (int) Math.min(space.bare(space.cellAt(IN_AT)), length);
      while (at < length && isBlank(source[from + at])) at++;
      while (at < length && readLength < SPACE_ROOM && !isBlank(source[from + at])) {
        read[readLength++] = source[from + at];
        at++;
      }
      space.layCell(IN_AT, at < length ? at + 1 : at);
      return readLength;
    }

    private static boolean isBlank(byte b) {
      return b >= 0 && b <= 32;
    }

    /** Reads up to the next such byte, and goes on behind it; only task 0 has a text. */
    void readUpTo(int delimiter, boolean hasText) {
      readLength = 0;
      if (!hasText) return;
      int at = (int) Math.min(space.bare(space.cellAt(IN_AT)), length);
      while (at < length && readLength < SPACE_ROOM && source[from + at] != delimiter) {
        read[readLength++] = source[from + at];
        at++;
      }
      // The text may hold the cell of >IN: what was read is what stood there before this.
      space.layCell(IN_AT, at < length ? at + 1 : at);
    }

    void skipLine(boolean hasText) {
      if (!inBlock()) {
        readUpTo(10, hasText);
      } else if (hasText) {
        int at = (int) Math.min(space.bare(space.cellAt(IN_AT)), length);
        space.layCell(IN_AT, (at + LINE_BYTES - 1) / LINE_BYTES * LINE_BYTES);
      }
    }

    boolean isRead(int first, int second) {
      int n = second == 0 ? 1 : 2;
      return readLength == n && read[0] == first && (n == 1 || read[1] == second);
    }
  }

  /** The definitions under way, their pairs of CONTROL and the names of their locals. */
  private static final class Making {
    static final int HAS_LOCALS = 1, HAS_DOES = 2;

    final Items items;
    boolean compiling;
    boolean nameless;
    int latestBefore;
    int open;
    final int[] tokens = new int[OPEN_ROOM];
    final int[] bases = new int[OPEN_ROOM];
    final int[] overs = new int[OPEN_ROOM];
    final int[] marks = new int[OPEN_ROOM];
    final int[] localCounts = new int[OPEN_ROOM];
    final byte[] localLengths = new byte[OPEN_ROOM * LOCALS_MOST];
    final byte[] localNames = new byte[OPEN_ROOM * LOCALS_MOST * NAME_ROOM];
    int pairs;
    final int[] pairKinds = new int[PAIRS_ROOM];
    final int[] pairPlaces = new int[PAIRS_ROOM];

    Making(Items items) {
      this.items = items;
    }

    void become(Making other) {
      compiling = other.compiling;
      nameless = other.nameless;
      latestBefore = other.latestBefore;
      open = other.open;
      copyCells(other.tokens, tokens);
      copyCells(other.bases, bases);
      copyCells(other.overs, overs);
      copyCells(other.marks, marks);
      copyCells(other.localCounts, localCounts);
      copyBytes(other.localLengths, localLengths);
      copyBytes(other.localNames, localNames);
      pairs = other.pairs;
      copyCells(other.pairKinds, pairKinds);
      copyCells(other.pairPlaces, pairPlaces);
    }

    boolean isLike(Making other) {
      return compiling == other.compiling && open == other.open && pairs == other.pairs;
    }

    void begin(int token, int over) {
      if (open >= OPEN_ROOM) return;
      tokens[open] = token;
      bases[open] = pairs;
      overs[open] = over;
      marks[open] = 0;
      localCounts[open] = 0;
      open++;
    }

    void forget() {
      open = 0;
      pairs = 0;
      compiling = false;
    }

    int innermost() {
      return open > 0 && open <= OPEN_ROOM ? tokens[open - 1] : NONE;
    }

    private int base() {
      return open > 0 && open <= OPEN_ROOM ? bases[open - 1] : 0;
    }

    boolean isLevel() {
      return pairs <= base();
    }

    boolean isMarked(int mark) {
      return open > 0 && open <= OPEN_ROOM && (marks[open - 1] & mark) != 0;
    }

    void mark(int mark) {
      if (open > 0 && open <= OPEN_ROOM) marks[open - 1] |= mark;
    }

    int localOf(byte[] name, int n, boolean cased) {
      if (open < 1 || open > OPEN_ROOM || isMarked(HAS_DOES)) return NONE;
      int first = (open - 1) * LOCALS_MOST;
      for (int i = localCounts[open - 1] - 1; i >= 0; i--) {
        if (localLengths[first + i] == n
            && spelled(name, n, localNames, (first + i) * NAME_ROOM, cased)) {
          return i;
        }
      }
      return NONE;
    }

    /** Room for a local that is read; its count is told when all are read. */
    void nameLocal(int i, byte[] name, int n) {
      if (open < 1 || open > OPEN_ROOM || i < 0 || i >= LOCALS_MOST) return;
      int at = (open - 1) * LOCALS_MOST + i;
      localLengths[at] = (byte) n;
      System.arraycopy(name, 0, localNames, at * NAME_ROOM, n);
    }

    void countLocals(int n) {
      if (open > 0 && open <= OPEN_ROOM) localCounts[open - 1] = n;
      mark(HAS_LOCALS);
    }

    private int kindAt(int below) {
      int at = pairs - 1 - below;
      return at >= base() && at >= 0 && at < PAIRS_ROOM ? pairKinds[at] : 0;
    }

    private int placeAt(int below) {
      int at = pairs - 1 - below;
      return at >= 0 && at < PAIRS_ROOM ? pairPlaces[at] : 0;
    }

    private void setPair(int at, int kind, int place) {
      if (at < 0 || at >= PAIRS_ROOM) return;
      pairKinds[at] = kind;
      pairPlaces[at] = place;
    }

    int control(int word) {
      switch (word) {
        case IF: return branch(K_JUMP0, P_ORIGIN);
        case AHEAD: return branch(K_JUMP, P_ORIGIN);
        case DO: return branch(K_DO, P_LOOP);
        case QDO: return branch(K_QDO, P_LOOP);
        case OF: return branch(K_OF, P_OF);
        case BEGIN: return pair(P_DESTINATION, items.total);
        case CASE: return pair(P_CASE, 0);
        case THEN: return then();
        case ELSE: return otherwise(P_ORIGIN, P_ORIGIN);
        case ENDOF: return otherwise(P_OF, P_ENDOF);
        case UNTIL: return back(K_JUMP0);
        case AGAIN: return back(K_JUMP);
        case WHILE: return during();
        case REPEAT: return repeat();
        case LOOP: return endLoop(K_LOOP);
        case PLUS_LOOP: return endLoop(K_PLUS_LOOP);
        case LEAVE: return leave();
        default: return endCase();
      }
    }

    private int pair(int kind, int place) {
      if (pairs >= PAIRS_ROOM) return CONTROL_FULL;
      setPair(pairs, kind, place);
      pairs++;
      return 0;
    }

    private int branch(int item, int kind) {
      if (pairs >= PAIRS_ROOM) return CONTROL_FULL;
      if (!items.hasRoom(1)) return NO_ROOM;
      setPair(pairs, kind, items.total);
      pairs++;
      return items.add(item, 0);
    }

    private int then() {
      if (kindAt(0) != P_ORIGIN) return UNPAIRED;
      items.point(placeAt(0));
      pairs--;
      return 0;
    }

    /** ELSE and ENDOF: a jump is added, what is on top leads behind it. */
    private int otherwise(int wanted, int kind) {
      if (kindAt(0) != wanted) return UNPAIRED;
      if (kind == P_ORIGIN && pairs >= PAIRS_ROOM) return CONTROL_FULL;
      if (!items.hasRoom(1)) return NO_ROOM;
      int jump = items.total;
      items.add(K_JUMP, 0);
      items.point(placeAt(0));
      setPair(pairs - 1, kind, jump);
      return 0;
    }

    private int back(int item) {
      if (kindAt(0) != P_DESTINATION) return UNPAIRED;
      if (!items.hasRoom(1)) return NO_ROOM;
      pairs--;
      return items.add(item, pairPlaces[pairs]);
    }

    private int during() {
      if (kindAt(0) != P_DESTINATION) return UNPAIRED;
      if (pairs >= PAIRS_ROOM) return CONTROL_FULL;
      if (!items.hasRoom(1)) return NO_ROOM;
      setPair(pairs, P_DESTINATION, placeAt(0));
      setPair(pairs - 1, P_ORIGIN, items.total);
      pairs++;
      return items.add(K_JUMP0, 0);
    }

    private int repeat() {
      if (kindAt(0) != P_DESTINATION || kindAt(1) != P_ORIGIN) return UNPAIRED;
      if (!items.hasRoom(1)) return NO_ROOM;
      items.add(K_JUMP, placeAt(0));
      items.point(placeAt(1));
      pairs -= 2;
      return 0;
    }

    private int endLoop(int item) {
      if (kindAt(0) != P_LOOP) return UNPAIRED;
      if (!items.hasRoom(1)) return NO_ROOM;
      int begin = placeAt(0);
      items.add(item, begin + 1);
      if (items.isKind(begin, K_QDO)) items.point(begin);
      for (int i = begin + 1; i < items.total; i++) {
        if (items.isKind(i, K_LEAVE) && items.numbers[i] == -2 - begin) items.point(i);
      }
      pairs--;
      return 0;
    }

    private int leave() {
      for (int below = 0; below < PAIRS_ROOM; below++) {
        if (kindAt(below) == P_LOOP) return items.add(K_LEAVE, -2 - placeAt(below));
      }
      return UNPAIRED;
    }

    private int endCase() {
      int ends = 0;
      while (ends < PAIRS_ROOM && kindAt(ends) == P_ENDOF) ends++;
      if (kindAt(ends) != P_CASE) return UNPAIRED;
      if (!items.hasRoom(1)) return NO_ROOM;
      items.add(K_WORD, DROP);
      for (int i = 0; i < ends; i++) items.point(placeAt(i));
      pairs -= ends + 1;
      return 0;
    }
  }

  /** The lists of words, the search order, and what each MARKER goes back to. */
  private static final class Lists {
    final int[] order = new int[ORDER_ROOM];
    int orderCount = 1;
    int total = 1;
    int current = 1;
    int markers;
    final int[] markItems = new int[MARKERS_ROOM];
    final int[] markLists = new int[MARKERS_ROOM];
    final int[] markHeres = new int[MARKERS_ROOM];
    final int[] markLatest = new int[MARKERS_ROOM];
    final int[] markCurrents = new int[MARKERS_ROOM];
    final int[] markCounts = new int[MARKERS_ROOM];
    final int[] markOrders = new int[MARKERS_ROOM * ORDER_ROOM];

    Lists() {
      order[0] = 1;
    }

    void become(Lists other) {
      copyCells(other.order, order);
      orderCount = other.orderCount;
      total = other.total;
      current = other.current;
      markers = other.markers;
      copyCells(other.markItems, markItems);
      copyCells(other.markLists, markLists);
      copyCells(other.markHeres, markHeres);
      copyCells(other.markLatest, markLatest);
      copyCells(other.markCurrents, markCurrents);
      copyCells(other.markCounts, markCounts);
      copyCells(other.markOrders, markOrders);
    }

    boolean isLike(Lists other) {
      return total == other.total && current == other.current && orderCount == other.orderCount
          && sameCells(order, other.order, 0, orderCount);
    }

    void only() {
      order[0] = 1;
      orderCount = 1;
    }

    int search(int list) {
      if (list < 1 || list > total) return NO_SUCH;
      if (orderCount >= ORDER_ROOM) return ORDER_FULL;
      order[orderCount++] = list;
      return 0;
    }

    int previous() {
      if (orderCount < 1) return ORDER_EMPTY;
      orderCount--;
      return 0;
    }

    int define() {
      if (orderCount < 1 || orderCount > ORDER_ROOM) return ORDER_EMPTY;
      current = order[orderCount - 1];
      return 0;
    }

    /** A place to go back to: the number of a MARKER more; there is room for it. */
    int mark(int items, int here, int latest) {
      if (markers >= MARKERS_ROOM) return NONE;
      int m = markers;
      markItems[m] = items;
      markLists[m] = total;
      markHeres[m] = here;
      markLatest[m] = latest;
      markCurrents[m] = current;
      markCounts[m] = orderCount;
      System.arraycopy(order, 0, markOrders, m * ORDER_ROOM, ORDER_ROOM);
      markers++;
      return m;
    }

    void goBack(int m) {
      total = markLists[m];
      current = markCurrents[m];
      orderCount = markCounts[m];
      System.arraycopy(markOrders, m * ORDER_ROOM, order, 0, ORDER_ROOM);
      markers = m;
    }
  }

  /** What a system puts out, and what its tester keeps and counts. */
  private static final class Sink {
    final byte[] bytes = new byte[OUT_ROOM];
    int total;
    final byte[] digits = new byte[64];
    int noted;
    final int[] kept = new int[DATA_ROOM];
    int keptCount;
    int good;
    int bad;

    void become(Sink other) {
      copyBytes(other.bytes, bytes);
      total = other.total;
      noted = other.noted;
      copyCells(other.kept, kept);
      keptCount = other.keptCount;
      good = other.good;
      bad = other.bad;
    }

    int byteOf(int i) {
      return i < 0 || i >= total || i >= OUT_ROOM ? NONE : bytes[i] & 255;
    }

    private void grow(long n) {
      total = n > 2147483647 - total ? 2147483647 : (int) (total + n);
    }

    void emit(int letter) {
      if (total < OUT_ROOM) bytes[total] = (byte) letter;
      grow(1);
    }

    void blanks(int n) {
      if (n < 1) return;
      int kept = Math.min(n, Math.max(0, OUT_ROOM - total));
      if (kept > 0) Arrays.fill(bytes, total, total + kept, (byte) 32);
      grow(n);
    }

    void write(byte[] from, int at, int n) {
      int kept = Math.min(n, Math.max(0, OUT_ROOM - total));
      if (kept > 0) System.arraycopy(from, at, bytes, total, kept);
      grow(n);
    }

    /** A number by a base of 2 .. 36, with a blank behind it. */
    void print(long number, int base) {
      if (base < 2) return;
      long rest = Math.abs(number);
      int n = 0;
      do {
        digits[n++] = digit((int) (rest % base));
        rest /= base;
      } while (rest != 0 && n < digits.length);
      if (number < 0) emit('-');
      for (int i = n - 1; i >= 0; i--) emit(digits[i]);
      emit(32);
    }

    static byte digit(int value) {
      return (byte) (value < 10 ? '0' + value : 'A' + value - 10);
    }

    void keepAbove(Task task) {
      int from = Math.min(noted, task.dataCount);
      keptCount = task.dataCount - from;
      System.arraycopy(task.data, from, kept, 0, keptCount);
      task.dataCount = from;
    }

    void judgeAbove(Task task) {
      int from = Math.min(noted, task.dataCount);
      boolean alike = task.dataCount - from == keptCount;
      for (int i = 0; alike && i < keptCount; i++) alike = task.data[from + i] == kept[i];
      task.dataCount = from;
      if (alike) good++;
      else bad++;
    }
  }

  /** Works the effects of definitions, and makes them leaner. */
  private static final class Judge {
    static final int CONFLICT = 0, KNOWN = 1, UNKNOWN = 2;

    final Words words;
    final Items items;
    // A place where cells are reckoned as the system itself would.
    final Task desk;
    final int[] heights = new int[ITEMS_ROOM];
    final int[] returns = new int[ITEMS_ROOM];
    final int[] loops = new int[ITEMS_ROOM];
    final byte[] seen = new byte[ITEMS_ROOM];
    int token;
    int first;
    int end;
    int low;
    int result;
    int spot;
    int lowest;
    int exitHeight;
    boolean exits;
    boolean selfMet;
    boolean selfKnown;
    int selfIn;
    int selfOut;

    Judge(Words words, Items items, Space space) {
      this.words = words;
      this.items = items;
      desk = new Task(space);
    }

    void work(int worked) {
      if (!words.isEnded(worked)) return;
      token = worked;
      first = words.values[token];
      end = Math.min(first + words.sizes[token], items.total);
      selfMet = false;
      selfKnown = false;
      pass();
      if (selfMet && result == KNOWN) {
        selfKnown = true;
        selfIn = -lowest;
        selfOut = selfIn + exitHeight;
        pass();
        if (-lowest != selfIn || exitHeight - lowest != selfOut) stop(UNKNOWN, first);
      }
      words.effects[token] = (byte) result;
      words.ins[token] = result == KNOWN ? -lowest : 0;
      words.outs[token] = result == KNOWN ? exitHeight - lowest : 0;
      words.spots[token] = spot;
    }

    private void pass() {
      result = KNOWN;
      spot = NONE;
      lowest = 0;
      exits = false;
      exitHeight = 0;
      low = end;
      for (int i = first; i < end; i++) seen[i] = 0;
      arrive(first, 0, 0, 0);
      for (int n = first; n <= end && result == KNOWN; n++) {
        int at = leastWaiting();
        if (at == NONE) break;
        look(at);
      }
      if (!exits) stop(UNKNOWN, first);
    }

    private int leastWaiting() {
      for (int i = low; i < end; i++) {
        if (seen[i] == 1) {
          low = i;
          return i;
        }
      }
      return NONE;
    }

    /** The first thing that stops counts alone. */
    private void stop(int how, int at) {
      if (result != KNOWN) return;
      result = how;
      spot = at;
    }

    private void arrive(int at, int height, int held, int looped) {
      if (at < first || at >= end) return;
      if (seen[at] == 0) {
        seen[at] = 1;
        heights[at] = height;
        returns[at] = held;
        loops[at] = looped;
        if (at < low) low = at;
      } else if (result == KNOWN
          && (heights[at] != height || returns[at] != held || loops[at] != looped)) {
        result = CONFLICT;
        spot = at;
      }
    }

    private void take(int at, int n) {
      if (n != 0 && heights[at] - n < lowest) lowest = heights[at] - n;
    }

    /** Takes cells, leaves cells, and goes on behind. */
    private void goOn(int at, int taken, int left) {
      take(at, taken);
      arrive(at + 1, heights[at] - taken + left, returns[at], loops[at]);
    }

    private void leaveAt(int at) {
      if (returns[at] != 0 || loops[at] != 0 || (exits && exitHeight != heights[at])) {
        stop(CONFLICT, at);
        return;
      }
      exits = true;
      exitHeight = heights[at];
    }

    private void look(int at) {
      seen[at] = 2;
      int number = items.numbers[at];
      switch (items.kinds[at]) {
        case K_WORD:
          if (words.isKind(number, BUILT_IN)) lookBuiltIn(at, number);
          else lookWord(at, number);
          break;
        case K_LIT: case K_GET: goOn(at, 0, 1); break;
        case K_JUMP: arrive(number, heights[at], returns[at], loops[at]); break;
        case K_JUMP0:
          goOn(at, 1, 0);
          arrive(number, heights[at] - 1, returns[at], loops[at]);
          break;
        case K_OF:
          goOn(at, 2, 0);
          arrive(number, heights[at] - 1, returns[at], loops[at]);
          break;
        case K_DO: case K_QDO: case K_LOOP: case K_PLUS_LOOP: case K_LEAVE:
          lookLoop(at, number);
          break;
        case K_DOES: leaveAt(at); break;
        case K_ENTER: goOn(at, number & 15, 0); break;
        case K_SET: case K_PUT: goOn(at, 1, 0); break;
        case K_ABORT: goOn(at, 3, 0); break;
        default: stop(UNKNOWN, at);
      }
    }

    private void lookLoop(int at, int number) {
      int kind = items.kinds[at];
      int height = heights[at];
      int looped = loops[at];
      if (kind == K_DO || kind == K_QDO) {
        take(at, 2);
        arrive(at + 1, height - 2, returns[at], looped + 1);
        if (kind == K_QDO) arrive(number, height - 2, returns[at], looped);
        return;
      }
      if (looped < 1) {
        stop(CONFLICT, at);
        return;
      }
      if (kind == K_LEAVE) {
        arrive(number, height, returns[at], looped - 1);
        return;
      }
      int taken = kind == K_PLUS_LOOP ? 1 : 0;
      take(at, taken);
      arrive(at + 1, height - taken, returns[at], looped - 1);
      arrive(number, height - taken, returns[at], looped);
    }

    private void lookWord(int at, int word) {
      if (!words.holds(word)) {
        stop(UNKNOWN, at);
      } else if (word == token) {
        selfMet = true;
        if (selfKnown) goOn(at, selfIn, selfOut);
      } else {
        switch (words.kinds[word]) {
          case CONSTANT_KIND: case VALUE_KIND: case VARIABLE_KIND: goOn(at, 0, 1); break;
          case DEFINED:
            // Until a definition is ended its effect is not KNOWN.
            if (words.effects[word] == KNOWN) goOn(at, words.ins[word], words.outs[word]);
            else stop(UNKNOWN, at);
            break;
          default: stop(UNKNOWN, at);
        }
      }
    }

    private void lookBuiltIn(int at, int word) {
      int held = returns[at];
      int needs = 0;
      int change = 0;
      int looped = 0;
      switch (word) {
        case EXIT: leaveAt(at); return;
        case ABORT: case STOP: return;
        case TO_R: change = 1; break;
        case TWO_TO_R: change = 2; break;
        case R_FROM: needs = 1; change = -1; break;
        case R_FETCH: needs = 1; break;
        case TWO_R_FROM: needs = 2; change = -2; break;
        case I: case UNLOOP: looped = 1; break;
        case J: looped = 2; break;
        default:
      }
      if ((TRAITS[word] & TOLD) == 0) {
        stop(UNKNOWN, at);
      } else if (held < needs || loops[at] < looped) {
        stop(CONFLICT, at);
      } else {
        int taken = TAKES[word];
        take(at, taken);
        int open = word == UNLOOP ? loops[at] - 1 : loops[at];
        arrive(at + 1, heights[at] - taken + LEAVES[word], held + change, open);
      }
    }

    boolean mayLean(int leaned) {
      if (!words.isEnded(leaned) || words.has(leaned, WITHIN_ONE | HOLDS_ONE)) return false;
      int from = words.values[leaned];
      for (int i = from; i < from + words.sizes[leaned]; i++) {
        if (items.isKind(i, K_DOES)) return false;
      }
      return true;
    }

    int makeLean(int leaned) {
      first = words.values[leaned];
      end = Math.min(first + words.sizes[leaned], items.total);
      int fewer = 0;
      for (int round = 0; round <= ITEMS_ROOM; round++) {
        int gone = leanOnce();
        if (gone == 0) break;
        fewer += gone;
        end -= gone;
      }
      words.sizes[leaned] -= fewer;
      return fewer;
    }

    private int leanOnce() {
      markTargets();
      for (int at = first; at < end; at++) {
        if (items.isKind(at, K_JUMP) && items.numbers[at] == at + 1) return remove(at, 1);
        if (at + 1 >= end || seen[at + 1] != 0) continue;
        if (goes(at)) return remove(at, 2);
        if (!items.isKind(at, K_LIT)) continue;
        if (items.isKind(at + 1, K_WORD) && reckonsOne(items.numbers[at + 1])) {
          items.numbers[at] = reckoned(0, items.numbers[at], items.numbers[at + 1]);
          return remove(at + 1, 1);
        }
        if (at + 2 < end && seen[at + 2] == 0 && items.isKind(at + 1, K_LIT)
            && items.isKind(at + 2, K_WORD) && reckonsTwo(items.numbers[at + 2])) {
          int word = items.numbers[at + 2];
          items.numbers[at] = reckoned(items.numbers[at], items.numbers[at + 1], word);
          return remove(at + 1, 2);
        }
      }
      return 0;
    }

    private void markTargets() {
      for (int i = first; i < end; i++) seen[i] = 0;
      for (int i = first; i < end; i++) {
        int to = items.numbers[i];
        if (items.isJump(i) && to >= first && to < end) seen[to] = 1;
      }
    }

    private boolean goes(int at) {
      if (items.isKind(at, K_LIT)) return items.isWord(at + 1, DROP);
      if (items.isWord(at, SWAP)) return items.isWord(at + 1, SWAP);
      if (items.isWord(at, DUP)) return items.isWord(at + 1, DROP);
      if (items.isWord(at, NEGATE)) return items.isWord(at + 1, NEGATE);
      if (items.isWord(at, INVERT)) return items.isWord(at + 1, INVERT);
      return items.isWord(at, TO_R) && items.isWord(at + 1, R_FROM);
    }

    private static boolean reckonsOne(int word) {
      return word == NEGATE || word == INVERT || word == ZERO_EQUALS || word == ONE_PLUS
          || word == ONE_MINUS || word == TWO_TIMES;
    }

    private static boolean reckonsTwo(int word) {
      switch (word) {
        case PLUS: case MINUS: case TIMES: case AND: case OR: case XOR:
        case EQUALS: case DIFFERS: case LESS: case MORE: case MIN: case MAX:
          return true;
        default:
          return false;
      }
    }

    private int reckoned(int lower, int upper, int word) {
      desk.clearRows();
      desk.push(lower);
      desk.push(upper);
      if (word <= DNEGATE) desk.reckon(word);
      else desk.compare(word);
      return desk.pop();
    }

    /** Items go; those behind move up, and jumps lead to what they led to. */
    private int remove(int at, int gone) {
      for (int i = at; i + gone < end; i++) {
        items.kinds[i] = items.kinds[i + gone];
        items.numbers[i] = items.numbers[i + gone];
      }
      for (int i = first; i < end - gone; i++) {
        if (items.isJump(i) && items.numbers[i] >= at + gone) items.numbers[i] -= gone;
      }
      return gone;
    }
  }

  /** The chip: its words, made of a definition, and what it steps with. */
  private static final class Chip {
    static final int ABSENT = 0, GOES = 1, OVER = 2, FAULT = 3;

    final int[] words = new int[CHIP_ROOM];
    int length;
    final Space space = new Space();
    final Task rows = new Task(space);
    int state;
    int fault;
    int done;
    // While it is made: of items their places on the chip; of definitions, too; those met.
    final int[] places = new int[ITEMS_ROOM];
    final int[] starts = new int[WORDS_ROOM];
    final int[] queue = new int[WORDS_ROOM];
    int met;

    boolean holds(int place) {
      return place >= 0 && place < length;
    }

    int make(Forth forth, int token) {
      rows.clearRows();
      length = 0;
      state = ABSENT;
      fault = 0;
      done = 0;
      int size = plan(forth, token);
      if (size == 0) return 0;
      for (int q = 0; q < met; q++) layDefinition(forth, queue[q]);
      space.become(forth.space);
      // What it is made of has no frame: frames come with the definitions that it does.
      rows.place = 0;
      state = GOES;
      return length;
    }

    private void meet(int token) {
      if (token < 0 || token >= WORDS_ROOM || starts[token] != NONE || met >= WORDS_ROOM) return;
      starts[token] = 0;
      queue[met++] = token;
    }

    /** How many chip words it comes to; 0: it can not be made. */
    private int plan(Forth forth, int token) {
      Arrays.fill(starts, NONE);
      met = 0;
      meet(token);
      int size = 0;
      for (int q = 0; q < WORDS_ROOM && q < met; q++) {
        int at = queue[q];
        if (!forth.words.isEnded(at) || forth.words.has(at, WITHIN_ONE | HOLDS_ONE)) return 0;
        starts[at] = size;
        int first = forth.words.values[at];
        for (int i = first; i < first + forth.words.sizes[at]; i++) {
          int width = forth.items.holds(i) ? width(forth, i) : 0;
          if (width == 0 || size + width > CHIP_ROOM) return 0;
          places[i] = size;
          size += width;
        }
      }
      return size;
    }

    private int width(Forth forth, int item) {
      switch (forth.items.kinds[item]) {
        case K_WORD: break;
        case K_LIT: return 2;
        case K_DOES: case K_PUT: case K_COMPILE: case K_ABORT: return 0;
        default: return 1;
      }
      int token = forth.items.numbers[item];
      if (!forth.words.holds(token)) return 0;
      switch (forth.words.kinds[token]) {
        case BUILT_IN: return isOnChip(token) ? 1 : 0;
        case DEFINED: meet(token); return 1;
        case CONSTANT_KIND: case VARIABLE_KIND: return 2;
        case CREATED: return forth.words.does[token] == NONE ? 2 : 0;
        default: return 0;
      }
    }

    private static boolean isOnChip(int token) {
      if (token >= HERE && token <= ALIGN) return false;
      return token <= COUNT || (token >= I && token <= EXIT);
    }

    private void layDefinition(Forth forth, int token) {
      int first = forth.words.values[token];
      for (int i = first; i < first + forth.words.sizes[token]; i++) {
        if (!forth.items.holds(i)) return;
        int kind = forth.items.kinds[i];
        int number = forth.items.numbers[i];
        if (kind == K_LIT) {
          layCell(number);
        } else if (kind == K_WORD) {
          layWord(forth, number);
        } else {
          boolean leads = forth.items.isJump(i) && forth.items.holds(number);
          lay(kind * CHIP_KIND + (leads ? places[number] : number));
        }
      }
    }

    private void layWord(Forth forth, int token) {
      if (!forth.words.holds(token)) return;
      switch (forth.words.kinds[token]) {
        case BUILT_IN: lay(token); break;
        case DEFINED: lay(K_CALL * CHIP_KIND + starts[token]); break;
        default: layCell(forth.words.values[token]);
      }
    }

    private void layCell(int cell) {
      lay(K_LIT * CHIP_KIND);
      lay(cell);
    }

    private void lay(int v) {
      if (length < CHIP_ROOM) words[length++] = v;
    }

    int receive(int v) {
      if (state != GOES) return STATE;
      if (rows.dataCount >= DATA_ROOM) return FULL;
      rows.give(v);
      return rows.dataCount;
    }

    int run(int steps) {
      if (state == ABSENT) return STATE;
      for (int i = 0; i < steps && state == GOES; i++) {
        int at = rows.place;
        done++;
        int code = step(at);
        if (code != 0) {
          fault = code;
          state = FAULT;
        }
        if (state != GOES) rows.place = at;
      }
      return state == GOES ? 1 : state == OVER ? 0 : -2;
    }

    private int step(int at) {
      if (!holds(at)) return NO_PLACE;
      int kind = words[at] / CHIP_KIND;
      int number = words[at] % CHIP_KIND;
      rows.place = at + 1;
      switch (kind) {
        case K_WORD: break;
        case K_LIT:
          rows.place = at + 2;
          return rows.flow(K_LIT, holds(at + 1) ? words[at + 1] : 0);
        case K_CALL: return rows.enter(number);
        default: return rows.flow(kind, number);
      }
      if (number < 0 || number > EXIT) return NO_PLACE;
      int lack = rows.lack(TAKES[number], LEAVES[number]);
      if (lack != 0) return lack;
      if (number != EXIT) return rows.core(number);
      return rows.frameCount > 0 ? rows.exit() : end();
    }

    /** EXIT of what it is made of, at the beginning of which RETURN and LOOPS were empty. */
    private int end() {
      if (rows.returnCount > 0) return RETURN_LEFT;
      if (rows.loopCount > 0) return NO_LOOP;
      rows.localCount = 0;
      state = OVER;
      return 0;
    }

    int tell(int what) {
      if (what < 0 || what > 7) return BAD;
      if (state == ABSENT) return 0;
      switch (what) {
        case 0: return rows.place;
        case 4: return fault;
        case 5: return done;
        case 6: return length;
        case 7: return rows.frameCount;
        default: return rows.lengthOf(what - 1);
      }
    }
  }

  /** A system: it reads its text, does words and items, and makes definitions. */
  private static final class Forth {
    final Space space = new Space();
    final Words words = new Words();
    final Items items = new Items();
    final Texts texts = new Texts(space);
    final Making making = new Making(items);
    final Lists lists = new Lists();
    final Sink sink = new Sink();
    final Judge judge = new Judge(words, items, space);
    final Task[] tasks = new Task[TASKS];
    int at;
    int steps;
    int thrownCode;
    int thrownIn;
    int thrownTexts;
    // The token that is to be done within this step, and whether the text itself told it.
    int todo = NONE;
    boolean direct;
    // The definition that this step has ended: its effect is worked as the step ends.
    int ended = NONE;
    boolean outside;

    Forth() {
      for (int i = 0; i < TASKS; i++) tasks[i] = new Task(space);
      tasks[0].state = READY;
    }

    /** What is told of a system as it is made; nothing else has been done with it before. */
    void begin(int cell, int choices) {
      space.cellBytes = cell;
      space.choices = choices;
      space.layCell(BASE_AT, 10);
    }

    void become(Forth other) {
      space.become(other.space);
      words.become(other.words);
      items.become(other.items);
      texts.become(other.texts);
      making.become(other.making);
      lists.become(other.lists);
      sink.become(other.sink);
      for (int i = 0; i < TASKS; i++) tasks[i].become(other.tasks[i]);
      at = other.at;
      steps = other.steps;
      thrownCode = other.thrownCode;
      thrownIn = other.thrownIn;
      thrownTexts = other.thrownTexts;
    }

    boolean isLike(Forth other) {
      for (int i = 0; i < TASKS; i++) {
        if (!tasks[i].isLike(other.tasks[i])) return false;
      }
      return at == other.at && space.isLike(other.space) && words.isLike(other.words)
          && items.isLike(other.items) && texts.isLike(other.texts)
          && making.isLike(other.making) && lists.isLike(other.lists);
    }

    int figure(int what) {
      switch (what) {
        case 0: return space.here;
        case 1: return words.total;
        case 2: return items.total;
        case 3: return sink.total;
        case 4: return steps;
        case 5: return making.compiling ? 1 : 0;
        case 6: return lists.total;
        case 7: return lists.orderCount;
        case 8: return lists.current;
        case 9: return at;
        case 10: return sink.good;
        case 11: return sink.bad;
        case 12: return texts.live ? 1 : 0;
        case 13: return words.latest;
        case 14: return making.pairs;
        case 15: return texts.nested;
        default: return BAD;
      }
    }

    int tokenOf(byte[] name, int n) {
      for (int i = lists.orderCount - 1; i >= 0; i--) {
        int token = words.newest(lists.order[i], name, n, space.isCased());
        if (token != NONE) return token;
      }
      return NONE;
    }

    boolean othersEnded() {
      for (int i = 1; i < TASKS; i++) {
        if (tasks[i].state == READY || tasks[i].state == WAITING) return false;
      }
      return true;
    }

    boolean isAtRest() {
      return !texts.live && making.open == 0 && othersEnded();
    }

    private boolean hasText() {
      return at == 0;
    }

    private Task hand() {
      return tasks[at];
    }

    /** 1: the steps are spent, 0: the text is over, -2: it was thrown out of it. */
    int run(int most) {
      outside = false;
      for (int i = 0; i < most; i++) {
        steps++;
        int code = step();
        // Each EXECUTE or CATCH that tells a token more has taken a cell of DATA for it.
        for (int k = 0; k <= 2 * DATA_ROOM && code == 0 && todo != NONE; k++) code = perform();
        todo = NONE;
        if (ended != NONE) judge.work(ended);
        ended = NONE;
        // What is thrown out of another task can be thrown in task 0 again.
        for (int k = 0; k <= TASKS && code != 0; k++) code = unwind(code);
        if (!texts.live) return outside ? -2 : 0;
      }
      return 1;
    }

    private int step() {
      Task task = hand();
      if (task.token != NONE) return beginTask(task);
      if (task.takes) return take(task);
      switch (task.frameKind()) {
        case F_DEFINITION: return itemStep(task);
        case F_CATCH: return endCatch(task);
        default: return hasText() ? textStep() : endTask(0);
      }
    }

    private void ask(int token, boolean byText) {
      todo = token;
      direct = byText;
    }

    private int beginTask(Task task) {
      int token = task.token;
      task.token = NONE;
      if (!words.holds(token)) return NO_PLACE;
      ask(token, false);
      return 0;
    }

    private int take(Task task) {
      task.takes = false;
      return takeFromBox(task);
    }

    private int takeFromBox(Task task) {
      int lack = task.lack(0, 1);
      if (lack != 0) return lack;
      task.push(task.box[0]);
      task.boxCount--;
      for (int i = 0; i < task.boxCount; i++) task.box[i] = task.box[i + 1];
      return 0;
    }

    private int endCatch(Task task) {
      task.close();
      int lack = task.lack(0, 1);
      if (lack == 0) task.push(0);
      return lack;
    }

    private int itemStep(Task task) {
      int place = task.place;
      if (!items.holds(place)) return NO_PLACE;
      int number = items.numbers[place];
      task.place = place + 1;
      switch (items.kinds[place]) {
        case K_WORD:
          if (!words.holds(number)) return NO_PLACE;
          ask(number, false);
          return 0;
        case K_DOES: return does(task, place + 1);
        case K_PUT: return assign(number);
        case K_COMPILE:
          if (!making.compiling) return NOT_HERE;
          return words.holds(number) ? items.add(K_WORD, number) : NO_PLACE;
        case K_ABORT: return abort(task);
        default: return task.flow(items.kinds[place], number);
      }
    }

    private int does(Task task, int place) {
      int latest = words.latest;
      if (!words.isKind(latest, CREATED)) return NOT_CREATED;
      words.does[latest] = place;
      return task.exit();
    }

    private int abort(Task task) {
      int lack = task.lack(3, 0);
      if (lack != 0) return lack;
      long n = space.bare(task.pop());
      long from = space.bare(task.pop());
      if (task.pop() == 0) return 0;
      int code = putOut(from, n);
      return code != 0 ? code : -2;
    }

    private int putOut(long from, long n) {
      if (n == 0) return 0;
      if (!space.holds(from, n)) return NO_PLACE;
      sink.write(space.bytes, (int) from, (int) n);
      return 0;
    }

    private int textStep() {
      if (texts.readWord(true) == 0) return endText();
      if (making.compiling) {
        int local = making.localOf(texts.read, texts.readLength, space.isCased());
        if (local != NONE) return items.add(K_GET, local);
      }
      int token = tokenOf(texts.read, texts.readLength);
      if (token == NONE) return takeNumber();
      if (making.compiling && !words.has(token, IMMEDIATE_FLAG)) return items.add(K_WORD, token);
      boolean only = token < BUILT_INS && (TRAITS[token] & ONLY_COMPILING) != 0;
      if (only && !making.compiling) return NOT_HERE;
      ask(token, true);
      return 0;
    }

    private int endText() {
      Task task = hand();
      if (texts.nested == 0) {
        texts.live = false;
        return 0;
      }
      task.close();
      texts.fallTo(texts.nested - 1, texts.waits[texts.nested - 1]);
      return 0;
    }

    private int takeNumber() {
      byte[] read = texts.read;
      int n = texts.readLength;
      if (n == 3 && read[0] == '\'' && read[2] == '\'') return leave(read[1] & 255, false);
      int base = read[0] == '#' ? 10 : read[0] == '$' ? 16 : read[0] == '%' ? 2 : 0;
      int from = base == 0 ? 0 : 1;
      if (base == 0) base = space.base();
      if (base == 0) return BAD_BASE;
      boolean negative = from < n && read[from] == '-';
      if (negative) from++;
      boolean twin = read[n - 1] == '.';
      int end = twin ? n - 1 : n;
      if (from >= end) return NOT_FOUND;
      long v = 0;
      for (int i = from; i < end; i++) {
        int digit = digitOf(read[i]);
        if (digit < 0 || digit >= base) return NOT_FOUND;
        v = v * base + digit;
      }
      return leave(negative ? -v : v, twin);
    }

    private static int digitOf(int letter) {
      if (letter >= '0' && letter <= '9') return letter - '0';
      int small = letter | 32;
      return small >= 'a' && small <= 'z' ? small - 'a' + 10 : NONE;
    }

    /** A number that was read: compiled, or put on DATA. */
    private int leave(long v, boolean twin) {
      int lower = space.cut(v);
      int higher = space.cut(v >> space.bits());
      if (making.compiling) {
        if (!items.hasRoom(twin ? 2 : 1)) return NO_ROOM;
        items.add(K_LIT, lower);
        return twin ? items.add(K_LIT, higher) : 0;
      }
      Task task = hand();
      int lack = task.lack(0, twin ? 2 : 1);
      if (lack != 0) return lack;
      task.push(lower);
      if (twin) task.push(higher);
      return 0;
    }

    /** Throws in the task at hand: what is to be thrown then, or 0. */
    private int unwind(int code) {
      Task task = hand();
      int f = task.latestCatch();
      if (f != NONE) {
        int in = task.frames[Task.FRAME * f + Task.IN];
        int nested = task.frames[Task.FRAME * f + Task.TEXTS];
        task.fallTo(f, code);
        if (hasText()) texts.fallTo(nested, in);
        return 0;
      }
      if (!hasText()) return endTask(code);
      throwOut(code);
      return 0;
    }

    private void throwOut(int code) {
      thrownCode = code;
      thrownIn = (int) space.bare(space.cellAt(IN_AT));
      thrownTexts = texts.nested;
      hand().clearRows();
      texts.nested = 0;
      texts.live = false;
      outside = true;
      if (making.open > 0) {
        int outermost = making.tokens[0];
        if (words.holds(outermost)) {
          items.total = Math.min(items.total, words.values[outermost]);
          words.total = outermost;
        }
        words.latest = making.latestBefore;
      }
      making.forget();
    }

    /** The task at hand has ended; another one goes on, in the worst case task 0 with a throw. */
    private int endTask(int code) {
      Task task = hand();
      task.clearRows();
      task.state = ENDED;
      task.code = code;
      if (handOn()) return 0;
      at = 0;
      tasks[0].state = READY;
      tasks[0].takes = false;
      return NONE_READY;
    }

    /** The next task that is READY goes on; false if there is no other one. */
    private boolean handOn() {
      for (int i = 1; i < TASKS; i++) {
        int next = (at + i) % TASKS;
        if (tasks[next].state == READY) {
          at = next;
          return true;
        }
      }
      return false;
    }

    /** Does the token that is to be done. */
    private int perform() {
      int token = todo;
      todo = NONE;
      for (int i = 0; i <= DEFERS_MOST && words.isKind(token, DEFERRED); i++) {
        if (i == DEFERS_MOST || words.values[token] == NONE) return NO_SUCH;
        token = words.values[token];
        direct = false;
      }
      if (!words.holds(token)) return NO_PLACE;
      Task task = hand();
      switch (words.kinds[token]) {
        case BUILT_IN: break;
        case DEFINED: return task.enter(words.values[token]);
        case CREATED: return doCreated(task, token);
        case MARKER_KIND: return goBack(task, token);
        default: return offer(task, words.values[token]);
      }
      if (token >= BUILT_INS) return NO_PLACE;
      if ((TRAITS[token] & COMPILES) != 0 && !making.compiling) return NOT_HERE;
      int lack = token == RECEIVE ? 0 : task.lack(TAKES[token], LEAVES[token]);
      if (lack != 0) return lack;
      if (token <= COUNT || (token >= I && token <= UNLOOP)) return task.core(token);
      if (token == EXIT) return task.exit();
      if (token <= TO_IN) return printing(task, token);
      if (token <= END_QUOTATION) return defining(task, token);
      return token <= ENDCASE ? making.control(token) : tasking(task, token);
    }

    private int offer(Task task, int cell) {
      int lack = task.lack(0, 1);
      if (lack == 0) task.push(cell);
      return lack;
    }

    private int doCreated(Task task, int token) {
      int address = words.values[token];
      if (words.does[token] == NONE) return offer(task, address);
      int code = task.lack(0, 1);
      if (code == 0) code = task.enter(words.does[token]);
      if (code == 0) task.push(address);
      return code;
    }

    private int goBack(Task task, int token) {
      boolean inText = direct && making.open == 0 && othersEnded();
      for (int f = 0; f < task.frameCount; f++) {
        if (task.frames[Task.FRAME * f + Task.KIND] != F_TEXT) inText = false;
      }
      int m = words.values[token];
      if (!inText || m < 0 || m >= lists.markers) return NO_MARKER;
      words.total = token;
      words.latest = lists.markLatest[m];
      items.total = lists.markItems[m];
      space.here = lists.markHeres[m];
      lists.goBack(m);
      return 0;
    }

    private int printing(Task task, int token) {
      switch (token) {
        case DOT: case U_DOT: return print(task, token == DOT);
        case EMIT: sink.emit(task.pop()); return 0;
        case CR: sink.emit(10); return 0;
        case BLANK: sink.emit(32); return 0;
        case SPACES: sink.blanks(task.pop()); return 0;
        case TYPE: {
          long n = space.bare(task.pop());
          return putOut(space.bare(task.pop()), n);
        }
        case LESS_SHARP: space.picture = STRINGS_AT; return 0;
        case SHARP: case SHARP_S: return sharp(task, token == SHARP_S);
        case SHARP_MORE:
          task.popTwin();
          task.push(space.picture);
          task.push(STRINGS_AT - space.picture);
          return 0;
        case HOLD: return space.hold(task.pop());
        case SIGN: return task.pop() < 0 ? space.hold('-') : 0;
        case BASE: task.push(BASE_AT); return 0;
        case DECIMAL: space.layCell(BASE_AT, 10); return 0;
        case HEX: space.layCell(BASE_AT, 16); return 0;
        default: task.push(IN_AT); return 0;
      }
    }

    private int print(Task task, boolean signed) {
      int cell = task.pop();
      int base = space.base();
      if (base == 0) return BAD_BASE;
      sink.print(signed ? cell : space.bare(cell), base);
      return 0;
    }

    private int sharp(Task task, boolean all) {
      long rest = task.popBareTwin();
      int base = space.base();
      if (base == 0) return BAD_BASE;
      for (int i = 0; i < 64; i++) {
        long whole = quotient(rest, base);
        int code = space.hold(Sink.digit((int) (rest - whole * base)));
        if (code != 0) return code;
        rest = whole;
        if (!all || rest == 0) break;
      }
      return task.giveTwin(rest);
    }

    private int defining(Task task, int token) {
      boolean begins = token == COLON || token == NONAME || token == MARKER;
      if (begins && making.open > 0) return NESTED;
      int code = readFor(token);
      if (code != 0) return code;
      switch (token) {
        case COLON: return beginDefinition(texts.readLength);
        case NONAME: return beginDefinition(0);
        case SEMICOLON: return endDefinition(task);
        case CONSTANT: case VALUE: return makeValue(task, token);
        case VARIABLE: case CREATE: case DEFER: case MARKER: return makeWord(token);
        case IMMEDIATE: return makeImmediate();
        case TICK: case BRACKET_TICK: case POSTPONE: return tick(task, token);
        case CHAR: return offer(task, texts.read[0] & 255);
        case BRACKET_CHAR: return items.add(K_LIT, texts.read[0] & 255);
        case LEFT_BRACKET: making.compiling = false; return 0;
        case RIGHT_BRACKET:
          if (making.open == 0) return NOT_HERE;
          making.compiling = true;
          return 0;
        case LITERAL:
          return task.dataCount < 1 ? DATA_SHORT : items.add(K_LIT, task.pop());
        case RECURSE: return items.add(K_WORD, making.innermost());
        case TO: case IS: return setNamed(token);
        case DOES: return addDoes();
        case S_QUOTE: case DOT_QUOTE: case ABORT_QUOTE: return string(task, token);
        case PAREN: texts.readUpTo(')', hasText()); return 0;
        case BACKSLASH: texts.skipLine(hasText()); return 0;
        case LOCALS: return readLocals();
        case QUOTATION: return beginQuotation();
        case END_QUOTATION: return endQuotation();
        case EVALUATE: return evaluateText(task);
        default: return doToken(task, token);
      }
    }

    /** Reads the word that a word of line 7 wants from the text, if it wants one. */
    private int readFor(int token) {
      boolean makes = token <= MARKER && token != SEMICOLON && token != NONAME;
      switch (token) {
        case TICK: case BRACKET_TICK: case CHAR: case BRACKET_CHAR: case POSTPONE: case TO: case IS:
          break;
        default:
          if (!makes) return 0;
      }
      int n = texts.readWord(hasText());
      if (n == 0) return NO_NAME;
      return makes && n > NAME_ROOM ? NAME_LONG : 0;
    }

    private int beginDefinition(int nameLength) {
      if (words.isFull()) return NO_ROOM;
      making.latestBefore = words.latest;
      making.nameless = nameLength == 0;
      int token = words.make(DEFINED, items.total, lists.current, texts.read, nameLength);
      making.begin(token, NONE);
      making.compiling = true;
      return 0;
    }

    private int endDefinition(Task task) {
      if (making.open != 1) return UNPAIRED;
      int lack = making.nameless ? task.lack(0, 1) : 0;
      if (lack != 0) return lack;
      if (!making.isLevel()) return UNPAIRED;
      if (!items.hasRoom(1)) return NO_ROOM;
      finish();
      making.compiling = false;
      if (making.nameless) task.push(ended);
      return 0;
    }

    /** The innermost definition gets its EXIT and is seen. */
    private void finish() {
      items.add(K_WORD, EXIT);
      ended = making.innermost();
      words.end(ended, items.total);
      making.open--;
    }

    private int beginQuotation() {
      if (making.open >= OPEN_ROOM) return NESTED;
      if (words.isFull() || !items.hasRoom(1)) return NO_ROOM;
      int jump = items.total;
      items.add(K_JUMP, 0);
      for (int i = 0; i < making.open; i++) words.set(making.tokens[i], HOLDS_ONE);
      int token = words.make(DEFINED, items.total, 0, texts.read, 0);
      words.set(token, WITHIN_ONE);
      making.begin(token, jump);
      return 0;
    }

    private int endQuotation() {
      if (making.open < 2 || !making.isLevel()) return UNPAIRED;
      if (!items.hasRoom(2)) return NO_ROOM;
      int jump = making.overs[making.open - 1];
      finish();
      items.point(jump);
      return items.add(K_LIT, ended);
    }

    private int addDoes() {
      if (!making.isLevel()) return UNPAIRED;
      int code = items.add(K_DOES, 0);
      if (code == 0) making.mark(Making.HAS_DOES);
      return code;
    }

    private int makeValue(Task task, int token) {
      if (task.dataCount < 1) return DATA_SHORT;
      if (words.isFull()) return NO_ROOM;
      int kind = token == VALUE ? VALUE_KIND : CONSTANT_KIND;
      words.make(kind, task.pop(), lists.current, texts.read, texts.readLength);
      return 0;
    }

    private int makeWord(int token) {
      if (words.isFull()) return NO_ROOM;
      int kind = CREATED;
      int value = space.here;
      if (token == VARIABLE) {
        if (!space.hasRoom(space.cellBytes)) return NO_ROOM;
        kind = VARIABLE_KIND;
        space.layCell(space.here, 0);
        space.here += space.cellBytes;
      } else if (token == DEFER) {
        kind = DEFERRED;
        value = NONE;
      } else if (token == MARKER) {
        if (lists.markers >= MARKERS_ROOM) return NO_ROOM;
        kind = MARKER_KIND;
        value = lists.mark(items.total, space.here, words.latest);
      }
      words.make(kind, value, lists.current, texts.read, texts.readLength);
      return 0;
    }

    private int makeImmediate() {
      if (words.latest == NONE) return NO_NAME;
      words.set(words.latest, IMMEDIATE_FLAG);
      return 0;
    }

    private int tick(Task task, int token) {
      int found = tokenOf(texts.read, texts.readLength);
      if (found == NONE) return NOT_FOUND;
      if (token == TICK) return offer(task, found);
      if (token == BRACKET_TICK) return items.add(K_LIT, found);
      return items.add(words.has(found, IMMEDIATE_FLAG) ? K_WORD : K_COMPILE, found);
    }

    /** TO and IS of the name that was read. */
    private int setNamed(int token) {
      if (token == TO && making.compiling) {
        int local = making.localOf(texts.read, texts.readLength, space.isCased());
        if (local != NONE) return items.add(K_SET, local);
      }
      int found = tokenOf(texts.read, texts.readLength);
      if (found == NONE) return NOT_FOUND;
      if (!words.isKind(found, token == TO ? VALUE_KIND : DEFERRED)) return NOT_SETTABLE;
      return making.compiling ? items.add(K_PUT, found) : assign(found);
    }

    private int assign(int token) {
      Task task = hand();
      boolean defers = words.isKind(token, DEFERRED);
      if (!defers && !words.isKind(token, VALUE_KIND)) return NO_PLACE;
      if (task.dataCount < 1) return DATA_SHORT;
      int cell = task.pop();
      if (defers && !words.holds(cell)) return NO_PLACE;
      words.values[token] = cell;
      return 0;
    }

    private int string(Task task, int token) {
      texts.readUpTo('"', hasText());
      int n = texts.readLength;
      if (!making.compiling && token == DOT_QUOTE) {
        sink.write(texts.read, 0, n);
        return 0;
      }
      if (!making.compiling) {
        int lack = task.lack(0, 2);
        if (lack != 0) return lack;
        if (n > STRINGS_ROOM) return STRING_LONG;
        System.arraycopy(texts.read, 0, space.bytes, STRINGS_AT, n);
        task.push(STRINGS_AT);
        task.push(n);
        return 0;
      }
      if (!space.hasRoom(n) || !items.hasRoom(token == S_QUOTE ? 2 : 3)) return NO_ROOM;
      System.arraycopy(texts.read, 0, space.bytes, space.here, n);
      items.add(K_LIT, space.here);
      items.add(K_LIT, n);
      if (token == DOT_QUOTE) items.add(K_WORD, TYPE);
      if (token == ABORT_QUOTE) items.add(K_ABORT, 0);
      space.here += n;
      return 0;
    }

    private int readLocals() {
      if (making.isMarked(Making.HAS_LOCALS | Making.HAS_DOES) || !making.isLevel()) return UNPAIRED;
      int all = 0;
      int taken = 0;
      boolean zeros = false;
      boolean over = false;
      // Each word that is read takes a byte of the text at least.
      for (int i = 0; i <= SPACE_ROOM; i++) {
        int n = texts.readWord(hasText());
        if (n == 0) return TEXT_ENDS;
        if (texts.isRead(':', '}')) return addLocals(taken, all);
        if (over || texts.isRead('-', '-')) {
          over = true;
        } else if (!zeros && texts.isRead('|', 0)) {
          zeros = true;
        } else {
          if (n > NAME_ROOM) return NAME_LONG;
          if (all >= LOCALS_MOST) return NO_ROOM;
          making.nameLocal(all, texts.read, n);
          all++;
          if (!zeros) taken++;
        }
      }
      return TEXT_ENDS;
    }

    private int addLocals(int taken, int all) {
      int code = items.add(K_ENTER, taken + 16 * all);
      if (code == 0) making.countLocals(all);
      return code;
    }

    /** EXECUTE and >BODY. */
    private int doToken(Task task, int token) {
      int cell = task.pop();
      if (!words.holds(cell)) return NO_PLACE;
      if (token == EXECUTE) {
        ask(cell, false);
        return 0;
      }
      boolean hasBody = words.isKind(cell, CREATED) || words.isKind(cell, VARIABLE_KIND);
      if (!hasBody) return NOT_CREATED;
      task.push(words.values[cell]);
      return 0;
    }

    private int evaluateText(Task task) {
      long n = space.bare(task.pop());
      long from = space.bare(task.pop());
      if (!hasText()) return NO_SUCH;
      if (n > 0 && !space.holds(from, n)) return NO_PLACE;
      return nest(task, T_SPACE, n > 0 ? (int) from : 0, (int) n);
    }

    private int nest(Task task, int kind, int place, int n) {
      if (texts.nested >= TEXTS_ROOM || !task.open(F_TEXT)) return ROWS_FULL;
      texts.nest(kind, place, n);
      return 0;
    }

    private int tasking(Task task, int token) {
      switch (token) {
        case CATCH: return beginCatch(task);
        case THROW: return task.pop();
        case ABORT: return -1;
        case WORDLIST:
          if (lists.total >= LISTS_ROOM) return NO_ROOM;
          lists.total++;
          task.push(lists.total);
          return 0;
        case TO_ORDER: return lists.search(task.pop());
        case PREVIOUS: return lists.previous();
        case DEFINITIONS: return lists.define();
        case ONLY: lists.only(); return 0;
        case TASK: return makeTask(task);
        case PAUSE: handOn(); return 0;
        case STOP: return hasText() ? NO_SUCH : endTask(0);
        case SEND: return send(task);
        case RECEIVE: return receive(task);
        case LOAD: return load(task);
        case TEST: sink.noted = task.dataCount; return 0;
        case TEST_KEEP: sink.keepAbove(task); return 0;
        default: sink.judgeAbove(task); return 0;
      }
    }

    private int beginCatch(Task task) {
      int token = task.pop();
      if (!words.holds(token)) return NO_PLACE;
      if (!task.open(F_CATCH)) return ROWS_FULL;
      int f = Task.FRAME * (task.frameCount - 1);
      task.frames[f + Task.DATAED] = task.dataCount;
      task.frames[f + Task.IN] = space.cellAt(IN_AT);
      // Another task than 0 has no text that could have been another one then.
      task.frames[f + Task.TEXTS] = hasText() ? texts.nested : 0;
      ask(token, false);
      return 0;
    }

    private int makeTask(Task task) {
      int token = task.pop();
      if (!words.holds(token)) return NO_PLACE;
      for (int i = 1; i < TASKS; i++) {
        if (tasks[i].state == READY || tasks[i].state == WAITING) continue;
        tasks[i].clearRows();
        tasks[i].boxCount = 0;
        tasks[i].state = READY;
        tasks[i].code = 0;
        tasks[i].token = token;
        task.push(i);
        return 0;
      }
      task.push(0);
      return 0;
    }

    private int send(Task task) {
      int to = task.pop();
      int cell = task.pop();
      boolean there = to >= 0 && to < TASKS
          && (tasks[to].state == READY || tasks[to].state == WAITING)
          && tasks[to].boxCount < BOX_ROOM;
      if (there) {
        tasks[to].box[tasks[to].boxCount++] = cell;
        tasks[to].state = READY;
      }
      return task.flag(there);
    }

    private int receive(Task task) {
      if (task.boxCount > 0) return takeFromBox(task);
      if (!handOn()) return NONE_READY;
      task.state = WAITING;
      task.takes = true;
      return 0;
    }

    private int load(Task task) {
      int block = task.pop();
      if (!hasText()) return NO_SUCH;
      if (block < 0 || block >= BLOCKS) return NO_BLOCK;
      return nest(task, T_BLOCK, block, BLOCK_BYTES);
    }
  }
}
