import java.util.ArrayList;
import java.util.Arrays;
import java.util.List;

/** A system, read a second time from the document alone: plain, slow, with the whole library. */
final class SecondSystem {
  static final int NONE = -1;
  static final int WORD = 0, LIT = 1, JUMP = 2, JUMP0 = 3, DO = 4, QDO = 5, LOOP = 6, PLUS_LOOP = 7;
  static final int LEAVE = 8, OF = 9, DOES = 10, ENTER = 11, GET = 12, SET = 13, PUT = 14;
  static final int COMPILE = 15, ABORT = 16;

  /** A THROW. */
  static final class Thrown extends RuntimeException {
    final int code;

    Thrown(int code) {
      super(null, null, false, false);
      this.code = code;
    }
  }

  /** A word. */
  static final class Word {
    int kind, value, list, immediate, size, does = NONE;
    byte[] name;
    boolean hidden, within, holds;
    int[] effect;
    // Of a MARKER: items, lists, HERE, the list for new words, the latest word; and the order.
    int[] mark;
    List<Integer> markOrder;

    Word(int kind, byte[] name, int list, int value) {
      this.kind = kind;
      this.name = name;
      this.list = name.length > 0 ? list : 0;
      this.value = value;
    }

    Word copy() {
      Word w = new Word(kind, name, list, value);
      w.immediate = immediate;
      w.size = size;
      w.does = does;
      w.hidden = hidden;
      w.within = within;
      w.holds = holds;
      w.effect = effect;
      w.mark = mark;
      w.markOrder = markOrder;
      return w;
    }

    int[] told() {
      int[] all = {kind, immediate, list, kind == 6 ? 0 : value, size, does, name.length, hidden ? 1 : 0};
      return all;
    }
  }

  /** A frame: 'D' of a definition, 'T' of a nested text, 'C' of CATCH. */
  static final class Frame {
    char kind;
    int place, returns, loops, locals, depth, texts, in;

    Frame copy() {
      Frame f = new Frame();
      f.kind = kind;
      f.place = place;
      f.returns = returns;
      f.loops = loops;
      f.locals = locals;
      f.depth = depth;
      f.texts = texts;
      f.in = in;
      return f;
    }

    @Override
    public String toString() {
      return kind + "" + place + "," + returns + "," + loops + "," + locals + "," + depth + "," + texts + "," + in;
    }
  }

  /** A task. */
  static final class Task {
    int state, code, token = NONE;
    boolean takes;
    List<Integer> data = new ArrayList<>(), returns = new ArrayList<>(), locals = new ArrayList<>();
    List<Integer> box = new ArrayList<>();
    List<int[]> loops = new ArrayList<>();
    List<Frame> frames = new ArrayList<>();

    void clear() {
      token = NONE;
      takes = false;
      data.clear();
      returns.clear();
      locals.clear();
      loops.clear();
      frames.clear();
    }

    Task copy() {
      Task t = new Task();
      t.state = state;
      t.code = code;
      t.token = token;
      t.takes = takes;
      t.data.addAll(data);
      t.returns.addAll(returns);
      t.locals.addAll(locals);
      t.box.addAll(box);
      for (int[] loop : loops) t.loops.add(loop.clone());
      for (Frame f : frames) t.frames.add(f.copy());
      return t;
    }

    String all() {
      StringBuilder s = new StringBuilder();
      s.append(state).append(' ').append(code).append(data).append(returns).append(locals).append(frames);
      for (int[] loop : loops) s.append(Arrays.toString(loop));
      return s.append(token).append(takes).toString();
    }
  }

  /** A nested text: 'S' of SPACE, 'B' a BLOCK; the >IN of the one that waits. */
  record Nested(char kind, int place, int length, int waits) {}

  /** A definition under way. */
  static final class Making {
    int token, pairs, latest, jump = NONE;
    boolean nameless, hasLocals, does;
    List<byte[]> locals = new ArrayList<>();

    Making copy() {
      Making m = new Making();
      m.token = token;
      m.pairs = pairs;
      m.latest = latest;
      m.jump = jump;
      m.nameless = nameless;
      m.hasLocals = hasLocals;
      m.does = does;
      m.locals.addAll(locals);
      return m;
    }
  }

  final int cell, choices, bits;
  byte[] space = new byte[4096];
  int here = 256;
  List<Word> words = new ArrayList<>();
  List<int[]> items = new ArrayList<>();
  byte[][] blocks = new byte[8][512];
  Task[] tasks = new Task[4];
  int at;
  byte[] main;
  List<Nested> nested = new ArrayList<>();
  boolean compiling;
  List<Making> makings = new ArrayList<>();
  // Pairs of CONTROL: O an ORIGIN, D a DESTINATION, L a LOOP, C a CASE, F an OF, E an ENDOF.
  List<int[]> control = new ArrayList<>();
  List<Integer> order = new ArrayList<>(List.of(1));
  int lists = 1, current = 1, latest = NONE;
  byte[] out = new byte[3000];
  long outTotal;
  int steps, good, bad, noted, picture = 128;
  List<Integer> kept = new ArrayList<>();
  int[] thrown = new int[3];
  boolean outside;

  SecondSystem(int cell, int choices) {
    this.cell = cell;
    this.choices = choices;
    bits = 8 * cell;
    for (String name : SecondWords.ALL) {
      Word w = new Word(0, SecondWords.bytes(name), 1, 0);
      w.immediate = SecondWords.IMMEDIATE.contains(name) ? 1 : 0;
      words.add(w);
    }
    for (byte[] block : blocks) Arrays.fill(block, (byte) 32);
    for (int i = 0; i < 4; i++) tasks[i] = new Task();
    tasks[0].state = 1;
    lay(0, 10);
  }

  SecondSystem copy() {
    SecondSystem s = new SecondSystem(cell, choices);
    s.space = space.clone();
    s.here = here;
    s.words.clear();
    for (Word w : words) s.words.add(w.copy());
    for (int[] item : items) s.items.add(item.clone());
    for (int i = 0; i < 8; i++) s.blocks[i] = blocks[i].clone();
    for (int i = 0; i < 4; i++) s.tasks[i] = tasks[i].copy();
    s.at = at;
    s.main = main;
    s.nested.addAll(nested);
    s.compiling = compiling;
    for (Making m : makings) s.makings.add(m.copy());
    for (int[] pair : control) s.control.add(pair.clone());
    s.order = new ArrayList<>(order);
    s.lists = lists;
    s.current = current;
    s.latest = latest;
    s.out = out.clone();
    s.outTotal = outTotal;
    s.steps = steps;
    s.good = good;
    s.bad = bad;
    s.noted = noted;
    s.picture = picture;
    s.kept.addAll(kept);
    s.thrown = thrown.clone();
    return s;
  }

  /** All that makes two systems the same. */
  String all() {
    StringBuilder s = new StringBuilder();
    s.append(cell).append(choices).append(' ').append(here).append(compiling).append(latest).append(' ');
    for (Word w : words) s.append(Arrays.toString(w.told())).append(Arrays.toString(w.name));
    for (int[] item : items) s.append(Arrays.toString(item));
    s.append(Arrays.toString(space)).append(Arrays.deepToString(blocks)).append(lists).append(order).append(current);
    s.append(' ').append(control.size()).append(' ').append(makings.size()).append(' ').append(at);
    for (Task t : tasks) s.append(t.all());
    if (main != null) s.append(Arrays.toString(main));
    for (Nested n : nested) {
      s.append(n.kind()).append(n.length() > 0 ? n.place() : 0).append(' ').append(n.length()).append(' ').append(n.waits());
    }
    return s.toString();
  }

  // Cells.

  int cut(long v) {
    int spare = 64 - bits;
    return (int) ((v << spare) >> spare);
  }

  long bare(long v) {
    return v & ((1L << bits) - 1);
  }

  private int byteOfCell(int at, int i) {
    return (choices & 4) != 0 ? at + cell - 1 - i : at + i;
  }

  void lay(int at, long v) {
    for (int i = 0; i < cell; i++) space[byteOfCell(at, i)] = (byte) (v >> (8 * i));
  }

  int get(int at) {
    long v = 0;
    for (int i = 0; i < cell; i++) v |= (space[byteOfCell(at, i)] & 255L) << (8 * i);
    return cut(v);
  }

  /** All of it is in SPACE: where it begins. */
  int inSpace(long at, long n) {
    if (at < 0 || at + n > 4096) throw new Thrown(-9);
    return (int) at;
  }

  int base() {
    int base = get(0);
    if (base < 2 || base > 36) throw new Thrown(-40);
    return base;
  }

  // DATA of the task at hand.

  Task hand() {
    return tasks[at];
  }

  List<Integer> data() {
    return tasks[at].data;
  }

  void need(int takes, int leaves) {
    if (data().size() < takes) throw new Thrown(-4);
    if (data().size() - takes + leaves > 64) throw new Thrown(-3);
  }

  void push(long v) {
    data().add(cut(v));
  }

  int pop() {
    return data().remove(data().size() - 1);
  }

  static <T> void shorten(List<T> row, int n) {
    while (row.size() > n) row.remove(row.size() - 1);
  }

  // Texts.

  private byte[] text() {
    if (nested.isEmpty()) return main;
    Nested n = nested.get(nested.size() - 1);
    if (n.kind() == 'B') return blocks[n.place()];
    return Arrays.copyOfRange(space, n.place(), n.place() + n.length());
  }

  int in() {
    return (int) bare(get(4));
  }

  private static boolean blank(byte b) {
    return b >= 0 && b <= 32;
  }

  /** The next word of the text, without bytes if there is none. */
  byte[] readWord() {
    if (at != 0) return new byte[0];
    byte[] text = text();
    int from = (int) Math.min(bare(get(4)), text.length);
    while (from < text.length && blank(text[from])) from++;
    int to = from;
    while (to < text.length && !blank(text[to])) to++;
    lay(4, Math.min(to + 1, text.length));
    return Arrays.copyOfRange(text, from, to);
  }

  byte[] readTo(int last) {
    if (at != 0) return new byte[0];
    byte[] text = text();
    int from = (int) Math.min(bare(get(4)), text.length);
    int to = from;
    while (to < text.length && text[to] != last) to++;
    lay(4, Math.min(to + 1, text.length));
    return Arrays.copyOfRange(text, from, to);
  }

  void skipLine() {
    if (at != 0) return;
    boolean inBlock = !nested.isEmpty() && nested.get(nested.size() - 1).kind() == 'B';
    if (!inBlock) {
      readTo(10);
      return;
    }
    long in = Math.min(bare(get(4)), 512);
    while (in % 64 != 0) in++;
    lay(4, in);
  }

  byte[] readName(boolean made) {
    byte[] name = readWord();
    if (name.length == 0) throw new Thrown(-16);
    if (made && name.length > 24) throw new Thrown(-19);
    return name;
  }

  private boolean alike(byte[] a, byte[] b) {
    if (a.length != b.length) return false;
    for (int i = 0; i < a.length; i++) {
      int x = a[i];
      int y = b[i];
      if ((choices & 2) == 0 && x >= 'A' && x <= 'Z') x += 32;
      if ((choices & 2) == 0 && y >= 'A' && y <= 'Z') y += 32;
      if (x != y) return false;
    }
    return true;
  }

  int find(byte[] name) {
    if (name.length == 0) return NONE;
    for (int i = order.size() - 1; i >= 0; i--) {
      for (int k = words.size() - 1; k >= 0; k--) {
        Word w = words.get(k);
        if (w.name.length > 0 && w.list == order.get(i) && !w.hidden && alike(w.name, name)) return k;
      }
    }
    return NONE;
  }

  int findRead() {
    int token = find(readName(false));
    if (token == NONE) throw new Thrown(-13);
    return token;
  }

  int local(byte[] name) {
    if (makings.isEmpty() || innermost().does) return NONE;
    List<byte[]> locals = innermost().locals;
    for (int i = locals.size() - 1; i >= 0; i--) {
      if (alike(locals.get(i), name)) return i;
    }
    return NONE;
  }

  // What is made.

  Making innermost() {
    return makings.get(makings.size() - 1);
  }

  void room(int n) {
    if (items.size() + n > 4000) throw new Thrown(-8);
  }

  void add(int kind, int number) {
    room(1);
    items.add(new int[] {kind, number});
  }

  void roomForWord() {
    if (words.size() >= 360) throw new Thrown(-8);
  }

  int make(Word w) {
    roomForWord();
    words.add(w);
    if (w.name.length > 0) latest = words.size() - 1;
    return words.size() - 1;
  }

  void beginDefinition(byte[] name, int jump) {
    roomForWord();
    Making m = new Making();
    m.latest = latest;
    m.pairs = control.size();
    m.jump = jump;
    m.nameless = name.length == 0;
    Word w = new Word(1, name, current, items.size());
    w.hidden = true;
    w.within = jump != NONE;
    m.token = make(w);
    makings.add(m);
  }

  int finishDefinition() {
    int token = makings.remove(makings.size() - 1).token;
    Word w = words.get(token);
    items.add(new int[] {WORD, SecondWords.token("EXIT")});
    w.size = items.size() - w.value;
    w.hidden = false;
    return token;
  }

  // Steps.

  /** 1: the steps are spent, 0: the text is over, -2: it was thrown out of it. */
  int run(int most) {
    outside = false;
    for (int i = 0; i < most; i++) {
      steps++;
      try {
        step();
      } catch (Thrown t) {
        thrown(t.code);
      }
      if (main == null) return outside ? -2 : 0;
    }
    return 1;
  }

  private void thrown(int code) {
    Task t = hand();
    t.takes = false;
    int f = t.frames.size() - 1;
    while (f >= 0 && t.frames.get(f).kind != 'C') f--;
    if (f >= 0) {
      caught(t, f, code);
    } else if (at != 0) {
      endTask(code);
    } else {
      thrownOut(t, code);
    }
  }

  private void caught(Task t, int f, int code) {
    Frame frame = t.frames.get(f);
    shorten(t.frames, f + 1);
    shorten(t.data, frame.depth);
    while (t.data.size() < frame.depth) t.data.add(0);
    close(t);
    if (at == 0) {
      shorten(nested, frame.texts);
      lay(4, frame.in);
    }
    t.data.add(code);
  }

  private void thrownOut(Task t, int code) {
    thrown = new int[] {code, in(), nested.size()};
    t.clear();
    nested.clear();
    main = null;
    outside = true;
    if (!makings.isEmpty()) {
      Making outermost = makings.get(0);
      shorten(items, words.get(outermost.token).value);
      shorten(words, outermost.token);
      latest = outermost.latest;
    }
    makings.clear();
    control.clear();
    compiling = false;
  }

  void endTask(int code) {
    Task t = hand();
    t.clear();
    t.state = 3;
    t.code = code;
    if (nextReady()) return;
    at = 0;
    tasks[0].state = 1;
    thrown(-257);
  }

  boolean nextReady() {
    for (int i = 1; i < 4; i++) {
      if (tasks[(at + i) % 4].state != 1) continue;
      at = (at + i) % 4;
      return true;
    }
    return false;
  }

  private void step() {
    Task t = hand();
    if (t.token != NONE) {
      int token = t.token;
      t.token = NONE;
      perform(token, false);
    } else if (t.takes) {
      t.takes = false;
      takeFromBox();
    } else if (!t.frames.isEmpty() && top().kind == 'D') {
      item();
    } else if (!t.frames.isEmpty() && top().kind == 'C') {
      close(t);
      need(0, 1);
      push(0);
    } else if (at != 0) {
      endTask(0);
    } else {
      textStep(t);
    }
  }

  Frame top() {
    return hand().frames.get(hand().frames.size() - 1);
  }

  void takeFromBox() {
    need(0, 1);
    push(hand().box.remove(0));
  }

  Frame open(char kind) {
    Task t = hand();
    if (t.frames.size() >= 40) throw new Thrown(-5);
    Frame f = new Frame();
    f.kind = kind;
    f.returns = t.returns.size();
    f.loops = t.loops.size();
    f.locals = t.locals.size();
    t.frames.add(f);
    return f;
  }

  void enter(int place) {
    open('D').place = place;
  }

  private void close(Task t) {
    Frame f = t.frames.remove(t.frames.size() - 1);
    shorten(t.returns, f.returns);
    shorten(t.loops, f.loops);
    shorten(t.locals, f.locals);
  }

  void exit() {
    Task t = hand();
    if (t.frames.isEmpty() || top().kind != 'D') throw new Thrown(-14);
    if (t.returns.size() != top().returns) throw new Thrown(-25);
    if (t.loops.size() != top().loops) throw new Thrown(-26);
    close(t);
  }

  private void textStep(Task t) {
    byte[] word = readWord();
    if (word.length == 0) {
      endText(t);
      return;
    }
    int local = compiling ? local(word) : NONE;
    if (local != NONE) {
      add(GET, local);
      return;
    }
    int token = find(word);
    if (token == NONE) {
      takeNumber(word);
    } else if (compiling && words.get(token).immediate == 0) {
      add(WORD, token);
    } else {
      boolean only = words.get(token).kind == 0 && SecondWords.ONLY_COMPILING.contains(SecondWords.ALL.get(token));
      if (only && !compiling) throw new Thrown(-14);
      perform(token, true);
    }
  }

  private void endText(Task t) {
    if (nested.isEmpty()) {
      main = null;
      return;
    }
    close(t);
    lay(4, nested.remove(nested.size() - 1).waits());
  }

  private void takeNumber(byte[] word) {
    String s = new String(word, java.nio.charset.StandardCharsets.ISO_8859_1);
    boolean twin = false;
    java.math.BigInteger v;
    if (s.length() == 3 && s.charAt(0) == '\'' && s.charAt(2) == '\'') {
      v = java.math.BigInteger.valueOf(s.charAt(1));
    } else {
      int prefix = "#$%".indexOf(s.charAt(0));
      int base = prefix < 0 ? base() : new int[] {10, 16, 2}[prefix];
      if (prefix >= 0) s = s.substring(1);
      boolean negative = s.startsWith("-");
      if (negative) s = s.substring(1);
      twin = s.endsWith(".");
      if (twin) s = s.substring(0, s.length() - 1);
      v = digits(s, base);
      if (negative) v = v.negate();
    }
    int lower = cut(v.longValue());
    int higher = cut(v.shiftRight(bits).longValue());
    if (compiling) {
      room(twin ? 2 : 1);
      add(LIT, lower);
      if (twin) add(LIT, higher);
    } else {
      need(0, twin ? 2 : 1);
      push(lower);
      if (twin) push(higher);
    }
  }

  private static java.math.BigInteger digits(String s, int base) {
    if (s.isEmpty()) throw new Thrown(-13);
    for (char c : s.toCharArray()) {
      boolean plain = c >= '0' && c <= '9' || c >= 'A' && c <= 'Z' || c >= 'a' && c <= 'z';
      if (!plain || Character.digit(c, 36) >= base) throw new Thrown(-13);
    }
    return new java.math.BigInteger(s, base);
  }

  /** Does what a token tells. */
  void perform(int token, boolean direct) {
    for (int over = 0; isThere(token) && words.get(token).kind == 5; over++) {
      if (over == 8 || words.get(token).value == NONE) throw new Thrown(-24);
      token = words.get(token).value;
      direct = false;
    }
    if (!isThere(token)) throw new Thrown(-9);
    Word w = words.get(token);
    switch (w.kind) {
      case 0 -> SecondWords.perform(this, SecondWords.ALL.get(token));
      case 1 -> enter(w.value);
      case 3 -> {
        need(0, 1);
        if (w.does != NONE) enter(w.does);
        push(w.value);
      }
      case 6 -> goBack(token, direct);
      default -> {
        need(0, 1);
        push(w.value);
      }
    }
  }

  boolean isThere(int token) {
    return token >= 0 && token < words.size();
  }

  boolean othersEnded() {
    for (int i = 1; i < 4; i++) {
      if (tasks[i].state == 1 || tasks[i].state == 2) return false;
    }
    return true;
  }

  private void goBack(int token, boolean direct) {
    boolean good = direct && makings.isEmpty() && othersEnded();
    for (Frame f : hand().frames) good &= f.kind == 'T';
    if (!good) throw new Thrown(-15);
    Word w = words.get(token);
    shorten(words, token);
    shorten(items, w.mark[0]);
    lists = w.mark[1];
    here = w.mark[2];
    current = w.mark[3];
    latest = w.mark[4];
    order = new ArrayList<>(w.markOrder);
  }

  void emit(byte[] from, int at, int n) {
    for (int i = 0; i < n; i++) emit(from[at + i]);
  }

  void emit(int letter) {
    if (outTotal < 3000) out[(int) outTotal] = (byte) letter;
    outTotal = Math.min(outTotal + 1, Integer.MAX_VALUE);
  }

  void type(long from, long n) {
    if (n > 0) emit(space, inSpace(from, n), (int) n);
  }

  // Items.

  private void item() {
    Frame f = top();
    int place = f.place;
    if (place < 0 || place >= items.size()) throw new Thrown(-9);
    int number = items.get(place)[1];
    f.place = place + 1;
    switch (items.get(place)[0]) {
      case WORD -> {
        if (!isThere(number)) throw new Thrown(-9);
        perform(number, false);
      }
      case PUT -> put(number);
      case DOES -> {
        if (latest == NONE || words.get(latest).kind != 3) throw new Thrown(-31);
        words.get(latest).does = place + 1;
        exit();
      }
      case COMPILE -> {
        if (!compiling) throw new Thrown(-14);
        if (!isThere(number)) throw new Thrown(-9);
        add(WORD, number);
      }
      case ABORT -> {
        need(3, 0);
        long n = bare(pop());
        long from = bare(pop());
        if (pop() == 0) return;
        type(from, n);
        throw new Thrown(-2);
      }
      default -> {
        int to = flow(items.get(place)[0], number, f.loops, f.locals);
        if (to != FALL) f.place = to;
      }
    }
  }

  /** No jump: it goes on behind the item. */
  static final int FALL = Integer.MIN_VALUE;

  /** An item that the chip has, too: where it leads. */
  int flow(int kind, int number, int loopsBefore, int localsBefore) {
    Task t = hand();
    switch (kind) {
      case LIT:
        need(0, 1);
        push(number);
        return FALL;
      case JUMP:
        return number;
      case JUMP0:
        need(1, 0);
        return pop() == 0 ? number : FALL;
      case DO: case QDO:
        return beginLoop(kind, number);
      case LOOP:
        return loop(1, number, loopsBefore);
      case PLUS_LOOP:
        need(1, 0);
        return loop(pop(), number, loopsBefore);
      case LEAVE:
        if (t.loops.size() <= loopsBefore) throw new Thrown(-26);
        shorten(t.loops, t.loops.size() - 1);
        return number;
      case OF: {
        need(2, 0);
        int v = pop();
        if (v != data().get(data().size() - 1)) return number;
        pop();
        return FALL;
      }
      case ENTER: {
        int taken = number % 16;
        int all = number / 16;
        need(taken, 0);
        List<Integer> cells = new ArrayList<>(data().subList(data().size() - taken, data().size()));
        shorten(data(), data().size() - taken);
        if (t.locals.size() + all > 64) throw new Thrown(-5);
        while (cells.size() < all) cells.add(0);
        t.locals.addAll(cells);
        return FALL;
      }
      case GET:
        need(0, 1);
        if (localsBefore + number >= t.locals.size()) throw new Thrown(-9);
        push(t.locals.get(localsBefore + number));
        return FALL;
      default: {
        need(1, 0);
        int v = pop();
        if (localsBefore + number >= t.locals.size()) throw new Thrown(-9);
        t.locals.set(localsBefore + number, v);
        return FALL;
      }
    }
  }

  private int beginLoop(int kind, int number) {
    need(2, 0);
    int start = pop();
    int limit = pop();
    if (kind == QDO && start == limit) return number;
    if (hand().loops.size() >= 16) throw new Thrown(-7);
    hand().loops.add(new int[] {start, limit});
    return FALL;
  }

  private int loop(int by, int number, int loopsBefore) {
    List<int[]> loops = hand().loops;
    if (loops.size() <= loopsBefore) throw new Thrown(-26);
    int[] loop = loops.get(loops.size() - 1);
    long x = cut(bare((long) loop[0] - loop[1]) ^ (1L << (bits - 1)));
    if (x + by != cut(x + by)) {
      loops.remove(loops.size() - 1);
      return FALL;
    }
    loop[0] = cut((long) loop[0] + by);
    return number;
  }

  /** PUT, and TO and IS while interpreting. */
  void put(int token) {
    if (!isThere(token)) throw new Thrown(-9);
    Word w = words.get(token);
    if (w.kind != 4 && w.kind != 5) throw new Thrown(-9);
    need(1, 0);
    int v = pop();
    if (w.kind == 5 && !isThere(v)) throw new Thrown(-9);
    w.value = v;
  }

  void nest(char kind, int place, int length) {
    if (nested.size() >= 5) throw new Thrown(-5);
    open('T');
    nested.add(new Nested(kind, place, length, get(4)));
    lay(4, 0);
  }
}
