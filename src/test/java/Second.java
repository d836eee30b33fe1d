import java.util.ArrayList;
import java.util.Arrays;
import java.util.List;

/** The house, read a second time from the document alone: its calls answer as ForthHouse should. */
final class Second {
  static final int NONE = -1, BAD = -2, STATE = -3, FULL = -4;
  private static final int CHIP_KIND = 16777216;

  private byte[] tape = new byte[0];
  final List<SecondSystem> systems = new ArrayList<>();
  private final SecondSystem[] images = new SecondSystem[2];

  // The chip: a system of its own that steps with task 0's rows; null: there is none.
  SecondSystem chip;
  private int[] chipWords;
  private int chipPlace, chipFault, chipDone;
  private boolean chipEnded;

  private SecondSystem at(int system) {
    return system < 0 || system >= systems.size() ? null : systems.get(system);
  }

  private static boolean stepsGood(int steps) {
    return steps >= 1 && steps <= 20000;
  }

  private byte[] takeTape() {
    byte[] had = tape;
    tape = new byte[0];
    return had;
  }

  int type(long bytes, int n) {
    if (n < 1 || n > 8) return BAD;
    if (tape.length + n > 1024) return FULL;
    tape = Arrays.copyOf(tape, tape.length + n);
    for (int i = n; i > 0; i--) tape[tape.length - i] = (byte) (bytes >> (8 * (n - i)));
    return tape.length;
  }

  int wipe() {
    return takeTape().length;
  }

  int system(int cell, int choices) {
    if (cell < 2 || cell > 4 || choices < 0 || choices > 7) return BAD;
    if (systems.size() == 3) return FULL;
    systems.add(new SecondSystem(cell, choices));
    return systems.size() - 1;
  }

  int evaluate(int system, int steps) {
    byte[] text = takeTape();
    SecondSystem s = at(system);
    if (s == null || !stepsGood(steps)) return BAD;
    if (s.main != null) return STATE;
    s.main = text;
    s.lay(4, 0);
    return s.run(steps);
  }

  int go(int system, int steps) {
    SecondSystem s = at(system);
    if (s == null || !stepsGood(steps)) return BAD;
    return s.main == null ? STATE : s.run(steps);
  }

  int find(int system) {
    byte[] name = takeTape();
    return at(system) == null ? BAD : at(system).find(name);
  }

  int put(int system, int block, int from) {
    byte[] bytes = takeTape();
    if (at(system) == null || block < 0 || block > 7) return BAD;
    if (from < 0 || (long) from + bytes.length > 512) return BAD;
    System.arraycopy(bytes, 0, at(system).blocks[block], from, bytes.length);
    return bytes.length;
  }

  int keep(int system, int image) {
    if (at(system) == null || image < 0 || image > 1) return BAD;
    images[image] = at(system).copy();
    return 1;
  }

  int again(int system, int image) {
    if (system < 0 || system > systems.size() || image < 0 || image > 1) return BAD;
    if (images[image] == null) return NONE;
    if (system == 3) return FULL;
    if (system == systems.size()) systems.add(null);
    systems.set(system, images[image].copy());
    return system;
  }

  boolean same(int a, int b) {
    return at(a) != null && at(b) != null && at(a).all().equals(at(b).all());
  }

  private static boolean ended(SecondSystem s, int token) {
    return s != null && s.isThere(token) && s.words.get(token).kind == 1 && !s.words.get(token).hidden;
  }

  int lean(int system, int token) {
    SecondSystem s = at(system);
    if (!ended(s, token) || !SecondEffects.mayLean(s, s.words.get(token))) return BAD;
    if (s.main != null || !s.makings.isEmpty() || !s.othersEnded()) return STATE;
    return SecondEffects.lean(s, s.words.get(token));
  }

  // The chip.

  int chip(int system, int token) {
    SecondSystem s = at(system);
    if (!ended(s, token)) return BAD;
    chip = null;
    List<Integer> met = new ArrayList<>(List.of(token));
    int[] starts = new int[360];
    int[] places = new int[4000];
    int size = 0;
    for (int q = 0; q < met.size(); q++) {
      SecondSystem.Word w = s.words.get(met.get(q));
      if (w.hidden || w.within || w.holds) return 0;
      starts[met.get(q)] = size;
      for (int i = w.value; i < w.value + w.size; i++) {
        places[i] = size;
        int width = width(s, s.items.get(i), met);
        if (width == 0) return 0;
        size += width;
      }
    }
    if (size > 2000) return 0;
    chipWords = new int[size];
    int to = 0;
    for (int t : met) {
      SecondSystem.Word w = s.words.get(t);
      for (int i = w.value; i < w.value + w.size; i++) to = layItem(s, s.items.get(i), to, starts, places);
    }
    chip = new SecondSystem(s.cell, s.choices);
    chip.space = s.space.clone();
    chipPlace = 0;
    chipFault = 0;
    chipDone = 0;
    chipEnded = false;
    return size;
  }

  /** How many chip words an item comes to; 0: it can not be made. */
  private static int width(SecondSystem s, int[] item, List<Integer> met) {
    switch (item[0]) {
      case SecondSystem.DOES: case SecondSystem.PUT: case SecondSystem.COMPILE: case SecondSystem.ABORT:
        return 0;
      case SecondSystem.LIT:
        return 2;
      case SecondSystem.WORD:
        break;
      default:
        return 1;
    }
    if (!s.isThere(item[1])) return 0;
    SecondSystem.Word w = s.words.get(item[1]);
    if (w.kind == 0) return SecondWords.ON_CHIP.contains(SecondWords.ALL.get(item[1])) ? 1 : 0;
    if (w.kind == 1 && !met.contains(item[1])) met.add(item[1]);
    if (w.kind == 1) return 1;
    return w.kind == 2 || w.kind == 7 || w.kind == 3 && w.does == SecondSystem.NONE ? 2 : 0;
  }

  private int layItem(SecondSystem s, int[] item, int to, int[] starts, int[] places) {
    int kind = item[0];
    if (kind == SecondSystem.LIT) {
      chipWords[to] = CHIP_KIND;
      chipWords[to + 1] = item[1];
      return to + 2;
    }
    if (kind != SecondSystem.WORD) {
      boolean jumps = kind == 2 || kind == 3 || kind >= 5 && kind <= 9;
      chipWords[to] = kind * CHIP_KIND + (jumps ? places[item[1]] : item[1]);
      return to + 1;
    }
    SecondSystem.Word w = s.words.get(item[1]);
    if (w.kind > 1) {
      chipWords[to] = CHIP_KIND;
      chipWords[to + 1] = w.value;
      return to + 2;
    }
    chipWords[to] = w.kind == 0 ? item[1] : 17 * CHIP_KIND + starts[item[1]];
    return to + 1;
  }

  int chipPut(int v) {
    if (chip == null || chipEnded || chipFault != 0) return STATE;
    if (chip.data().size() >= 64) return FULL;
    chip.push(v);
    return chip.data().size();
  }

  int chipGo(int steps) {
    if (!stepsGood(steps)) return BAD;
    if (chip == null) return STATE;
    for (int i = 0; i < steps && !chipEnded && chipFault == 0; i++) {
      chipDone++;
      try {
        chipPlace = chipStep(chipPlace);
      } catch (SecondSystem.Thrown t) {
        chipFault = t.code;
      }
    }
    return chipFault != 0 ? -2 : chipEnded ? 0 : 1;
  }

  /** Does the chip word at a place: where it goes on. */
  private int chipStep(int place) {
    SecondSystem.Task t = chip.hand();
    int kind = chipWords[place] / CHIP_KIND;
    int number = chipWords[place] % CHIP_KIND;
    if (kind == 17) {
      // A frame of the chip keeps where it goes on behind the definition.
      chip.enter(place + 1);
      return number;
    }
    if (kind == SecondSystem.WORD) {
      String name = SecondWords.ALL.get(number);
      if (!name.equals("EXIT")) {
        SecondWords.perform(chip, name);
        return place + 1;
      }
      if (t.frames.isEmpty()) return endChip(t, place);
      int back = chip.top().place;
      chip.exit();
      return back;
    }
    int loops = t.frames.isEmpty() ? 0 : chip.top().loops;
    int locals = t.frames.isEmpty() ? 0 : chip.top().locals;
    int to = chip.flow(kind, kind == SecondSystem.LIT ? chipWords[place + 1] : number, loops, locals);
    if (to != SecondSystem.FALL) return to;
    return kind == SecondSystem.LIT ? place + 2 : place + 1;
  }

  private int endChip(SecondSystem.Task t, int place) {
    if (!t.returns.isEmpty()) throw new SecondSystem.Thrown(-25);
    if (!t.loops.isEmpty()) throw new SecondSystem.Thrown(-26);
    chipEnded = true;
    return place;
  }

  // All that can be told, as numbers (but of words that are there at first).

  List<Integer> tell(int system) {
    SecondSystem s = systems.get(system);
    List<Integer> all = new ArrayList<>();
    add(all, s.here, s.words.size(), s.items.size(), (int) s.outTotal, s.steps, s.compiling ? 1 : 0,
        s.lists, s.order.size(), s.current, s.at, s.good, s.bad, s.main == null ? 0 : 1, s.latest,
        s.control.size(), s.nested.size());
    add(all, s.thrown);
    for (SecondSystem.Task t : s.tasks) tellTask(all, t);
    for (int token = SecondWords.ALL.size(); token < s.words.size(); token++) {
      SecondSystem.Word w = s.words.get(token);
      add(all, w.told());
      for (byte b : w.name) all.add(b & 255);
      if (ended(s, token)) add(all, w.effect);
      else add(all, BAD, BAD, BAD, BAD);
    }
    for (int[] item : s.items) add(all, item);
    for (int i = 0; i < Math.min(3000, s.outTotal); i++) all.add(s.out[i] & 255);
    for (byte b : s.space) all.add(b & 255);
    add(all, s.get(0), s.get(4));
    return all;
  }

  private static void add(List<Integer> all, int... more) {
    for (int v : more) all.add(v);
  }

  private static void tellTask(List<Integer> all, SecondSystem.Task t) {
    add(all, t.state == 3 ? 3 - 16 * t.code : t.state, t.data.size(), t.returns.size(), t.loops.size(),
        t.locals.size(), t.frames.size(), t.box.size());
    for (int i = t.data.size() - 1; i >= 0; i--) all.add(t.data.get(i));
    for (int i = t.returns.size() - 1; i >= 0; i--) all.add(t.returns.get(i));
    for (int i = t.loops.size() - 1; i >= 0; i--) add(all, t.loops.get(i));
    all.addAll(t.locals);
    all.addAll(t.box);
  }

  List<Integer> tellChip() {
    List<Integer> all = new ArrayList<>();
    if (chip == null) {
      add(all, 0, 0, 0, 0, 0, 0, 0, 0);
      return all;
    }
    SecondSystem.Task t = chip.hand();
    add(all, chipPlace, t.data.size(), t.returns.size(), t.loops.size(), chipFault, chipDone,
        chipWords.length, t.frames.size());
    add(all, chipWords);
    for (int i = t.data.size() - 1; i >= 0; i--) all.add(t.data.get(i));
    for (byte b : chip.space) all.add(b & 255);
    return all;
  }
}
