import java.util.ArrayList;
import java.util.Arrays;
import java.util.HashMap;
import java.util.HashSet;
import java.util.List;
import java.util.Map;
import java.util.Set;
import java.util.TreeSet;

/** Effects, and what is made leaner, a second time. */
final class SecondEffects {
  private static final List<String> TWO =
      Arrays.asList("+ - * AND OR XOR = <> < > MIN MAX".split(" "));
  private static final List<String> ONE = Arrays.asList("NEGATE INVERT 0= 1+ 1- 2*".split(" "));
  private static final Set<String> GO = Set.of(
      "SWAP SWAP", "DUP DROP", "NEGATE NEGATE", "INVERT INVERT", ">R R>", "LIT DROP");

  /** A CONFLICT (0) or what is UNKNOWN (2), at an item. */
  private static final class Met extends RuntimeException {
    final int how, place;

    Met(int how, int place) {
      super(null, null, false, false);
      this.how = how;
      this.place = place;
    }
  }

  private final SecondSystem s;
  private final int token;
  private final Map<Integer, int[]> heights = new HashMap<>();
  private final TreeSet<Integer> waiting = new TreeSet<>();
  // IN and OUT of such items that do the definition itself; null: they end their ways.
  private final int[] self;
  private int lowest;
  private Integer end;
  private boolean selfMet;

  private SecondEffects(SecondSystem s, int token, int[] self) {
    this.s = s;
    this.token = token;
    this.self = self;
  }

  static void work(SecondSystem s, int token) {
    SecondSystem.Word w = s.words.get(token);
    try {
      SecondEffects first = new SecondEffects(s, token, null);
      int[] found = first.pass(w.value);
      if (first.selfMet && !Arrays.equals(found, new SecondEffects(s, token, found).pass(w.value))) {
        throw new Met(2, w.value);
      }
      w.effect = new int[] {1, found[0], found[1], SecondSystem.NONE};
    } catch (Met met) {
      w.effect = new int[] {met.how, 0, 0, met.place};
    }
  }

  private int[] pass(int first) {
    arrive(first, 0, 0, 0);
    while (!waiting.isEmpty()) look(waiting.pollFirst());
    if (end == null) throw new Met(2, first);
    return new int[] {-lowest, end - lowest};
  }

  private void arrive(int place, int data, int returns, int loops) {
    int[] height = {data, returns, loops};
    int[] has = heights.get(place);
    if (has == null) {
      heights.put(place, height);
      waiting.add(place);
    } else if (!Arrays.equals(has, height)) {
      throw new Met(0, place);
    }
  }

  /** An item takes so many cells. */
  private void take(int place, int n) {
    int left = heights.get(place)[0] - n;
    if (n != 0 && left < lowest) lowest = left;
  }

  private void goOn(int place, int takes, int leaves, int returns, int loops) {
    int[] at = heights.get(place);
    if (at[1] + returns < 0 || at[2] + loops < 0) throw new Met(0, place);
    take(place, takes);
    arrive(place + 1, at[0] - takes + leaves, at[1] + returns, at[2] + loops);
  }

  private void finish(int place) {
    int[] at = heights.get(place);
    if (at[1] != 0 || at[2] != 0 || end != null && end != at[0]) throw new Met(0, place);
    end = at[0];
  }

  private void look(int place) {
    int number = s.items.get(place)[1];
    int[] at = heights.get(place);
    switch (s.items.get(place)[0]) {
      case SecondSystem.WORD -> lookWord(place, number);
      case SecondSystem.LIT, SecondSystem.GET -> goOn(place, 0, 1, 0, 0);
      case SecondSystem.SET, SecondSystem.PUT -> goOn(place, 1, 0, 0, 0);
      case SecondSystem.ENTER -> goOn(place, number % 16, 0, 0, 0);
      case SecondSystem.ABORT -> goOn(place, 3, 0, 0, 0);
      case SecondSystem.DOES -> finish(place);
      case SecondSystem.COMPILE -> throw new Met(2, place);
      case SecondSystem.JUMP -> arrive(number, at[0], at[1], at[2]);
      case SecondSystem.JUMP0 -> {
        goOn(place, 1, 0, 0, 0);
        arrive(number, at[0] - 1, at[1], at[2]);
      }
      case SecondSystem.OF -> {
        goOn(place, 2, 0, 0, 0);
        arrive(number, at[0] - 1, at[1], at[2]);
      }
      case SecondSystem.DO -> goOn(place, 2, 0, 0, 1);
      case SecondSystem.QDO -> {
        goOn(place, 2, 0, 0, 1);
        arrive(number, at[0] - 2, at[1], at[2]);
      }
      case SecondSystem.LOOP -> {
        goOn(place, 0, 0, 0, -1);
        arrive(number, at[0], at[1], at[2]);
      }
      case SecondSystem.PLUS_LOOP -> {
        goOn(place, 1, 0, 0, -1);
        arrive(number, at[0] - 1, at[1], at[2]);
      }
      default -> {
        if (at[2] < 1) throw new Met(0, place);
        arrive(number, at[0], at[1], at[2] - 1);
      }
    }
  }

  private void lookWord(int place, int number) {
    if (number == token) {
      selfMet = true;
      if (self != null) goOn(place, self[0], self[1], 0, 0);
      return;
    }
    if (!s.isThere(number)) throw new Met(2, place);
    SecondSystem.Word w = s.words.get(number);
    switch (w.kind) {
      case 0 -> lookBuiltIn(place, SecondWords.ALL.get(number));
      case 2, 4, 7 -> goOn(place, 0, 1, 0, 0);
      case 1 -> {
        if (w.effect == null || w.effect[0] != 1) throw new Met(2, place);
        goOn(place, w.effect[1], w.effect[2], 0, 0);
      }
      default -> throw new Met(2, place);
    }
  }

  private void lookBuiltIn(int place, String name) {
    int[] at = heights.get(place);
    if (!SecondWords.TOLD.contains(name)) throw new Met(2, place);
    if (name.equals("EXIT")) {
      finish(place);
      return;
    }
    if (name.equals("ABORT") || name.equals("STOP")) return;
    boolean few = name.equals("R@") && at[1] < 1 || name.equals("I") && at[2] < 1
        || name.equals("J") && at[2] < 2;
    if (few) throw new Met(0, place);
    int returns = switch (name) {
      case ">R" -> 1;
      case "2>R" -> 2;
      case "R>" -> -1;
      case "2R>" -> -2;
      default -> 0;
    };
    int[] cells = SecondWords.CELLS.get(name);
    goOn(place, cells[0], cells[1], returns, name.equals("UNLOOP") ? -1 : 0);
  }

  // LEANER.

  static boolean mayLean(SecondSystem s, SecondSystem.Word w) {
    if (w.within || w.holds) return false;
    for (int i = w.value; i < w.value + w.size; i++) {
      if (s.items.get(i)[0] == SecondSystem.DOES) return false;
    }
    return true;
  }

  static int lean(SecondSystem s, SecondSystem.Word w) {
    int before = w.size;
    while (leanOnce(s, w)) continue;
    return before - w.size;
  }

  private static boolean jumps(int[] item) {
    int kind = item[0];
    return kind == 2 || kind == 3 || kind >= 5 && kind <= 9;
  }

  private static String nameOf(SecondSystem s, int place, int end) {
    if (place >= end) return "";
    int[] item = s.items.get(place);
    if (item[0] == SecondSystem.LIT) return "LIT";
    boolean builtIn = item[0] == SecondSystem.WORD && item[1] < SecondWords.ALL.size();
    return builtIn ? SecondWords.ALL.get(item[1]) : "";
  }

  private static boolean leanOnce(SecondSystem s, SecondSystem.Word w) {
    int end = w.value + w.size;
    Set<Integer> led = new HashSet<>();
    for (int i = w.value; i < end; i++) {
      if (jumps(s.items.get(i))) led.add(s.items.get(i)[1]);
    }
    for (int at = w.value; at < end; at++) {
      String a = nameOf(s, at, end);
      String b = led.contains(at + 1) ? "" : nameOf(s, at + 1, end);
      String c = led.contains(at + 2) || b.isEmpty() ? "" : nameOf(s, at + 2, end);
      int[] item = s.items.get(at);
      int goes = 0;
      if (a.equals("LIT") && b.equals("LIT") && TWO.contains(c)) {
        item[1] = two(s, c, item[1], s.items.get(at + 1)[1]);
        goes = -2;
      } else if (a.equals("LIT") && ONE.contains(b)) {
        item[1] = one(s, b, item[1]);
        goes = -1;
      } else if (GO.contains(a + " " + b)) {
        goes = 2;
      } else if (item[0] == SecondSystem.JUMP && item[1] == at + 1) {
        goes = 1;
      }
      if (goes == 0) continue;
      remove(s, w, goes < 0 ? at + 1 : at, Math.abs(goes));
      return true;
    }
    return false;
  }

  private static void remove(SecondSystem s, SecondSystem.Word w, int from, int n) {
    int end = w.value + w.size;
    List<int[]> moved = new ArrayList<>();
    for (int i = from + n; i < end; i++) moved.add(s.items.get(i).clone());
    for (int i = 0; i < moved.size(); i++) s.items.set(from + i, moved.get(i));
    w.size -= n;
    for (int i = w.value; i < end - n; i++) {
      int[] item = s.items.get(i);
      if (jumps(item) && item[1] >= from + n) item[1] -= n;
    }
  }

  private static int two(SecondSystem s, String name, long a, long b) {
    return switch (name) {
      case "+" -> s.cut(a + b);
      case "-" -> s.cut(a - b);
      case "*" -> s.cut(a * b);
      case "AND" -> s.cut(a & b);
      case "OR" -> s.cut(a | b);
      case "XOR" -> s.cut(a ^ b);
      case "=" -> a == b ? -1 : 0;
      case "<>" -> a != b ? -1 : 0;
      case "<" -> a < b ? -1 : 0;
      case ">" -> a > b ? -1 : 0;
      case "MIN" -> (int) Math.min(a, b);
      default -> (int) Math.max(a, b);
    };
  }

  private static int one(SecondSystem s, String name, long a) {
    return switch (name) {
      case "NEGATE" -> s.cut(-a);
      case "INVERT" -> s.cut(-1 - a);
      case "0=" -> a == 0 ? -1 : 0;
      case "1+" -> s.cut(a + 1);
      case "1-" -> s.cut(a - 1);
      default -> s.cut(a + a);
    };
  }
}
