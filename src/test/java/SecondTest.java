import java.util.ArrayList;
import java.util.List;
import java.util.Random;

/** ForthHouse held against a second reading of the document (Second): runs made up, and each word in each place. */
public final class SecondTest {
  private static final String[] CELLS_BEFORE = {"", "1 ", "1 2 ", "260 3 2 ", "1 2 300 260 2 ", "3 172 ", "fill ", "fill 1 "};
  // What stands behind a word: something for each that reads.
  private static final String[] BEHIND = {"b 7 ) 8 \" 9 :} 10 ", "e 7 ) 8 \" 9 :} 10 \n 11 ", "nosuch ", ""};

  private final Bench bench;
  private final String run;
  private final ForthHouse house = new ForthHouse();
  private final Second second = new Second();
  // The calls so far, for who looks for what went wrong.
  private final StringBuilder calls = new StringBuilder();
  private boolean wrong;

  private SecondTest(Bench bench, String run) {
    this.bench = bench;
    this.run = run;
  }

  public static void main(String[] args) {
    int runs = args.length > 0 ? Integer.parseInt(args[0]) : 4000;
    long first = args.length > 1 ? Long.parseLong(args[1]) : 1;
    int systems = args.length > 2 ? Integer.parseInt(args[2]) : 1;
    madeUp(runs, first);
    everyWord(systems);
    Bench.exit();
  }

  private static void madeUp(int runs, long first) {
    Bench bench = new Bench("a second reading answers the same, runs made up");
    for (long i = first; i < first + runs; i++) new SecondTest(bench, "run " + i).calls(new SecondTexts(new Random(i)));
    bench.end();
  }

  /** Each word, in each place, over each number of cells; systems of all cells and choices by turns. */
  private static void everyWord(int systems) {
    Bench bench = new Bench("a second reading answers the same, each word in each place");
    int turn = 0;
    for (String word : SecondWords.ALL) {
      for (int place = 0; place < 16; place++) {
        for (String before : CELLS_BEFORE) {
          for (int i = 0; i < systems; i++) {
            turn++;
            SecondTest test = new SecondTest(bench, word + " in place " + place + " over " + before);
            test.wordIn(word, place, before, BEHIND[turn / 5 % 4], turn);
          }
        }
      }
    }
    bench.end();
  }

  // Calls of both.

  private void due(String call, long got, long want) {
    calls.append(call).append(" -> ").append(want).append('\n');
    if (got == want || wrong) return;
    wrong = true;
    bench.due(run + "\n" + calls, got, want);
  }

  private void type(String text) {
    for (int i = 0; i < text.length(); i++) {
      house.type(text.charAt(i), 1);
      second.type(text.charAt(i), 1);
    }
    calls.append("TAPE ").append(text).append('\n');
  }

  private int system(int cell, int choices) {
    int answer = second.system(cell, choices);
    due("system " + cell + " " + choices, house.system(cell, choices), answer);
    return answer;
  }

  private void evaluate(int system, String text, int steps) {
    type(text);
    due("evaluate " + system + " " + steps, house.evaluate(system, steps), second.evaluate(system, steps));
    tell(system);
  }

  private void go(int system, int steps) {
    due("go " + system + " " + steps, house.go(system, steps), second.go(system, steps));
    tell(system);
  }

  private void tell(int system) {
    if (system >= second.systems.size()) return;
    alike("system " + system, told(house, system), second.tell(system));
  }

  private void tellChip() {
    alike("the chip", toldChip(house), second.tellChip());
  }

  private void alike(String what, List<Integer> got, List<Integer> want) {
    if (got.equals(want) || wrong) return;
    int i = 0;
    while (i < got.size() && i < want.size() && got.get(i).equals(want.get(i))) i++;
    due(what + ", number " + i + " told of " + want.size(), i < got.size() ? got.get(i) : -999,
        i < want.size() ? want.get(i) : -999);
    wrong = true;
  }

  // Runs made up.

  private void calls(SecondTexts texts) {
    int mode = texts.next(5);
    system(2 + texts.next(3), texts.next(8));
    if (texts.next(7) > 0) evaluate(0, texts.pick(SecondTexts.BEFORE), 2000);
    for (int i = 2 + texts.next(11); i > 0; i--) call(texts, mode);
    for (int i = 0; i < second.systems.size(); i++) tell(i);
  }

  private void call(SecondTexts texts, int mode) {
    int count = second.systems.size();
    int on = texts.next(4) > 0 ? 0 : texts.next(count);
    SecondSystem s = second.systems.get(on);
    int kind = texts.next(100);
    if (kind < 55) {
      boolean more = s.main != null && texts.next(20) > 0;
      if (more) go(on, texts.pick(1, 2, 3, 7, 20, 100, 800));
      else evaluate(on, texts.text(s, mode), texts.pick(1, 2, 5, 20, 60, 100, 300, 1000, mode == 1 ? 4000 : 500));
    } else if (kind < 62) {
      String text = texts.text(s, mode);
      type(text.substring(0, Math.min(text.length(), texts.pick(20, 64, 200, 512))));
      int block = texts.pick(0, 1, 2, 7, 8, -1, 3);
      int from = texts.pick(0, 0, 0, 64, 63, 300, 512, -1);
      due("put " + on + " " + block + " " + from, house.put(on, block, from), second.put(on, block, from));
    } else if (kind < 66) {
      int image = texts.pick(0, 1, 0, 2);
      due("keep " + on + " " + image, house.keep(on, image), second.keep(on, image));
    } else if (kind < 71) {
      int to = texts.next(4);
      int image = texts.next(2);
      due("again " + to + " " + image, house.again(to, image), second.again(to, image));
      tell(to);
    } else if (kind < 74) {
      same(texts.next(4) - 1, texts.next(4));
    } else if (kind < 77) {
      twins(texts, on, mode);
    } else if (kind < 81) {
      type(texts.pick(texts.name(), "DUP", "dup", "T{", ""));
      due("find " + on, house.find(on), second.find(on));
    } else if (kind < 87) {
      int token = 172 + texts.next(Math.max(1, s.words.size() - 171));
      due("lean " + on + " " + token, house.lean(on, token), second.lean(on, token));
      tell(on);
    } else if (kind < 97) {
      chip(texts, on, s);
    } else {
      system(2 + texts.next(3), texts.next(8));
    }
  }

  private void same(int a, int b) {
    due("same " + a + " " + b, house.same(a, b) ? 1 : 0, second.same(a, b) ? 1 : 0);
  }

  /** A system becomes what another one is; each goes on a little, much alike; then: are they the same? */
  private void twins(SecondTexts texts, int on, int mode) {
    int twin = (on + 1) % Math.min(3, second.systems.size() + 1);
    due("keep " + on, house.keep(on, 0), second.keep(on, 0));
    due("again " + twin, house.again(twin, 0), second.again(twin, 0));
    same(on, twin);
    int steps = texts.pick(1, 2, 5, 20, 100);
    String text = texts.pick(texts.text(second.systems.get(on), mode), "S\" PAUSE \" EVALUATE ", "PAUSE S\" PAUSE \" 2DROP ");
    boolean more = second.systems.get(on).main != null;
    if (more) go(on, steps);
    else evaluate(on, text, steps);
    same(twin, on);
    steps += texts.pick(0, 0, 0, 1);
    if (more) go(twin, steps);
    else evaluate(twin, texts.pick(text, text, text + " ", "S\" PAUSE \" EVALUATE \0\0\0", text.replace('1', '2')), steps);
    same(on, twin);
  }

  private void chip(SecondTexts texts, int on, SecondSystem s) {
    List<Integer> tokens = new ArrayList<>(List.of(171 + texts.next(5)));
    for (int t = 172; t < s.words.size(); t++) {
      if (s.words.get(t).kind == 1) tokens.add(t);
    }
    int token = tokens.get(texts.next(tokens.size()));
    due("chip " + on + " " + token, house.chip(on, token), second.chip(on, token));
    for (int i = texts.next(7); i > 0; i--) {
      int v = texts.pick(0, 1, 2, 3, -1, 5, 128, 256, 70000);
      due("chipPut " + v, house.chipPut(v), second.chipPut(v));
    }
    for (int i = 0; i < 2; i++) {
      int steps = texts.pick(1, 3, 10, 50, 300);
      due("chipGo " + steps, house.chipGo(steps), second.chipGo(steps));
      tellChip();
    }
  }

  // Each word in each place.

  private void wordIn(String word, int place, String before, String behind, int turn) {
    system(2 + turn % 3, turn / 3 % 8);
    evaluate(0, ": b 1+ ; 5 VALUE e DEFER f : p, PAUSE ; IMMEDIATE : fill 64 DEPTH - 0 ?DO 2 LOOP ; ", 2000);
    String here = word + " " + behind;
    String taken = "[ ' " + word + " ] LITERAL ";
    switch (place) {
      case 0 -> evaluate(0, before + here, 600);
      case 1 -> evaluate(0, before + "' " + word + " EXECUTE " + behind, 600);
      case 2 -> evaluate(0, before + "' " + word + " CATCH " + behind, 600);
      case 3 -> evaluate(0, ": (t) " + here, 600);
      case 4 -> evaluate(0, ": (t) " + taken + "EXECUTE ; " + before + "(t) " + behind, 600);
      case 5 -> evaluate(0, ": (t) {: x :} 3 0 DO 5 >R 2 0 ?DO " + before + taken + "CATCH LOOP R> LOOP ; 1 (t) " + behind, 600);
      case 6 -> evaluate(0, ": (t) POSTPONE " + word + " ; " + before + "(t) " + behind, 600);
      case 7 -> evaluate(0, ": (t) POSTPONE " + word + " ; IMMEDIATE " + before + ": (u) IF BEGIN (t) " + behind, 600);
      case 8 -> evaluate(0, "' " + word + " TASK DROP PAUSE PAUSE 1 2 PAUSE " + behind, 600);
      case 9 -> evaluate(0, ": (t) " + before + taken + "CATCH PAUSE 5 ; ' (t) TASK DROP PAUSE PAUSE " + behind, 600);
      case 10 -> evaluate(0, ": (t) 1 2 PAUSE " + taken + "EXECUTE ; ' (t) TASK DROP PAUSE : (u) p, DO p, p, " + behind, 600);
      case 11 -> {
        type(before + here);
        due("put", house.put(0, 3, 70), second.put(0, 3, 70));
        evaluate(0, "3 LOAD 77 ", 600);
      }
      case 12 -> evaluate(0, before + "S\" " + here.replace("\"", "") + "\" EVALUATE 77 ", 600);
      case 13 -> {
        type(": (t) {: x y :} " + here);
        due("put", house.put(0, 0, 0), second.put(0, 0, 0));
        evaluate(0, before + "0 LOAD x TO y ; ", 600);
      }
      case 14 -> evaluate(0, ":NONAME [ " + before + "] " + here, 600);
      default -> evaluate(0, ": (t) " + word + " ; : (u) [: (t) ;] CATCH ; " + before + "(u) " + behind, 600);
    }
    go(0, 50);
  }

  // All that can be told of a system, and of the chip, as Second tells it.

  private static List<Integer> told(ForthHouse h, int s) {
    List<Integer> all = new ArrayList<>();
    for (int i = 0; i < 16; i++) all.add(h.count(s, i));
    for (int i = 0; i < 3; i++) all.add(h.thrown(s, i));
    for (int t = 0; t < 4; t++) toldTask(all, h, s, t);
    for (int token = 172; token < h.count(s, 1); token++) {
      for (int i = 0; i < 8; i++) all.add(h.word(s, token, i));
      for (int i = 0; i < h.word(s, token, 6); i++) all.add(h.name(s, token, i));
      all.add(h.effect(s, token));
      for (int i = 0; i < 3; i++) all.add(h.effectOf(s, token, i));
    }
    for (int i = 0; i < h.count(s, 2); i++) {
      all.add(h.item(s, i, 0));
      all.add(h.item(s, i, 1));
    }
    for (int i = 0; h.out(s, i) >= 0; i++) all.add(h.out(s, i));
    for (int i = 0; i < 4096; i++) all.add(h.fetch(s, i, 1));
    all.add(h.fetch(s, 0, 0));
    all.add(h.fetch(s, 4, 0));
    return all;
  }

  private static void toldTask(List<Integer> all, ForthHouse h, int s, int t) {
    all.add(h.task(s, t));
    for (int row = 0; row < 6; row++) all.add(h.depth(s, t, row));
    for (int row : new int[] {0, 1, 2, 3, 5}) {
      int n = h.depth(s, t, row) * (row == 2 ? 2 : 1);
      for (int i = 0; i < n; i++) all.add(h.cell(s, t, row, i));
    }
  }

  private static List<Integer> toldChip(ForthHouse h) {
    List<Integer> all = new ArrayList<>();
    for (int i = 0; i < 8; i++) all.add(h.chipTold(i));
    for (int i = 0; i < h.chipTold(6); i++) all.add(h.chipWord(i));
    for (int i = 0; i < h.chipTold(1); i++) all.add(h.chipCell(i));
    for (int i = 0; i < 4096 && h.chipByte(i) != -1; i++) all.add(h.chipByte(i));
    return all;
  }
}
