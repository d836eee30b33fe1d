import java.lang.management.ManagementFactory;

/** What a run makes: an object makes its rows as it is made, and no call makes anything more. */
public final class RoomTest {
  private static final int CALLS = 512;
  private static final com.sun.management.ThreadMXBean COUNTER =
      (com.sun.management.ThreadMXBean) ManagementFactory.getThreadMXBean();
  private static final String[] TEXTS = {
    ": a 5 0 DO I . LOOP ; a", "VARIABLE b 7 b ! b @ .", ": c {: x y | z -- :} x y + ; 1 2 c .",
    "S\" 1 2 +\" EVALUATE DROP", ": d [: 1 THROW ;] CATCH ; d .", "MARKER e e", "' a TASK . PAUSE",
    "WORDLIST >ORDER DEFINITIONS ONLY", "T{ 1 -> 1 }T", "0 LOAD", "x", ": f BEGIN AGAIN ; f"};

  public static void main(String[] args) {
    construction();
    madeOnce();
    everyCall();
    Bench.exit();
  }

  /** Bytes that this thread has made so far. */
  private static long made() {
    return COUNTER.getThreadAllocatedBytes(Thread.currentThread().getId());
  }

  /** Every element has a byte at least, so so many bytes are a part of the room's 7.3 million. */
  private static void construction() {
    Bench b = new Bench("room, a new object");
    new ForthHouse();
    long before = made();
    new ForthHouse();
    b.due("less than a million bytes", made() - before < 1000000, true);
    b.end();
  }

  /** system, keep and again, as often as an object is used. */
  private static void madeOnce() {
    Bench b = new Bench("room, system and keep and again");
    systemsAndImages(new ForthHouse());
    ForthHouse house = new ForthHouse();
    long before = made();
    systemsAndImages(house);
    b.due("nothing is made", made() - before < 1000, true);
    b.end();
  }

  private static void systemsAndImages(ForthHouse house) {
    house.system(4, 0);
    house.keep(0, 0);
    house.again(1, 0);
    house.keep(1, 1);
    house.again(2, 1);
    for (int i = 5; i < CALLS; i++) {
      switch (i % 4) {
        case 0: house.system(2 + i % 3, i % 8); break;
        case 1: house.keep(i % 3, i % 2); break;
        case 2: house.again(i % 4, i % 2); break;
        default: house.same(i % 3, 2);
      }
    }
  }

  private static void everyCall() {
    Bench b = new Bench("room, every call");
    // A first run has the machine load what it needs.
    runs(new ForthHouse());
    ForthHouse house = new ForthHouse();
    long before = made();
    runs(house);
    b.due("nothing is made", made() - before < 1000, true);
    b.end();
  }

  private static void runs(ForthHouse house) {
    house.system(4, 0);
    house.keep(0, 0);
    house.again(1, 0);
    for (int i = 0; i < TEXTS.length; i++) {
      typeText(house, TEXTS[i]);
      if (house.evaluate(0, 500) == 1) house.go(0, 20000);
      typeText(house, "a");
      int token = house.find(0);
      house.effect(0, token);
      house.effectOf(0, token, 0);
      house.chip(0, token);
      house.chipPut(i);
      house.chipGo(100);
      tellAll(house, token);
      house.keep(0, i % 2);
      house.again(i % 3, i % 2);
      house.same(0, 1);
      house.lean(0, token);
      typeText(house, "1 2 +");
      house.put(0, 0, i);
      house.wipe();
    }
  }

  private static void tellAll(ForthHouse house, int token) {
    house.out(0, 0);
    house.count(0, 1);
    house.thrown(0, 0);
    house.depth(0, 0, 0);
    house.cell(0, 0, 0, 0);
    house.task(0, 1);
    house.fetch(0, 0, 0);
    house.word(0, token, 3);
    house.name(0, token, 0);
    house.item(0, 0, 0);
    house.chipWord(0);
    house.chipTold(6);
    house.chipCell(0);
    house.chipByte(0);
  }

  private static void typeText(ForthHouse house, String text) {
    for (int i = 0; i < text.length(); i += 4) {
      int n = Math.min(4, text.length() - i);
      long bytes = 0;
      for (int k = n - 1; k >= 0; k--) bytes = bytes << 8 | text.charAt(i + k);
      house.type(bytes, n);
    }
  }
}
