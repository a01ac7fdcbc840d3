/** Promises 13 to 17. */
public final class CountsTest {
  private static final Checks C = new Checks();
  private static final int[] NO_INDEX = {-1, 6, Integer.MIN_VALUE, Integer.MAX_VALUE};

  public static void main(String[] args) {
    openedCounts();
    globalTellsTheRow();
    eventsAreKeptUpToForty();
    stepsFollowTheHash();
    stepsGoTheLatestFirst();
    stepsGoThroughGlobalAndGroup();
    C.end();
  }

  private static void openedCounts() {
    BoundObjects x = Checks.withImages(1, 1);
    x.need(0, 1);
    for (int times = 1; times <= 20; times++) {
      x.open(0, false, false);
      C.due("opened(0)", x.opened(0), times);
    }
    C.due("a need is not opened", x.opened(1), 0);
    x.close(0);
    C.due("once less", x.opened(0), 19);
    for (int o : NO_INDEX) {
      C.due("opened(" + o + ")", x.opened(o), 0);
    }
  }

  private static void globalTellsTheRow() {
    BoundObjects x = Checks.withImages(1, 1, 1, 1, 1, 1);
    for (int o = 5; o >= 0; o--) {
      x.open(o, false, true);
    }
    C.dueGlobal("all six", x, 5, 4, 3, 2, 1, 0);
    for (int k : NO_INDEX) {
      C.due("global(" + k + ")", x.global(k), -1);
    }
  }

  private static void eventsAreKeptUpToForty() {
    BoundObjects x = Checks.withImages(1, 1, 1);
    x.need(0, 1);
    x.need(1, 2);
    for (int times = 1; times <= 6; times++) {
      x.open(0, false, false);
      C.due("events", x.events(), 6 * times - 3);
      x.close(0);
      C.due("events", x.events(), 6 * times);
    }
    C.dueThrow("event(36) of 36", Checks.NONE, () -> x.event(36));
    C.due("event(35) of 36", x.event(35), 2);
    x.open(0, false, false);
    x.close(0);
    x.open(2, false, false);
    C.due("events", x.events(), 43);
    int[] cycle = {2, 1, 0, -1, -2, -3};
    for (int k = 0; k < 40; k++) {
      C.due("event(" + k + ")", x.event(k), cycle[(42 - k) % 6]);
    }
    int[] none = {-1, 40, 41, Integer.MIN_VALUE, Integer.MAX_VALUE};
    for (int k : none) {
      C.dueThrow("event(" + k + ")", Checks.NONE, () -> x.event(k));
    }
  }

  /** Modulo 3 the codes are a 1, b 2, c 0, and 16 is 1: "ab" and "aaa" go with "c", "cb" and "zzzz" with "b". */
  private static void stepsFollowTheHash() {
    BoundObjects x = Checks.withImages(1);
    String[] names = {"ab", "a", "cb", "aaa", "b", "zzzz"};
    for (String name : names) {
      x.symbol(0, Checks.name(name), 0, false);
    }
    x.open(0, false, false);
    dueSteps(x, "aaa", 1);
    dueSteps(x, "ab", 2);
    dueSteps(x, "a", 1);
    dueSteps(x, "zzzz", 1);
    dueSteps(x, "b", 2);
    dueSteps(x, "cb", 3);
    dueSteps(x, "c", 2);
    dueSteps(x, "d", 1);
    dueSteps(x, "aa", 3);
  }

  private static void stepsGoTheLatestFirst() {
    BoundObjects x = Checks.withImages(1);
    x.symbol(0, 'a', 0, false);
    x.symbol(0, 'd', -1, false);
    x.symbol(0, 'g', 0, false);
    x.open(0, false, false);
    dueSteps(x, "g", 1);
    dueSteps(x, "d", 3);
    dueSteps(x, "a", 3);
  }

  private static void stepsGoThroughGlobalAndGroup() {
    BoundObjects x = Checks.withImages(1, 1, 1);
    x.symbol(0, 'a', 0, false);
    x.symbol(0, 'd', 0, false);
    x.symbol(1, 'g', 0, false);
    x.symbol(1, 'j', -1, true);
    x.symbol(2, 'j', 0, false);
    x.relocation(1, 1, 0, 1, 0);
    x.open(0, false, true);
    x.open(1, false, true);
    C.due("the global row, then the group: 0, 1, 1", x.steps(), 2 + 2 + 2);
    x.close(1);
    x.need(1, 2);
    x.open(1, false, false);
    C.due("0, then 1 and 2, where it is found", x.steps(), 6 + 2 + 2 + 1);
  }

  private static void dueSteps(BoundObjects x, String name, int want) {
    int before = x.steps();
    try {
      x.find(0, Checks.name(name));
    } catch (java.util.NoSuchElementException e) {
      // The steps are counted all the same.
    }
    C.due("steps for " + name, x.steps() - before, want);
  }
}
