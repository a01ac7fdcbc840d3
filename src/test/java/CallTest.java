/** Promise 8. */
public final class CallTest {
  private static final Checks C = new Checks();

  public static void main(String[] args) {
    bindsWhenItIsCalled();
    looksAtTheWordAlone();
    looksUpAsThingsAreNow();
    usesWhatItFinds();
    failsWithoutAChange();
    refusesWrongInputs();
    C.end();
  }

  private static void bindsWhenItIsCalled() {
    BoundObjects x = Checks.withImages(3, 3);
    x.need(0, 1);
    x.symbol(0, 'a', -1, false);
    x.symbol(1, 'a', 2, false);
    x.relocation(0, 0, 0, 0, 0);
    x.relocation(0, 2, 1, 0, 900);
    x.open(0, true, false);
    C.dueWords("before", x, 0, 0, -2, 0);
    C.due("no steps before", x.steps(), 0);
    C.due("call", x.call(0, 1), 5);
    C.dueWords("behind", x, 0, 0, 5, 0);
    C.due("steps of one look up", x.steps(), 2);
    C.due("call again", x.call(0, 1), 5);
    C.due("no steps again", x.steps(), 2);
  }

  private static void looksAtTheWordAlone() {
    BoundObjects x = Checks.withImages(3);
    x.symbol(0, 'a', 2, false);
    x.relocation(0, 2, 0, 0, 0);
    x.relocation(0, 2, 1, 0, 0);
    x.open(0, false, false);
    C.due("bound at once", x.call(0, 1), 2);
    x.store(1, -1);
    C.due("-1 belongs to another relocation", x.call(0, 1), -1);
    x.store(1, -2);
    C.due("-2 is resolved anew", x.call(0, 1), 2);
    x.store(0, 1234);
    C.due("what was stored", x.call(0, 0), 1234);
  }

  private static void looksUpAsThingsAreNow() {
    BoundObjects x = Checks.withImages(2, 2);
    x.symbol(0, 'a', 1, false);
    x.relocation(0, 2, 0, 0, 0);
    x.symbol(1, 'a', 0, false);
    x.open(1, false, false);
    x.open(0, true, false);
    C.due("its own, as 1 is not global", x.call(0, 0), 3);
    x.store(2, -1);
    x.open(1, false, true);
    C.due("the global one", x.call(0, 0), 0);
  }

  private static void usesWhatItFinds() {
    BoundObjects x = Checks.withImages(2, 2);
    x.symbol(0, 'a', 1, false);
    x.symbol(1, 'a', -1, false);
    x.relocation(1, 2, 0, 0, 0);
    x.open(0, false, true);
    x.open(1, true, false);
    x.call(1, 0);
    C.due("1 uses 0 now", x.close(0), 0);
    C.due("both", x.close(1), 2);
  }

  private static void failsWithoutAChange() {
    BoundObjects x = Checks.withImages(2);
    x.symbol(0, 'a', -1, false);
    x.symbol(0, 'b', -1, true);
    x.relocation(0, 2, 0, 0, 0);
    x.relocation(0, 2, 1, 1, 0);
    x.open(0, true, false);
    C.dueThrow("found nowhere", Checks.NONE, () -> x.call(0, 0));
    C.dueWords("found nowhere", x, 0, -1, -2);
    C.due("the steps are counted", x.steps(), 1);
    C.due("weak", x.call(0, 1), 0);
    C.dueWords("weak", x, 0, -1, 0);
    C.due("steps", x.steps(), 2);
  }

  private static void refusesWrongInputs() {
    BoundObjects x = Checks.withImages(2);
    x.symbol(0, 'a', 0, false);
    x.relocation(0, 0, 0, 0, -1);
    x.relocation(0, 1, 0, 0, 0);
    x.relocation(0, 2, 1, 0, 0);
    C.dueThrow("object -1", Checks.INDEX, () -> x.call(-1, 0));
    C.dueThrow("object 6", Checks.INDEX, () -> x.call(6, 0));
    C.dueThrow("relocation -1", Checks.INDEX, () -> x.call(0, -1));
    C.dueThrow("relocation 3 of 3", Checks.INDEX, () -> x.call(0, 3));
    C.dueThrow("object without relocations", Checks.INDEX, () -> x.call(1, 0));
    C.dueThrow("relative, not loaded", Checks.ARGUMENT, () -> x.call(0, 0));
    C.dueThrow("absolute, not loaded", Checks.ARGUMENT, () -> x.call(0, 1));
    C.dueThrow("slot, not loaded", Checks.STATE, () -> x.call(0, 2));
    x.open(0, true, false);
    C.dueThrow("relative", Checks.ARGUMENT, () -> x.call(0, 0));
    C.dueThrow("absolute", Checks.ARGUMENT, () -> x.call(0, 1));
    C.due("slot", x.call(0, 2), 0);
  }
}
