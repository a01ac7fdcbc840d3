/** Promise 7, with the terms kept, used and ending. */
public final class CloseTest {
  private static final Checks C = new Checks();

  public static void main(String[] args) {
    endsWhenOpenNoMore();
    endsInTheOrderTurnedRound();
    needsKeep();
    aRingDoesNotKeepItself();
    usesKeep();
    aLongChainKeeps();
    usesEndWithTheUser();
    weakAndOwnNamesUseNothing();
    leavesTheGlobalRow();
    refusesWrongInputs();
    C.end();
  }

  private static void endsWhenOpenNoMore() {
    BoundObjects x = Checks.withImages(2);
    x.open(0, false, false);
    x.open(0, false, false);
    x.store(1, 8);
    C.due("still open", x.close(0), 0);
    C.due("base", x.base(0), 0);
    C.dueWords("still open", x, 0, 0, 8);
    C.due("not open", x.close(0), 1);
    C.due("base", x.base(0), -1);
    C.dueWords("where no image is", x, 0, 0, 0);
    C.due("store", x.store(1, 8), false);
    C.dueEvents("began and ended", x, 0, -1);
    x.image(0, 3);
  }

  private static void endsInTheOrderTurnedRound() {
    BoundObjects x = Checks.withImages(1, 1, 1, 1);
    x.need(0, 3);
    x.need(0, 1);
    x.need(0, 2);
    x.open(2, false, false);
    x.open(0, false, false);
    C.due("2 is kept by 0", x.close(2), 0);
    C.due("all", x.close(0), 4);
    C.dueEvents("over two openings", x, 2, 3, 1, 0, -1, -2, -4, -3);
  }

  private static void needsKeep() {
    BoundObjects x = Checks.withImages(1, 1, 1);
    x.need(0, 2);
    x.need(1, 2);
    x.open(0, false, false);
    x.open(1, false, false);
    C.due("0 alone", x.close(0), 1);
    C.dueBases("2 is needed by 1", x, -1, 2, 1);
    C.due("1 and 2", x.close(1), 2);
    C.dueEvents("2 began before 1", x, -1, -2, -3);
  }

  private static void aRingDoesNotKeepItself() {
    BoundObjects x = Checks.withImages(1, 1, 1);
    x.need(0, 1);
    x.need(1, 2);
    x.need(2, 0);
    x.open(1, false, false);
    C.due("the ring", x.close(1), 3);
    C.dueEvents("the ring", x, 0, 2, 1, -2, -3, -1);
  }

  private static void usesKeep() {
    BoundObjects x = Checks.withImages(2, 2, 2);
    x.need(0, 2);
    x.symbol(0, 'a', 0, false);
    x.symbol(1, 'a', -1, false);
    x.relocation(1, 1, 0, 0, 0);
    x.open(0, false, true);
    x.open(1, false, false);
    C.due("1 uses 0", x.close(0), 0);
    C.dueBases("0 and its need are kept", x, 0, 4, 2);
    C.dueGlobal("still global", x, 0, 2);
    C.dueThrow("open no more", Checks.STATE, () -> x.close(0));
    C.due("all", x.close(1), 3);
  }

  /** Each one uses the next lower one, so that the last keeps the first over five others. */
  private static void aLongChainKeeps() {
    BoundObjects x = Checks.withImages(1, 1, 1, 1, 1, 1);
    for (int o = 0; o < 6; o++) {
      x.symbol(o, 'a' + o, 0, false);
      if (o > 0) {
        x.symbol(o, 'a' + o - 1, -1, false);
        x.relocation(o, 1, 0, 1, 0);
      }
      x.open(o, false, true);
    }
    for (int o = 0; o < 5; o++) {
      C.due("close " + o, x.close(o), 0);
    }
    C.due("the whole chain", x.close(5), 6);
    C.dueEvents("the whole chain", x, -6, -5, -4, -3, -2, -1);
  }

  private static void usesEndWithTheUser() {
    BoundObjects x = Checks.withImages(2, 2);
    x.symbol(0, 'a', 0, false);
    x.symbol(1, 'a', -1, true);
    x.relocation(1, 2, 0, 0, 0);
    x.open(0, false, true);
    x.open(1, false, false);
    C.due("the user", x.close(1), 1);
    x.open(1, true, false);
    C.due("loaded anew it uses nothing", x.close(0), 1);
    C.due("and finds nothing", x.call(1, 0), 0);
  }

  private static void weakAndOwnNamesUseNothing() {
    BoundObjects x = Checks.withImages(2, 2);
    x.symbol(1, 'a', 1, false);
    x.symbol(1, 'b', -1, true);
    x.relocation(1, 1, 0, 0, 0);
    x.relocation(1, 2, 1, 1, 0);
    x.open(0, false, true);
    x.open(1, false, false);
    C.due("0 is not used", x.close(0), 1);
    C.due("1 does not keep itself", x.close(1), 1);
  }

  private static void leavesTheGlobalRow() {
    BoundObjects x = Checks.withImages(1, 1, 1);
    x.open(0, false, true);
    x.open(1, false, true);
    x.open(2, false, true);
    x.close(1);
    C.dueGlobal("the others close up", x, 0, 2);
    x.open(1, false, false);
    C.dueGlobal("not globally again", x, 0, 2);
    x.open(1, false, true);
    C.dueGlobal("globally again, behind", x, 0, 2, 1);
    x.close(1);
    C.dueGlobal("opened globally is no opening less", x, 0, 2, 1);
  }

  private static void refusesWrongInputs() {
    BoundObjects x = Checks.withImages(1, 1);
    x.need(0, 1);
    C.dueThrow("close(-1)", Checks.INDEX, () -> x.close(-1));
    C.dueThrow("close(6)", Checks.INDEX, () -> x.close(6));
    C.dueThrow("not loaded", Checks.STATE, () -> x.close(0));
    x.open(0, false, false);
    C.dueThrow("loaded, not open", Checks.STATE, () -> x.close(1));
    C.due("opened(1)", x.opened(1), 0);
    C.due("events", x.events(), 2);
  }
}
