/** The boundary cases of promise 7 and of the terms that closing uses; each method is one sentence's. */
public final class CloseEdgeTest {
  private static final Checks C = new Checks();

  public static void main(String[] args) {
    openOnceAndNoMore();
    openManyTimes();
    loadedButNotOpen();
    endsFromNoneToSix();
    twoNeedersKeepUntilTheLast();
    openAndNeededKeep();
    usedAddressZeroKeeps();
    aRingOfUsesDoesNotKeepItself();
    usesOfAllTheOthers();
    useOfOneThatNeedsTheUser();
    failingCallUsesNothing();
    endsAcrossOpeningsTurnedRound();
    globalRowFromFullToEmpty();
    endedOneIsAsNeverLoaded();
    C.end();
  }

  /** "IllegalStateException when it is not open". */
  private static void openOnceAndNoMore() {
    BoundObjects x = Checks.withImages(1);
    C.dueThrow("never open", Checks.STATE, () -> x.close(0));
    x.open(0, false, false);
    C.due("once", x.close(0), 1);
    C.dueThrow("once more", Checks.STATE, () -> x.close(0));
    C.due("opened", x.opened(0), 0);
    C.due("events", x.events(), 2);
  }

  private static void openManyTimes() {
    BoundObjects x = Checks.withImages(1);
    for (int times = 0; times < 150; times++) {
      x.open(0, false, false);
    }
    for (int left = 149; left > 0; left--) {
      C.due("close, " + left + " left", x.close(0), 0);
    }
    C.due("open once", x.opened(0), 1);
    C.due("the last", x.close(0), 1);
    C.dueThrow("one too many", Checks.STATE, () -> x.close(0));
  }

  private static void loadedButNotOpen() {
    BoundObjects x = Checks.withImages(1, 1);
    x.need(0, 1);
    x.open(0, false, false);
    C.dueThrow("a need", Checks.STATE, () -> x.close(1));
    x.open(1, false, false);
    C.due("now it is open", x.close(1), 0);
    C.dueThrow("and now not", Checks.STATE, () -> x.close(1));
    C.dueBases("both are loaded", x, 0, 1);
  }

  /** "how many objects ended". */
  private static void endsFromNoneToSix() {
    for (int many = 1; many <= 6; many++) {
      BoundObjects x = Checks.withImages(1, 1, 1, 1, 1, 1);
      for (int o = 0; o + 1 < many; o++) {
        x.need(o, o + 1);
      }
      x.open(0, false, true);
      x.open(0, false, true);
      C.due("none of " + many, x.close(0), 0);
      C.due("all of " + many, x.close(0), many);
      C.due("events", x.events(), 2 * many);
      C.due("the last to end began first", x.event(0), -many);
      C.dueGlobal("the row is empty", x);
    }
  }

  /** "An object is KEPT when .. one that is kept needs it". */
  private static void twoNeedersKeepUntilTheLast() {
    BoundObjects x = Checks.withImages(1, 1, 1);
    x.need(0, 2);
    x.need(1, 2);
    x.open(0, false, false);
    x.open(1, false, false);
    C.due("the one", x.close(1), 1);
    C.due("2 is kept", x.base(2), 1);
    C.due("the other", x.close(0), 2);
    C.due("2 is not", x.base(2), -1);
  }

  private static void openAndNeededKeep() {
    BoundObjects x = Checks.withImages(1, 1);
    x.need(0, 1);
    x.open(1, false, false);
    x.open(0, false, false);
    C.due("1 is open still", x.close(0), 1);
    C.due("now it is not", x.close(1), 1);
    C.dueEvents("apart", x, 1, 0, -1, -2);
  }

  /** "or uses it": by an address 0, too. */
  private static void usedAddressZeroKeeps() {
    BoundObjects x = Checks.withImages(1, 1);
    x.symbol(0, 'a', 0, false);
    x.symbol(1, 'a', -1, true);
    x.relocation(1, 2, 0, 0, 0);
    x.open(0, false, true);
    x.open(1, true, false);
    C.due("bound when called", x.call(1, 0), 0);
    C.due("0 is kept", x.close(0), 0);
    C.due("both", x.close(1), 2);
  }

  private static void aRingOfUsesDoesNotKeepItself() {
    BoundObjects x = Checks.withImages(1, 1);
    x.symbol(0, 'a', 0, false);
    x.symbol(0, 'b', -1, false);
    x.symbol(1, 'b', 0, false);
    x.symbol(1, 'a', -1, false);
    x.relocation(0, 2, 0, 1, 0);
    x.relocation(1, 2, 0, 1, 0);
    x.open(0, true, true);
    x.open(1, true, true);
    C.due("0 uses 1", x.call(0, 0), 1);
    C.due("1 uses 0", x.call(1, 0), 0);
    C.due("the one keeps the other", x.close(0), 0);
    C.due("nothing keeps both", x.close(1), 2);
  }

  /** One object may use none of the others up to all five, each one from its own binding on. */
  private static void usesOfAllTheOthers() {
    BoundObjects x = Checks.withImages(1, 1, 1, 1, 1, 5);
    for (int o = 0; o < 5; o++) {
      x.symbol(o, 'a' + o, 0, false);
      x.symbol(5, 'a' + o, -1, false);
      x.relocation(5, 2, o, o, 0);
      x.open(o, true, true);
    }
    x.open(5, true, false);
    for (int r = 0; r < 4; r++) {
      C.due("call", x.call(5, r), r);
    }
    C.due("4 is not used yet", x.close(4), 1);
    x.open(4, true, true);
    C.due("call", x.call(5, 4), 4);
    for (int o = 0; o < 5; o++) {
      C.due(o + " is used", x.close(o), 0);
    }
    C.due("all six", x.close(5), 6);
  }

  private static void useOfOneThatNeedsTheUser() {
    BoundObjects x = Checks.withImages(1, 1);
    x.need(0, 1);
    x.symbol(0, 'a', 0, false);
    x.symbol(1, 'a', -1, false);
    x.relocation(1, 1, 0, 0, 0);
    x.open(0, false, false);
    x.open(1, false, false);
    C.due("1 uses 0", x.close(0), 0);
    C.due("both", x.close(1), 2);
  }

  private static void failingCallUsesNothing() {
    BoundObjects x = Checks.withImages(1, 1);
    x.symbol(1, 'a', -1, false);
    x.relocation(1, 2, 0, 0, 0);
    x.open(0, true, true);
    x.open(1, true, false);
    C.dueThrow("found nowhere", Checks.NONE, () -> x.call(1, 0));
    C.due("0 is not used", x.close(0), 1);
  }

  /** "in the order turned round in which they began", not that of their numbers or bases. */
  private static void endsAcrossOpeningsTurnedRound() {
    BoundObjects x = Checks.withImages(1, 1, 1, 1, 1, 1);
    x.need(3, 5);
    x.need(3, 0);
    x.need(3, 2);
    x.need(2, 1);
    x.need(2, 4);
    x.open(4, false, false);
    x.open(0, false, false);
    x.open(1, false, false);
    x.close(0);
    x.open(3, false, false);
    C.dueEvents("began", x, 4, 0, 1, -1, 5, 0, 2, 3);
    x.close(4);
    x.close(1);
    C.due("all six", x.close(3), 6);
    C.dueEvents("turned round", x, -4, -3, -1, -6, -2, -5);
  }

  /** "then they are loaded no more, and are not in the global row". */
  private static void globalRowFromFullToEmpty() {
    BoundObjects x = Checks.withImages(1, 1, 1, 1, 1, 1);
    for (int o = 0; o < 6; o++) {
      x.open(o, false, true);
    }
    x.close(0);
    C.dueGlobal("without the first", x, 1, 2, 3, 4, 5);
    x.close(5);
    C.dueGlobal("without the last", x, 1, 2, 3, 4);
    x.close(2);
    C.dueGlobal("without one between", x, 1, 3, 4);
    x.open(5, false, true);
    C.dueGlobal("one again, behind", x, 1, 3, 4, 5);
    x.close(3);
    x.close(1);
    x.close(5);
    x.close(4);
    C.dueGlobal("empty", x);
  }

  private static void endedOneIsAsNeverLoaded() {
    BoundObjects x = Checks.withImages(2);
    x.symbol(0, 'a', 1, false);
    x.relocation(0, 2, 0, 0, 0);
    x.open(0, false, true);
    x.close(0);
    C.dueThrow("call", Checks.STATE, () -> x.call(0, 0));
    C.dueThrow("find", Checks.STATE, () -> x.find(0, 'a'));
    C.due("base", x.base(0), -1);
    C.dueWords("its words", x, 0, 0, 0);
    C.due("store", x.store(0, 1), false);
    C.due("what it has is not lost: symbol", x.symbol(0, 'b', 0, false), 1);
    C.due("what it has is not lost: relocation", x.relocation(0, 1, 1, 1, 3), 1);
    C.due("open", x.open(0, true, false), 1);
    C.dueWords("both relocations", x, 0, -1, 3);
  }
}
