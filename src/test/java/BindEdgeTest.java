/** The boundary cases of promises 8 and 9 and of looking up; each method is one sentence's. */
public final class BindEdgeTest {
  private static final Checks C = new Checks();
  private static final int LEAST = Integer.MIN_VALUE;
  private static final int MOST = Integer.MAX_VALUE;

  public static void main(String[] args) {
    numbersOfRelocations();
    onlySlotsAreCalled();
    calledWhenNotLoaded();
    wordsBesideTheUnbound();
    oneWordForTwoSlots();
    addressesFromFirstToLast();
    failsAndThenDoesNot();
    findRefusesWhatIsNoName();
    findWhenNotLoaded();
    findInAClosureOfOne();
    findInAClosureOfSix();
    findCountsUpToTheDefiner();
    findFailsAfterAllSteps();
    stepsThroughWantedOnes();
    stepsWithNoSymbolOfTheHash();
    stepsInBothRows();
    C.end();
  }

  /** "IndexOutOfBoundsException when .. r none of its relocations". */
  private static void numbersOfRelocations() {
    for (int many = 0; many <= 6; many++) {
      BoundObjects x = Checks.withImages(6);
      x.symbol(0, 'a', 5, false);
      for (int r = 0; r < many; r++) {
        x.relocation(0, 2, 0, 0, 0);
      }
      int[] wrong = {LEAST, -2, -1, many, many + 1, MOST};
      for (int r : wrong) {
        C.dueThrow(r + " of " + many + ", not loaded", Checks.INDEX, () -> x.call(0, r));
      }
      x.open(0, false, false);
      for (int r : wrong) {
        C.dueThrow(r + " of " + many, Checks.INDEX, () -> x.call(0, r));
      }
      if (many > 0) {
        C.due("the first of " + many, x.call(0, 0), 5);
        C.due("the last of " + many, x.call(0, many - 1), 5);
      }
    }
  }

  /** "IllegalArgumentException when r is no SLOT", though its word may be -1 less r. */
  private static void onlySlotsAreCalled() {
    BoundObjects x = Checks.withImages(2);
    x.symbol(0, 'a', 1, false);
    x.relocation(0, 0, 0, 0, -1);
    x.relocation(0, 1, 1, 0, -3);
    x.open(0, true, false);
    C.dueWords("as of lazy slots", x, 0, -1, -2);
    C.dueThrow("relative", Checks.ARGUMENT, () -> x.call(0, 0));
    C.dueThrow("absolute", Checks.ARGUMENT, () -> x.call(0, 1));
    C.dueWords("unchanged", x, 0, -1, -2);
  }

  /** "IllegalStateException when o is not loaded": never, or no more. */
  private static void calledWhenNotLoaded() {
    BoundObjects x = Checks.withImages(2);
    x.symbol(0, 'a', 1, false);
    x.relocation(0, 2, 0, 0, 0);
    C.dueThrow("never loaded", Checks.STATE, () -> x.call(0, 0));
    x.open(0, true, false);
    C.due("loaded", x.call(0, 0), 1);
    x.close(0);
    C.dueThrow("loaded no more", Checks.STATE, () -> x.call(0, 0));
    C.due("one step", x.steps(), 1);
  }

  /** "when the word of relocation r still is -1 less r": the words beside it are answered as they are. */
  private static void wordsBesideTheUnbound() {
    BoundObjects x = Checks.withImages(6);
    x.symbol(0, 'a', 3, false);
    for (int r = 0; r < 6; r++) {
      x.relocation(0, 2, r, 0, 0);
    }
    x.open(0, true, false);
    int[] others = {LEAST, -7, 0, 1, MOST};
    for (int r = 0; r < 6; r += 5) {
      for (int v : others) {
        x.store(r, v);
        C.due("slot " + r + " with " + v, x.call(0, r), v);
      }
      x.store(r, -r);
      C.due("slot " + r + ", one more", x.call(0, r), -r);
      x.store(r, -2 - r);
      C.due("slot " + r + ", one less", x.call(0, r), -2 - r);
      C.due("nothing was looked up", x.steps(), r == 0 ? 0 : 1);
      x.store(r, -1 - r);
      C.due("slot " + r + " unbound", x.call(0, r), 3);
    }
    C.due("looked up twice", x.steps(), 2);
  }

  private static void oneWordForTwoSlots() {
    BoundObjects x = Checks.withImages(2);
    x.symbol(0, 'a', 1, false);
    x.relocation(0, 2, 0, 0, 0);
    x.relocation(0, 2, 0, 0, 0);
    x.open(0, true, false);
    C.due("the word is that of the other one", x.call(0, 0), -2);
    C.due("the later one is bound", x.call(0, 1), 1);
    C.due("the earlier one answers it", x.call(0, 0), 1);
    C.due("one step", x.steps(), 1);
  }

  private static void addressesFromFirstToLast() {
    BoundObjects x = Checks.withImages(8, 8, 8, 8);
    x.symbol(0, 'a', 0, false);
    x.symbol(3, 'z', 7, false);
    x.symbol(1, 'a', -1, false);
    x.symbol(1, 'z', -1, false);
    x.relocation(1, 2, 0, 0, 0);
    x.relocation(1, 2, 7, 1, 0);
    for (int o = 0; o < 4; o++) {
      x.open(o, true, true);
    }
    C.due("the address 0", x.call(1, 0), 0);
    C.due("the address 31", x.call(1, 1), 31);
    C.dueWords("in the words", x, 8, 0);
    C.dueWords("in the words", x, 15, 31);
    C.due("find the address 0", x.find(0, 'a'), 0);
    C.due("find the address 31", x.find(3, 'z'), 31);
  }

  /** "NoSuchElementException when resolving fails (nothing but the steps is changed)". */
  private static void failsAndThenDoesNot() {
    BoundObjects x = Checks.withImages(2, 2);
    x.symbol(0, 'a', -1, false);
    x.symbol(0, 'd', -1, false);
    x.relocation(0, 2, 1, 0, 0);
    x.symbol(1, 'a', 1, false);
    x.open(0, true, true);
    String before = Checks.look(x);
    C.dueThrow("found nowhere", Checks.NONE, () -> x.call(0, 0));
    C.due("two steps in the row, two in the group", x.steps(), 4);
    C.due("all is as before", Checks.look(x), before);
    x.open(1, true, false);
    C.dueThrow("not in its row nor group", Checks.NONE, () -> x.call(0, 0));
    C.due("as many again", x.steps(), 8);
    x.open(1, true, true);
    C.due("now it is found", x.call(0, 0), 3);
    C.due("two and one", x.steps(), 11);
  }

  /** "IllegalArgumentException when name is none". */
  private static void findRefusesWhatIsNoName() {
    int[] none = {0, 1, 'a' - 1, 'z' + 1, 'a' << 8, 'a' << 24, 'a' | 'a' << 16, -1, LEAST, MOST};
    BoundObjects x = Checks.withImages(1);
    x.symbol(0, 'a', 0, false);
    x.open(0, false, false);
    for (int name : none) {
      C.dueThrow("find(0, " + name + ")", Checks.ARGUMENT, () -> x.find(0, name));
    }
    C.due("no steps", x.steps(), 0);
    C.due("find a", x.find(0, 'a'), 0);
  }

  /** "IllegalStateException when o is not loaded". */
  private static void findWhenNotLoaded() {
    BoundObjects x = Checks.withImages(1, 1);
    x.symbol(0, 'a', 0, false);
    x.need(0, 1);
    C.dueThrow("no image", Checks.STATE, () -> x.find(2, 'a'));
    C.dueThrow("never loaded", Checks.STATE, () -> x.find(0, 'a'));
    x.open(1, false, false);
    C.dueThrow("its need alone is loaded", Checks.STATE, () -> x.find(0, 'a'));
    x.open(0, false, false);
    C.due("loaded", x.find(0, 'a'), 1);
    x.close(0);
    C.dueThrow("loaded no more", Checks.STATE, () -> x.find(0, 'a'));
  }

  private static void findInAClosureOfOne() {
    BoundObjects x = Checks.withImages(1, 1);
    x.symbol(0, 'a', 0, false);
    x.symbol(1, 'b', 0, false);
    x.need(0, 1);
    x.open(0, false, true);
    C.due("its own", x.find(1, 'b'), 1);
    C.dueThrow("that of one that needs it", Checks.NONE, () -> x.find(1, 'a'));
  }

  private static void findInAClosureOfSix() {
    BoundObjects x = Checks.withImages(1, 1, 1, 1, 1, 1);
    for (int o = 0; o < 5; o++) {
      x.need(o, o + 1);
    }
    x.symbol(5, 'a', 0, false);
    x.open(0, false, false);
    for (int o = 0; o < 6; o++) {
      C.due("from " + o, x.find(o, 'a'), 5);
    }
    C.due("a step each", x.steps(), 6);
  }

  /** "that of the first of them that defines it". */
  private static void findCountsUpToTheDefiner() {
    BoundObjects x = Checks.withImages(1, 1, 1);
    x.need(0, 2);
    x.need(0, 1);
    x.symbol(0, 'd', 0, false);
    x.symbol(1, 'a', 0, false);
    x.symbol(2, 'a', 0, false);
    x.open(0, false, false);
    C.due("2 is the first need", x.find(0, 'a'), 1);
    C.due("a step in 0, one in 2, none in 1", x.steps(), 2);
  }

  /** "NoSuchElementException when none defines it". */
  private static void findFailsAfterAllSteps() {
    BoundObjects x = Checks.withImages(1, 1);
    x.need(0, 1);
    for (int k = 0; k < 6; k++) {
      x.symbol(0, 'a' + 3 * k, -1, true);
      x.symbol(1, 'a' + 3 * k, -1, false);
    }
    x.open(0, false, false);
    String before = Checks.look(x);
    C.dueThrow("all want it", Checks.NONE, () -> x.find(0, 'a'));
    C.due("six and six", x.steps(), 12);
    C.due("all is as before", Checks.look(x), before);
  }

  /** "until the name is found as a defined one, or all are gone over". */
  private static void stepsThroughWantedOnes() {
    BoundObjects x = Checks.withImages(1);
    for (int k = 0; k < 6; k++) {
      x.symbol(0, 'a' + 3 * k, k == 0 || k == 5 ? 0 : -1, false);
    }
    x.open(0, false, false);
    C.due("the latest one", x.find(0, 'p'), 0);
    C.due("one step", x.steps(), 1);
    C.due("the first one", x.find(0, 'a'), 0);
    C.due("six steps", x.steps(), 7);
    C.dueThrow("a wanted one", Checks.NONE, () -> x.find(0, 'm'));
    C.due("all six steps", x.steps(), 13);
  }

  private static void stepsWithNoSymbolOfTheHash() {
    BoundObjects x = Checks.withImages(1);
    for (int k = 0; k < 6; k++) {
      x.symbol(0, 'a' + 3 * k, 0, false);
    }
    x.open(0, false, false);
    C.dueThrow("b", Checks.NONE, () -> x.find(0, 'b'));
    C.dueThrow("c", Checks.NONE, () -> x.find(0, 'c'));
    C.due("no steps", x.steps(), 0);
    C.dueThrow("zzzz", Checks.NONE, () -> x.find(0, Checks.name("zzzz")));
    C.due("its hash is 2 modulo 3", x.steps(), 0);
    C.dueThrow("aaaa", Checks.NONE, () -> x.find(0, Checks.name("aaaa")));
    C.due("its hash is 1 modulo 3", x.steps(), 6);
  }

  /** An object of the global row that is in the group, too, is gone through in each of them. */
  private static void stepsInBothRows() {
    BoundObjects x = Checks.withImages(1, 1, 1, 1, 1, 1);
    for (int o = 0; o < 6; o++) {
      x.need(o, (o + 1) % 6);
      x.symbol(o, 'a', -1, true);
    }
    x.relocation(0, 1, 0, 0, 0);
    C.due("open", x.open(3, false, true), 6);
    C.due("six and six", x.steps(), 12);
  }
}
