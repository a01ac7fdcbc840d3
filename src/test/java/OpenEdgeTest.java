/** The boundary cases of promise 6 and of the terms that opening uses; each method is one sentence's. */
public final class OpenEdgeTest {
  private static final Checks C = new Checks();
  private static final int LEAST = Integer.MIN_VALUE;
  private static final int MOST = Integer.MAX_VALUE;

  public static void main(String[] args) {
    closureOfOneAndOfAll();
    closureHasEachOneOnce();
    missingImageAtEachPlaceOfTheClosure();
    lastBaseForEachLength();
    noPlaceBehindTheLastBase();
    gapsThatFitAndThatAreTooSmall();
    enoughWordsButNoGap();
    noPlaceForTheLastOfTheClosure();
    fullSpaceTakesWhatIsLoaded();
    placeOfOneThatEnded();
    everyWordBecomesZero();
    wordsOfLazySlots();
    relativeWrapsAround();
    absoluteWrapsAround();
    addressZeroIsFound();
    addressThirtyOneIsFound();
    weakAndFoundNowhere();
    emptyGlobalRow();
    fullGlobalRow();
    failingAtEachRelocation();
    failingOneGetsThePlaceLater();
    groupIsTheClosureAsItIs();
    lazyDoesNotReachTheLoaded();
    beginsFromNoneToSix();
    C.end();
  }

  /** "CLOSURE of an object: it, its needs in order, ..": alone, and with all five others. */
  private static void closureOfOneAndOfAll() {
    BoundObjects x = Checks.withImages(1, 1, 1, 1, 1, 1);
    C.due("no needs", x.open(3, false, true), 1);
    C.dueGlobal("no needs", x, 3);
    x.close(3);
    x.need(3, 5);
    x.need(3, 0);
    x.need(3, 4);
    x.need(4, 1);
    x.need(1, 2);
    C.due("all six", x.open(3, false, true), 6);
    C.dueGlobal("all six", x, 3, 5, 0, 4, 1, 2);
  }

  /** "each one once, where it comes first". */
  private static void closureHasEachOneOnce() {
    BoundObjects x = Checks.withImages(1, 1, 1, 1);
    x.need(0, 1);
    x.need(0, 2);
    x.need(1, 3);
    x.need(1, 0);
    x.need(2, 1);
    x.need(2, 3);
    x.need(3, 2);
    x.need(3, 0);
    C.due("open", x.open(0, false, true), 4);
    C.dueGlobal("each one once", x, 0, 1, 2, 3);
    C.dueBases("each one once", x, 0, 1, 2, 3);
    C.due("each one begins once", x.events(), 4);
    C.due("close", x.close(0), 4);
  }

  /** "IllegalStateException when one of the closure has no image". */
  private static void missingImageAtEachPlaceOfTheClosure() {
    BoundObjects x = Checks.withImages(1, 1, 1, 1, 1, 1);
    C.dueThrow("itself, with no image", Checks.STATE, () -> new BoundObjects().open(0, false, false));
    for (int missing = 1; missing < 6; missing++) {
      BoundObjects y = new BoundObjects();
      for (int o = 0; o < 6; o++) {
        if (o != missing) {
          y.image(o, 1);
        }
      }
      for (int o = 0; o < missing; o++) {
        y.need(o, o + 1);
      }
      C.dueThrow("object " + missing + " has none", Checks.STATE, () -> y.open(0, false, true));
      C.due("all is as before", Checks.look(y), Checks.look(x));
      y.image(missing, 1);
      C.due("now it has one", y.open(0, false, true), missing + 1);
    }
  }

  /** "the least base from which its image is in the space": the last base is 32 less the words. */
  private static void lastBaseForEachLength() {
    for (int words = 1; words <= 8; words++) {
      BoundObjects x = Checks.withImages(8, 8, 8, 8, words, 1);
      if (words < 8) {
        x.image(3, 8 - words);
      }
      int others = words < 8 ? 4 : 3;
      for (int o = 0; o < others; o++) {
        x.open(o, false, false);
      }
      C.due("the last " + words + " words", x.open(4, false, false), 1);
      C.due("base", x.base(4), 32 - words);
      C.due("the last word is its", x.store(31, 7), true);
      C.due("word(31)", x.word(31), 7);
      C.dueThrow("no word is left", Checks.STATE, () -> x.open(5, false, false));
    }
  }

  /** "or there is no place for one": one word too few is left at the end. */
  private static void noPlaceBehindTheLastBase() {
    for (int left = 1; left <= 7; left++) {
      BoundObjects x = Checks.withImages(8, 8, 8, 8 - left, left + 1, left);
      for (int o = 0; o < 4; o++) {
        x.open(o, false, false);
      }
      C.dueThrow(left + 1 + " words into " + left, Checks.STATE, () -> x.open(4, false, false));
      C.due("base", x.base(4), -1);
      C.due("store", x.store(32 - left, 1), false);
      C.due(left + " words into " + left, x.open(5, false, false), 1);
      C.due("base", x.base(5), 32 - left);
    }
  }

  /** "and no word of it in that of another one". */
  private static void gapsThatFitAndThatAreTooSmall() {
    for (int gap = 1; gap <= 7; gap++) {
      BoundObjects x = Checks.withImages(2, gap, 3, gap + 1, gap);
      for (int o = 0; o < 3; o++) {
        x.open(o, false, false);
      }
      x.close(1);
      x.open(3, false, false);
      C.due("a gap one word too small", x.base(3), 2 + gap + 3);
      x.open(4, false, false);
      C.due("a gap that fits", x.base(4), 2);
    }
  }

  private static void enoughWordsButNoGap() {
    BoundObjects x = Checks.withImages(4, 8, 4, 8, 8, 5);
    for (int o = 0; o < 5; o++) {
      x.open(o, false, false);
    }
    C.dueBases("full", x, 0, 4, 12, 16, 24);
    x.close(0);
    x.close(2);
    C.due("a gap of 4 words", x.store(3, 1), false);
    C.due("another gap of 4 words", x.store(12, 1), false);
    C.dueThrow("5 words into two gaps of 4", Checks.STATE, () -> x.open(5, false, false));
    x.image(5, 4);
    C.due("4 words", x.open(5, false, false), 1);
    C.due("into the first gap", x.base(5), 0);
  }

  private static void noPlaceForTheLastOfTheClosure() {
    BoundObjects x = Checks.withImages(8, 8, 8, 7, 2, 1);
    for (int o = 0; o < 4; o++) {
      x.need(o, o + 1);
    }
    x.open(5, false, true);
    x.store(0, 77);
    String before = Checks.look(x);
    C.dueThrow("34 words", Checks.STATE, () -> x.open(0, false, true));
    C.due("all is as before", Checks.look(x), before);
    x.close(5);
    C.dueThrow("33 words", Checks.STATE, () -> x.open(0, false, true));
    x.image(4, 1);
    C.due("32 words", x.open(0, false, true), 5);
    C.dueBases("32 words", x, 0, 8, 16, 24, 31, -1);
  }

  private static void fullSpaceTakesWhatIsLoaded() {
    BoundObjects x = Checks.withImages(8, 8, 8, 8, 1);
    x.need(0, 1);
    x.need(1, 2);
    x.need(2, 3);
    C.due("all the space", x.open(0, false, false), 4);
    C.due("once more", x.open(0, false, true), 0);
    C.due("a need of a need", x.open(2, false, true), 0);
    x.need(4, 0);
    C.dueThrow("one that needs loaded ones has no place", Checks.STATE, () -> x.open(4, false, true));
    C.due("0 is open twice still", x.opened(0), 2);
    C.due("4 is not", x.opened(4), 0);
    C.dueGlobal("4 is not in the row", x, 0, 1, 2, 3);
  }

  private static void placeOfOneThatEnded() {
    BoundObjects x = Checks.withImages(8, 8, 8, 8, 8);
    for (int o = 0; o < 4; o++) {
      x.open(o, false, false);
    }
    C.dueThrow("no place left", Checks.STATE, () -> x.open(4, false, false));
    x.close(2);
    C.due("the place of 2", x.open(4, false, false), 1);
    C.due("base(4)", x.base(4), 16);
    C.dueThrow("no place for 2 any more", Checks.STATE, () -> x.open(2, false, false));
  }

  /** "all their words become 0": the first and the last one, whatever stood there. */
  private static void everyWordBecomesZero() {
    BoundObjects x = Checks.withImages(8, 8);
    x.open(0, false, false);
    for (int address = 0; address < 8; address++) {
      x.store(address, -1);
    }
    x.close(0);
    x.open(1, false, false);
    C.dueWords("another image there", x, 0, 0, 0, 0, 0, 0, 0, 0, 0);
  }

  /** "the word becomes -1 less the relocation's number", for the first and the sixth one. */
  private static void wordsOfLazySlots() {
    BoundObjects x = Checks.withImages(6);
    x.symbol(0, 'a', -1, false);
    for (int r = 0; r < 6; r++) {
      x.relocation(0, 2, 5 - r, 0, 0);
    }
    C.due("lazily", x.open(0, true, false), 1);
    C.dueWords("lazily", x, 0, -6, -5, -4, -3, -2, -1);
    C.due("nothing was looked up", x.steps(), 0);
  }

  /** "RELATIVE: the word becomes base + addend". */
  private static void relativeWrapsAround() {
    BoundObjects x = Checks.withImages(1, 6);
    x.open(0, false, false);
    int[] addends = {MOST, MOST - 1, LEAST, -1, 0, -2};
    for (int r = 0; r < 6; r++) {
      x.relocation(1, 0, r, 0, addends[r]);
    }
    x.open(1, false, false);
    C.dueWords("with the base 1", x, 1, LEAST, MOST, LEAST + 1, 0, 1, -1);
  }

  /** "ABSOLUTE: .. the word becomes the address + addend". */
  private static void absoluteWrapsAround() {
    BoundObjects x = Checks.withImages(6);
    x.symbol(0, 'a', 5, false);
    int[] addends = {MOST, MOST - 5, LEAST, -5, -6, 0};
    for (int r = 0; r < 6; r++) {
      x.relocation(0, 1, r, 0, addends[r]);
    }
    x.open(0, false, false);
    C.dueWords("with the address 5", x, 0, LEAST + 4, MOST, LEAST + 5, 0, -1, 5);
  }

  /** The address 0 is found, other than the 0 of a weak one: it is used from then on, and nothing fails. */
  private static void addressZeroIsFound() {
    BoundObjects x = Checks.withImages(1, 2);
    x.symbol(0, 'a', 0, false);
    x.symbol(1, 'a', -1, false);
    x.relocation(1, 1, 0, 0, 9);
    x.relocation(1, 2, 1, 0, 9);
    x.open(0, false, true);
    C.due("open", x.open(1, false, false), 1);
    C.dueWords("the address 0", x, 1, 9, 0);
    C.due("0 is used", x.close(0), 0);
    C.due("find", x.find(0, 'a'), 0);
  }

  private static void addressThirtyOneIsFound() {
    BoundObjects x = Checks.withImages(8, 8, 8, 8);
    x.symbol(3, 'a', 7, false);
    x.symbol(0, 'a', -1, true);
    x.relocation(0, 1, 0, 0, 0);
    x.relocation(0, 2, 1, 0, 0);
    for (int p = 1; p <= 3; p++) {
      x.need(0, p);
    }
    x.open(0, false, false);
    C.dueWords("the last address", x, 0, 31, 31);
    C.due("find", x.find(3, 'a'), 31);
  }

  /** "or 0, when it is found nowhere and the symbol is weak": then nothing is used. */
  private static void weakAndFoundNowhere() {
    BoundObjects x = Checks.withImages(1, 4);
    x.open(0, false, true);
    x.symbol(1, 'a', -1, true);
    x.relocation(1, 1, 0, 0, LEAST);
    x.relocation(1, 1, 1, 0, MOST);
    x.relocation(1, 1, 2, 0, 0);
    x.relocation(1, 2, 3, 0, 5);
    C.due("open", x.open(1, false, false), 1);
    C.dueWords("0 plus the addend", x, 1, LEAST, MOST, 0, 0);
    C.due("0 is not used", x.close(0), 1);
  }

  private static void emptyGlobalRow() {
    BoundObjects x = Checks.withImages(2);
    x.symbol(0, 'a', 1, false);
    x.relocation(0, 1, 0, 0, 0);
    x.open(0, false, false);
    C.dueGlobal("not globally", x);
    C.dueWords("found in the group", x, 0, 1);
    C.due("one step", x.steps(), 1);
  }

  /** "those of the closure that are not in the global row are put behind it": none when all are in it. */
  private static void fullGlobalRow() {
    BoundObjects x = Checks.withImages(1, 1, 1, 1, 1, 1);
    for (int o = 5; o >= 0; o--) {
      x.need(o, (o + 1) % 6);
    }
    x.open(4, false, true);
    C.dueGlobal("all six", x, 4, 5, 0, 1, 2, 3);
    x.open(1, false, true);
    C.dueGlobal("all six are in it", x, 4, 5, 0, 1, 2, 3);
  }

  /** "NoSuchElementException when a relocation fails": the first one of the closure up to the last one. */
  private static void failingAtEachRelocation() {
    for (int o = 0; o < 3; o++) {
      for (int r = 0; r < 6; r++) {
        for (int kind = 1; kind <= 2; kind++) {
          failingAt(o, r, kind);
        }
      }
    }
  }

  private static void failingAt(int failing, int number, int kind) {
    BoundObjects x = Checks.withImages(6, 6, 6, 3);
    x.open(3, false, true);
    x.store(2, 5);
    x.need(0, 1);
    x.need(1, 2);
    for (int o = 0; o < 3; o++) {
      x.symbol(o, Checks.name("none"), -1, false);
      for (int r = 0; r < 6; r++) {
        x.relocation(o, o == failing && r == number ? kind : 0, r, 0, 40);
      }
    }
    String before = Checks.look(x);
    String when = "relocation " + number + " of " + failing;
    C.dueThrow(when, Checks.NONE, () -> x.open(0, false, true));
    C.due(when, Checks.look(x), before);
    C.due(when + ": steps of three objects in the row and again in the group", x.steps(), 6);
    C.dueThrow(when + " again", Checks.NONE, () -> x.open(0, false, false));
    C.due(when + ": three more, in the group alone", x.steps(), 9);
  }

  private static void failingOneGetsThePlaceLater() {
    BoundObjects x = Checks.withImages(8, 8, 8, 8, 1);
    for (int o = 0; o < 3; o++) {
      x.need(o, o + 1);
    }
    x.symbol(3, 'a', -1, false);
    x.relocation(3, 1, 7, 0, 1);
    C.dueThrow("it fills the space and fails", Checks.NONE, () -> x.open(0, false, true));
    C.due("the space is free", x.open(4, false, false), 1);
    C.due("from 0 on", x.base(4), 0);
    C.dueThrow("one word too few now", Checks.STATE, () -> x.open(0, false, true));
    x.close(4);
    x.image(3, 8);
    C.due("without the relocation", x.open(0, false, true), 4);
    C.due("each one begins once", x.events(), 2 + 4);
  }

  /** "their group is the closure (as it is now)": later openings do not change it. */
  private static void groupIsTheClosureAsItIs() {
    BoundObjects x = Checks.withImages(2, 2);
    x.symbol(1, 'a', -1, true);
    x.relocation(1, 2, 0, 0, 0);
    x.symbol(0, 'a', 1, false);
    x.need(0, 1);
    x.open(1, true, false);
    x.open(0, true, false);
    C.due("0 is not in the group of 1, though in one closure with it now", x.call(1, 0), 0);
    C.due("a step in 1 alone", x.steps(), 1);
  }

  /** "then the relocations of the newly loaded ones are done": not lazily again, not at once later. */
  private static void lazyDoesNotReachTheLoaded() {
    BoundObjects x = Checks.withImages(2, 2);
    for (int o = 0; o < 2; o++) {
      x.symbol(o, 'a', 1, false);
      x.relocation(o, 2, 0, 0, 0);
    }
    x.need(0, 1);
    x.open(1, true, false);
    x.open(0, false, false);
    C.dueWords("1 stays lazy, 0 is bound at once", x, 0, -1, 0, 3, 0);
    x.close(0);
    C.due("1 at once", x.call(1, 0), 1);
    x.open(0, true, false);
    C.dueWords("1 stays bound, 0 is lazy", x, 0, 1, 0, -1, 0);
  }

  /** "how many objects were newly loaded", and as many begin. */
  private static void beginsFromNoneToSix() {
    BoundObjects x = Checks.withImages(1, 1, 1, 1, 1, 1);
    for (int o = 0; o < 5; o++) {
      x.need(o, o + 1);
    }
    C.due("six", x.open(0, false, false), 6);
    C.due("six begin", x.events(), 6);
    C.dueEvents("the last need first", x, 5, 4, 3, 2, 1, 0);
    C.due("none", x.open(0, false, false), 0);
    C.due("none begins", x.events(), 6);
  }
}
