/** The boundary cases of promises 10 to 17, and the 512 calls; each method is one sentence's. */
public final class TellEdgeTest {
  private static final Checks C = new Checks();
  private static final int LEAST = Integer.MIN_VALUE;
  private static final int MOST = Integer.MAX_VALUE;

  public static void main(String[] args) {
    addressesOfWords();
    wordsWhereNoImageIs();
    storesOutsideTheSpace();
    storesAtTheEndsOfAnImage();
    storesOfAnyInt();
    basesFromFirstToLast();
    openedFromNoneOn();
    globalBesideTheRow();
    eventsOfNothing();
    eventsUpToTheFortieth();
    eventsBesideTheFortieth();
    eventsOfTheFirstAndTheLastObject();
    questionsCountNoSteps();
    aRunOfFiveHundredAndTwelveCalls();
    C.end();
  }

  /** "IndexOutOfBoundsException when address is not 0 .. 31". */
  private static void addressesOfWords() {
    BoundObjects empty = new BoundObjects();
    BoundObjects full = fullOfWords();
    int[] wrong = {LEAST, -32, -1, 32, 33, 64, MOST};
    for (int address : wrong) {
      C.dueThrow("empty: word(" + address + ")", Checks.INDEX, () -> empty.word(address));
      C.dueThrow("full: word(" + address + ")", Checks.INDEX, () -> full.word(address));
    }
    C.due("empty: word(0)", empty.word(0), 0);
    C.due("empty: word(31)", empty.word(31), 0);
    C.due("full: word(0)", full.word(0), 100);
    C.due("full: word(31)", full.word(31), 131);
  }

  /** "0 where no image is": before the first, behind the last, and where one was. */
  private static void wordsWhereNoImageIs() {
    BoundObjects x = fullOfWords();
    x.close(1);
    C.dueWords("where 1 was", x, 7, 107, 0, 0, 0, 0, 0, 0, 0, 0, 116);
    x.close(0);
    C.due("the first word", x.word(0), 0);
    x.close(3);
    C.due("the last word", x.word(31), 0);
    C.dueWords("2 is left", x, 15, 0, 116);
    C.dueWords("2 is left", x, 23, 123, 0);
  }

  /** "false, changing nothing, otherwise". */
  private static void storesOutsideTheSpace() {
    int[] wrong = {LEAST, -32, -1, 32, 33, 64, MOST};
    BoundObjects x = fullOfWords();
    String before = Checks.look(x);
    for (int address : wrong) {
      C.due("store(" + address + ")", x.store(address, 5), false);
    }
    C.due("nothing is changed", Checks.look(x), before);
  }

  /** "at an address at which an image is". */
  private static void storesAtTheEndsOfAnImage() {
    BoundObjects x = Checks.withImages(8, 3, 8);
    for (int o = 0; o < 3; o++) {
      x.open(o, false, false);
    }
    x.close(0);
    x.close(2);
    String before = Checks.look(x);
    int[] outside = {0, 6, 7, 11, 12, 31};
    for (int address : outside) {
      C.due("store(" + address + ")", x.store(address, 5), false);
    }
    C.due("nothing is changed", Checks.look(x), before);
    C.due("the first word", x.store(8, 1), true);
    C.due("the last word", x.store(10, 2), true);
    C.dueWords("both", x, 7, 0, 1, 0, 2, 0);
  }

  private static void storesOfAnyInt() {
    BoundObjects x = Checks.withImages(1);
    x.open(0, false, false);
    int[] any = {LEAST, -1, 0, 1, MOST};
    for (int v : any) {
      C.due("store(0, " + v + ")", x.store(0, v), true);
      C.due("word(0)", x.word(0), v);
    }
  }

  /** "-1 when it is not loaded, or there is no such object": other than the base 0, and up to the base 31. */
  private static void basesFromFirstToLast() {
    BoundObjects x = Checks.withImages(8, 8, 8, 7, 1);
    C.dueBases("not loaded", x, -1, -1, -1, -1, -1, -1);
    for (int o = 0; o < 5; o++) {
      x.open(o, false, false);
    }
    C.dueBases("loaded", x, 0, 8, 16, 24, 31, -1);
    C.due("base(-1)", x.base(-1), -1);
    C.due("base(6)", x.base(6), -1);
  }

  /** "0 when there is no such object", and of those that are not open. */
  private static void openedFromNoneOn() {
    BoundObjects x = Checks.withImages(1, 1);
    x.need(0, 1);
    C.due("not open", x.opened(0), 0);
    x.open(0, false, false);
    C.due("open", x.opened(0), 1);
    C.due("loaded, not open", x.opened(1), 0);
    C.due("without an image", x.opened(5), 0);
    x.close(0);
    C.due("open no more", x.opened(0), 0);
  }

  /** "-1 when there is none": for each length of the row. */
  private static void globalBesideTheRow() {
    BoundObjects x = Checks.withImages(1, 1, 1, 1, 1, 1);
    int[] outside = {LEAST, -1, 6, 7, MOST};
    for (int many = 0; many <= 6; many++) {
      for (int k = 0; k < 6; k++) {
        C.due("global(" + k + ") of " + many, x.global(k), k < many ? 5 - k : -1);
      }
      for (int k : outside) {
        C.due("global(" + k + ") of " + many, x.global(k), -1);
      }
      if (many < 6) {
        x.open(5 - many, false, true);
      }
    }
  }

  /** "or there are not so many". */
  private static void eventsOfNothing() {
    BoundObjects x = Checks.withImages(1);
    C.due("events", x.events(), 0);
    C.dueThrow("event(0) of none", Checks.NONE, () -> x.event(0));
    x.open(0, false, false);
    C.due("event(0) of one", x.event(0), 0);
    C.dueThrow("event(1) of one", Checks.NONE, () -> x.event(1));
    x.close(0);
    C.due("event(0) of two", x.event(0), -1);
    C.due("event(1) of two", x.event(1), 0);
    C.dueThrow("event(2) of two", Checks.NONE, () -> x.event(2));
  }

  /** "NoSuchElementException when k is not 0 .. 39, or there are not so many": with 39, 40 and 41 events. */
  private static void eventsUpToTheFortieth() {
    BoundObjects x = Checks.withImages(1, 1);
    x.open(1, false, false);
    for (int times = 0; times < 19; times++) {
      x.open(0, false, false);
      x.close(0);
    }
    C.due("events", x.events(), 39);
    C.due("event(38) of 39", x.event(38), 1);
    C.dueThrow("event(39) of 39", Checks.NONE, () -> x.event(39));
    x.open(0, false, false);
    C.due("events", x.events(), 40);
    C.due("event(39) of 40", x.event(39), 1);
    C.dueThrow("event(40) of 40", Checks.NONE, () -> x.event(40));
    x.close(0);
    C.due("events", x.events(), 41);
    C.due("event(0) of 41", x.event(0), -1);
    C.due("event(39) of 41", x.event(39), 0);
    C.dueThrow("event(40) of 41", Checks.NONE, () -> x.event(40));
  }

  private static void eventsBesideTheFortieth() {
    BoundObjects x = Checks.withImages(1, 1, 1, 1, 1, 1);
    for (int o = 0; o < 5; o++) {
      x.need(o, o + 1);
    }
    for (int times = 0; times < 10; times++) {
      x.open(0, false, false);
      x.close(0);
    }
    C.due("events", x.events(), 120);
    int[] round = {5, 4, 3, 2, 1, 0, -1, -2, -3, -4, -5, -6};
    for (int k = 0; k < 40; k++) {
      C.due("event(" + k + ")", x.event(k), round[(119 - k) % 12]);
    }
    int[] wrong = {LEAST, -40, -1, 40, 41, 80, 119, 120, MOST};
    for (int k : wrong) {
      C.dueThrow("event(" + k + ")", Checks.NONE, () -> x.event(k));
    }
  }

  /** "the object that began, or -1 less the object that ended". */
  private static void eventsOfTheFirstAndTheLastObject() {
    BoundObjects x = Checks.withImages(1, 1, 1, 1, 1, 1);
    x.open(0, false, false);
    x.open(5, false, false);
    x.close(0);
    x.close(5);
    C.dueEvents("0 and 5", x, 0, 5, -1, -6);
  }

  private static void questionsCountNoSteps() {
    BoundObjects x = Checks.withImages(2);
    x.symbol(0, 'a', 1, false);
    x.relocation(0, 1, 0, 0, 0);
    x.open(0, false, true);
    C.due("one step", x.steps(), 1);
    Checks.look(x);
    x.store(0, 4);
    x.close(0);
    C.due("still one", x.steps(), 1);
  }

  /** "An object is used for at most 512 calls after it has been made": the last of them is answered as the first. */
  private static void aRunOfFiveHundredAndTwelveCalls() {
    BoundObjects x = new BoundObjects();
    x.image(0, 2);
    x.image(1, 2);
    x.symbol(1, 'a', 1, false);
    x.symbol(0, 'a', -1, false);
    x.relocation(0, 2, 1, 0, 0);
    x.need(0, 1);
    int calls = 6;
    for (int times = 1; times <= 126; times++) {
      C.due("open", x.open(0, true, true), 2);
      C.due("call", x.call(0, 0), 3);
      C.due("steps", x.steps(), 2 * times);
      C.due("close", x.close(0), 2);
      calls += 4;
    }
    C.due("so many calls", calls, 510);
    C.due("the 511th call", x.events(), 4 * 126);
    C.due("the 512th call", x.event(39), 1);
  }

  /** Four images of 8 words, whose words are 100 more than their addresses. */
  private static BoundObjects fullOfWords() {
    BoundObjects x = Checks.withImages(8, 8, 8, 8);
    for (int o = 0; o < 4; o++) {
      x.open(o, false, false);
    }
    for (int address = 0; address < 32; address++) {
      x.store(address, 100 + address);
    }
    return x;
  }
}
