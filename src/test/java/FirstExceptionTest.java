/** "of several exceptions that it names the first one that holds is thrown": each call, with several that hold. */
public final class FirstExceptionTest {
  private static final Checks C = new Checks();
  private static final int[] NO_OBJECT = {-1, 6};
  /** Objects that get nothing more. */
  private static final int[] NOT_GROWING = {BoundWorld.BARE, BoundWorld.LOADED, BoundWorld.FULL};

  public static void main(String[] args) {
    ofImage();
    ofDeclaring(BoundWorld.make());
    BoundObjects fullAndLoaded = BoundWorld.make();
    fullAndLoaded.open(BoundWorld.FULL, false, false);
    ofDeclaring(fullAndLoaded);
    ofOpen();
    ofClose();
    ofCall();
    ofFind();
    C.end();
  }

  private static void ofDeclaring(BoundObjects x) {
    ofNeed(x);
    ofSymbol(x);
    ofRelocation(x);
  }

  private static void ofImage() {
    BoundObjects x = BoundWorld.make();
    int[] noWords = {0, 9};
    for (int words : noWords) {
      for (int o : NO_OBJECT) {
        C.dueThrow("no object, no length", Checks.INDEX, () -> x.image(o, words));
      }
      C.dueThrow("no length, loaded", Checks.ARGUMENT, () -> x.image(BoundWorld.LOADED, words));
    }
    C.dueThrow("loaded alone", Checks.STATE, () -> x.image(BoundWorld.LOADED, 1));
  }

  private static void ofNeed(BoundObjects x) {
    for (int none : NO_OBJECT) {
      C.dueThrow("no object, itself", Checks.INDEX, () -> x.need(none, none));
      C.dueThrow("no object to need it", Checks.INDEX, () -> x.need(none, 0));
      for (int o : NOT_GROWING) {
        C.dueThrow("no object, and it gets no more", Checks.INDEX, () -> x.need(o, none));
      }
    }
    for (int o : NOT_GROWING) {
      C.dueThrow("itself, and it gets no more", Checks.ARGUMENT, () -> x.need(o, o));
    }
    C.dueThrow("has it, loaded", Checks.ARGUMENT, () -> x.need(BoundWorld.LOADED, BoundWorld.NEEDED));
    C.dueThrow("has it, and 3", Checks.ARGUMENT, () -> x.need(BoundWorld.FULL, BoundWorld.USED));
    C.dueThrow("no image", Checks.STATE, () -> x.need(BoundWorld.BARE, BoundWorld.LOADED));
    C.dueThrow("loaded", Checks.STATE, () -> x.need(BoundWorld.LOADED, BoundWorld.FULL));
    C.dueThrow("3 needs", Checks.STATE, () -> x.need(BoundWorld.FULL, BoundWorld.BARE));
  }

  private static void ofSymbol(BoundObjects x) {
    for (int none : NO_OBJECT) {
      C.dueThrow("no object", Checks.INDEX, () -> x.symbol(none, 'x', -1, false));
      C.dueThrow("no object, no name", Checks.INDEX, () -> x.symbol(none, 0, -1, false));
      C.dueThrow("no object, no word", Checks.INDEX, () -> x.symbol(none, 'x', 8, false));
      C.dueThrow("no object, no name, no word", Checks.INDEX, () -> x.symbol(none, 'A', -2, true));
    }
    for (int o : NOT_GROWING) {
      C.dueThrow("no name, and it gets no more", Checks.ARGUMENT, () -> x.symbol(o, 0, -1, false));
      C.dueThrow("no word, and it gets no more", Checks.ARGUMENT, () -> x.symbol(o, 'x', 8, false));
      C.dueThrow("word -2, and it gets no more", Checks.ARGUMENT, () -> x.symbol(o, 'x', -2, true));
      C.dueThrow("it gets no more", Checks.STATE, () -> x.symbol(o, 'x', -1, false));
      if (o != BoundWorld.BARE) {
        C.dueThrow("has it, and it gets no more", Checks.ARGUMENT, () -> x.symbol(o, BoundWorld.HAD, -1, false));
        C.dueThrow("at a word, and it gets no more", Checks.STATE, () -> x.symbol(o, 'x', 0, false));
      }
    }
    C.dueThrow("a word of no image", Checks.ARGUMENT, () -> x.symbol(BoundWorld.BARE, 'x', 0, false));
  }

  private static void ofRelocation(BoundObjects x) {
    for (int none : NO_OBJECT) {
      C.dueThrow("no object", Checks.INDEX, () -> x.relocation(none, 0, 0, 0, 0));
      C.dueThrow("no object, no kind", Checks.INDEX, () -> x.relocation(none, 3, 0, 0, 0));
      C.dueThrow("no object, no word", Checks.INDEX, () -> x.relocation(none, 0, -1, 0, 0));
      C.dueThrow("no object, no symbol", Checks.INDEX, () -> x.relocation(none, 1, 0, -1, 0));
    }
    for (int o : NOT_GROWING) {
      C.dueThrow("kind -1, and it gets no more", Checks.ARGUMENT, () -> x.relocation(o, -1, 0, 0, 0));
      C.dueThrow("kind 3, and it gets no more", Checks.ARGUMENT, () -> x.relocation(o, 3, 0, 0, 0));
      C.dueThrow("word -1, and it gets no more", Checks.ARGUMENT, () -> x.relocation(o, 0, -1, 0, 0));
      C.dueThrow("word 8, and it gets no more", Checks.ARGUMENT, () -> x.relocation(o, 0, 8, 0, 0));
      C.dueThrow("symbol -1, and it gets no more", Checks.ARGUMENT, () -> x.relocation(o, 1, 0, -1, 0));
      C.dueThrow("symbol 6, and it gets no more", Checks.ARGUMENT, () -> x.relocation(o, 2, 0, 6, 0));
      if (o != BoundWorld.BARE) {
        C.dueThrow("relative, and it gets no more", Checks.STATE, () -> x.relocation(o, 0, 0, -1, 0));
        C.dueThrow("absolute, and it gets no more", Checks.STATE, () -> x.relocation(o, 1, 0, 0, 0));
        C.dueThrow("slot, and it gets no more", Checks.STATE, () -> x.relocation(o, 2, 0, 0, 0));
      }
    }
    C.dueThrow("a word of no image", Checks.ARGUMENT, () -> x.relocation(BoundWorld.BARE, 0, 0, 0, 0));
  }

  /** What would fail is not tried when an image or a place is missing: no steps are counted. */
  private static void ofOpen() {
    BoundObjects x = Checks.withImages(8, 8, 8, 8);
    x.symbol(0, 'a', -1, false);
    x.relocation(0, 1, 0, 0, 0);
    x.need(0, 1);
    x.need(1, 2);
    x.need(2, 3);
    x.need(3, 4);
    C.dueThrow("no image, fails", Checks.STATE, () -> x.open(0, false, true));
    C.due("no steps", x.steps(), 0);
    x.image(4, 1);
    C.dueThrow("no place, fails", Checks.STATE, () -> x.open(0, false, true));
    C.due("no steps", x.steps(), 0);
    x.need(4, 5);
    C.dueThrow("no image, no place, fails", Checks.STATE, () -> x.open(0, false, true));
    C.due("no steps", x.steps(), 0);
    x.image(3, 7);
    C.dueThrow("fails alone", Checks.NONE, () -> x.open(0, false, true));
    C.due("in the row and in the group", x.steps(), 2);
    for (int none : NO_OBJECT) {
      C.dueThrow("no object", Checks.INDEX, () -> x.open(none, false, true));
    }
  }

  private static void ofClose() {
    BoundObjects x = BoundWorld.make();
    for (int none : NO_OBJECT) {
      C.dueThrow("no object", Checks.INDEX, () -> x.close(none));
    }
    C.dueThrow("not loaded", Checks.STATE, () -> x.close(BoundWorld.FULL));
    C.dueThrow("loaded, not open", Checks.STATE, () -> x.close(BoundWorld.NEEDED));
  }

  private static void ofCall() {
    BoundObjects x = Checks.withImages(2, 2);
    x.symbol(0, 'a', -1, false);
    x.relocation(0, 0, 0, 0, 0);
    x.relocation(0, 2, 1, 0, 0);
    for (int none : NO_OBJECT) {
      C.dueThrow("no object", Checks.INDEX, () -> x.call(none, 0));
      C.dueThrow("no object, no relocation", Checks.INDEX, () -> x.call(none, -1));
    }
    C.dueThrow("no relocation, not loaded", Checks.INDEX, () -> x.call(0, -1));
    C.dueThrow("no relocation, not loaded", Checks.INDEX, () -> x.call(0, 2));
    C.dueThrow("no relocation, no image", Checks.INDEX, () -> x.call(5, 0));
    C.dueThrow("no slot, not loaded", Checks.ARGUMENT, () -> x.call(0, 0));
    C.dueThrow("not loaded, and would fail", Checks.STATE, () -> x.call(0, 1));
    C.due("no steps", x.steps(), 0);
    x.open(0, true, false);
    C.dueThrow("fails alone", Checks.NONE, () -> x.call(0, 1));
    C.due("one step", x.steps(), 1);
  }

  private static void ofFind() {
    BoundObjects x = Checks.withImages(1);
    x.symbol(0, 'a', -1, false);
    for (int none : NO_OBJECT) {
      C.dueThrow("no object", Checks.INDEX, () -> x.find(none, 'a'));
      C.dueThrow("no object, no name", Checks.INDEX, () -> x.find(none, 0));
    }
    C.dueThrow("no name, not loaded", Checks.ARGUMENT, () -> x.find(0, 'A'));
    C.dueThrow("no name, no image", Checks.ARGUMENT, () -> x.find(1, 0));
    C.dueThrow("not loaded, none defines it", Checks.STATE, () -> x.find(0, 'a'));
    C.due("no steps", x.steps(), 0);
    x.open(0, false, false);
    C.dueThrow("no name, none defines it", Checks.ARGUMENT, () -> x.find(0, 0));
    C.due("no steps", x.steps(), 0);
    C.dueThrow("none defines it", Checks.NONE, () -> x.find(0, 'a'));
    C.due("one step", x.steps(), 1);
  }
}
