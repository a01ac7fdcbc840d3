/** Promises 10 to 12. */
public final class SpaceTest {
  private static final Checks C = new Checks();

  public static void main(String[] args) {
    wordsAndStores();
    gapsHoldNothing();
    bases();
    C.end();
  }

  private static void wordsAndStores() {
    BoundObjects x = Checks.withImages(8, 8, 8, 8);
    for (int o = 0; o < 4; o++) {
      x.open(o, false, false);
    }
    for (int address = 0; address < 32; address++) {
      C.due("store", x.store(address, 1000 - address), true);
    }
    for (int address = 0; address < 32; address++) {
      C.due("word(" + address + ")", x.word(address), 1000 - address);
    }
    C.due("store the least int", x.store(31, Integer.MIN_VALUE), true);
    C.due("word(31)", x.word(31), Integer.MIN_VALUE);
    int[] outside = {-1, 32, Integer.MIN_VALUE, Integer.MAX_VALUE};
    for (int address : outside) {
      C.dueThrow("word(" + address + ")", Checks.INDEX, () -> x.word(address));
      C.due("store(" + address + ")", x.store(address, 1), false);
    }
  }

  private static void gapsHoldNothing() {
    BoundObjects x = Checks.withImages(2, 3, 2);
    for (int o = 0; o < 3; o++) {
      x.open(o, false, false);
    }
    for (int address = 0; address < 7; address++) {
      x.store(address, 9);
    }
    x.close(1);
    C.dueWords("a gap", x, 0, 9, 9, 0, 0, 0, 9, 9, 0);
    for (int address = 2; address < 5; address++) {
      C.due("store into the gap", x.store(address, 5), false);
    }
    C.dueWords("the gap unchanged", x, 0, 9, 9, 0, 0, 0, 9, 9, 0);
  }

  private static void bases() {
    BoundObjects x = Checks.withImages(5, 4);
    C.dueBases("not loaded", x, -1, -1, -1);
    x.open(1, false, false);
    x.open(0, false, false);
    C.dueBases("loaded", x, 4, 0, -1);
    x.close(1);
    C.dueBases("1 is out", x, 4, -1, -1);
    int[] none = {-1, 6, Integer.MIN_VALUE, Integer.MAX_VALUE};
    for (int o : none) {
      C.due("base(" + o + ")", x.base(o), -1);
    }
  }
}
