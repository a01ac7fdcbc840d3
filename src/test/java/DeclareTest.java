/** Promises 2 to 5. */
public final class DeclareTest {
  private static final Checks C = new Checks();

  public static void main(String[] args) {
    imageSetsTheLength();
    imageForgetsWhatTheObjectHad();
    imageRefusesWrongInputs();
    needCountsUpToThree();
    needRefusesWrongInputs();
    symbolNumbersUpToSix();
    symbolTakesNamesAlone();
    symbolRefusesWrongInputs();
    relocationNumbersUpToSix();
    relocationRefusesWrongInputs();
    C.end();
  }

  private static void imageSetsTheLength() {
    BoundObjects x = Checks.withImages(8, 1, 1);
    x.open(0, false, false);
    x.open(1, false, false);
    x.open(2, false, false);
    C.dueBases("lengths 8, 1, 1", x, 0, 8, 9);
    C.due("last word of the last image", x.store(9, 1), true);
    C.due("behind the last image", x.store(10, 1), false);
  }

  private static void imageForgetsWhatTheObjectHad() {
    BoundObjects x = Checks.withImages(2, 2);
    x.need(0, 1);
    x.symbol(0, 'a', 1, false);
    x.relocation(0, 0, 0, 0, 9);
    x.image(0, 3);
    C.due("open after a new image", x.open(0, false, false), 1);
    C.dueWords("after a new image", x, 0, 0, 0, 0);
    C.dueThrow("symbol of the old image", Checks.NONE, () -> x.find(0, 'a'));
    C.dueThrow("relocation of the old image", Checks.INDEX, () -> x.call(0, 0));
    x.close(0);
    C.due("need from the first again", x.need(0, 1), 1);
    C.due("symbol from 0 again", x.symbol(0, 'a', 2, false), 0);
    C.due("relocation from 0 again", x.relocation(0, 0, 2, 0, 9), 0);
  }

  private static void imageRefusesWrongInputs() {
    BoundObjects x = Checks.withImages(2);
    C.dueThrow("image(-1, 1)", Checks.INDEX, () -> x.image(-1, 1));
    C.dueThrow("image(6, 0)", Checks.INDEX, () -> x.image(6, 0));
    C.dueThrow("image(0, 0)", Checks.ARGUMENT, () -> x.image(0, 0));
    C.dueThrow("image(0, 9)", Checks.ARGUMENT, () -> x.image(0, 9));
    C.dueThrow("image(0, least)", Checks.ARGUMENT, () -> x.image(0, Integer.MIN_VALUE));
    x.open(0, false, false);
    C.dueThrow("image of a loaded one", Checks.STATE, () -> x.image(0, 1));
    C.dueThrow("words before loaded", Checks.ARGUMENT, () -> x.image(0, 9));
    x.close(0);
    x.image(0, 8);
    C.due("open after all that", x.open(0, false, false), 1);
  }

  private static void needCountsUpToThree() {
    BoundObjects x = Checks.withImages(1, 1, 1, 1, 1, 1);
    C.due("first need", x.need(0, 5), 1);
    C.due("second need", x.need(0, 3), 2);
    C.due("third need", x.need(0, 4), 3);
    C.dueThrow("fourth need", Checks.STATE, () -> x.need(0, 1));
    C.dueThrow("a need that it has, of three", Checks.ARGUMENT, () -> x.need(0, 4));
    C.due("open", x.open(0, false, false), 4);
    C.dueBases("needs in their order", x, 0, -1, -1, 2, 3, 1);
  }

  private static void needRefusesWrongInputs() {
    BoundObjects x = Checks.withImages(1);
    C.dueThrow("need(-1, 0)", Checks.INDEX, () -> x.need(-1, 0));
    C.dueThrow("need(6, 6)", Checks.INDEX, () -> x.need(6, 6));
    C.dueThrow("need(0, -1)", Checks.INDEX, () -> x.need(0, -1));
    C.dueThrow("need(0, 6)", Checks.INDEX, () -> x.need(0, 6));
    C.dueThrow("need of itself", Checks.ARGUMENT, () -> x.need(0, 0));
    C.dueThrow("need of itself without an image", Checks.ARGUMENT, () -> x.need(1, 1));
    C.dueThrow("need without an image", Checks.STATE, () -> x.need(1, 0));
    C.due("need of one without an image", x.need(0, 1), 1);
    x.image(1, 1);
    x.open(0, false, false);
    C.dueThrow("need of a loaded one", Checks.STATE, () -> x.need(0, 2));
    C.dueThrow("the same need of a loaded one", Checks.ARGUMENT, () -> x.need(0, 1));
  }

  private static void symbolNumbersUpToSix() {
    BoundObjects x = Checks.withImages(8);
    for (int s = 0; s < 6; s++) {
      C.due("symbol " + s, x.symbol(0, 'a' + s, s, false), s);
    }
    C.dueThrow("seventh symbol", Checks.STATE, () -> x.symbol(0, 'z', 0, false));
    C.dueThrow("seventh symbol with a name that it has", Checks.ARGUMENT, () -> x.symbol(0, 'c', 0, false));
    x.open(0, false, false);
    for (int s = 0; s < 6; s++) {
      C.due("address of symbol " + s, x.find(0, 'a' + s), s);
    }
  }

  private static void symbolTakesNamesAlone() {
    BoundObjects x = Checks.withImages(2);
    int[] none = {
      0, 'a' - 1, 'z' + 1, 'A', '0', 255, 'a' << 8, 'a' << 16, 'a' << 24, -1, Integer.MIN_VALUE, Integer.MAX_VALUE,
      Checks.name("a{"), Checks.name("a`"), 'a' | 'b' << 16, 'a' | 'b' << 24, 'a' | 'b' << 8 | 'c' << 24,
      Checks.name("abcA"), Checks.name("abc") | 0x80 << 24, Checks.name("abc") | 0xE1 << 24
    };
    for (int name : none) {
      C.dueThrow("symbol with the name " + name, Checks.ARGUMENT, () -> x.symbol(0, name, 0, false));
    }
    String[] some = {"a", "zz", "az", "zazz", "abcd"};
    for (int s = 0; s < some.length; s++) {
      C.due("symbol " + some[s], x.symbol(0, Checks.name(some[s]), 1, false), s);
    }
  }

  private static void symbolRefusesWrongInputs() {
    BoundObjects x = Checks.withImages(3);
    C.dueThrow("symbol of -1", Checks.INDEX, () -> x.symbol(-1, 'a', 0, false));
    C.dueThrow("symbol of 6 with no name", Checks.INDEX, () -> x.symbol(6, 0, 0, false));
    C.dueThrow("word behind the image", Checks.ARGUMENT, () -> x.symbol(0, 'a', 3, false));
    C.dueThrow("word -2", Checks.ARGUMENT, () -> x.symbol(0, 'a', -2, true));
    C.dueThrow("word of no image", Checks.ARGUMENT, () -> x.symbol(1, 'a', 0, false));
    C.dueThrow("wanted without an image", Checks.STATE, () -> x.symbol(1, 'a', -1, false));
    C.due("the last word", x.symbol(0, 'a', 2, false), 0);
    C.due("wanted", x.symbol(0, 'b', -1, false), 1);
    C.dueThrow("a name that it defines", Checks.ARGUMENT, () -> x.symbol(0, 'a', -1, true));
    C.dueThrow("a name that it wants", Checks.ARGUMENT, () -> x.symbol(0, 'b', 0, false));
    x.open(0, false, false);
    C.dueThrow("symbol of a loaded one", Checks.STATE, () -> x.symbol(0, 'c', 0, false));
    C.dueThrow("a name that the loaded one has", Checks.ARGUMENT, () -> x.symbol(0, 'a', 0, false));
  }

  private static void relocationNumbersUpToSix() {
    BoundObjects x = Checks.withImages(8);
    for (int r = 0; r < 6; r++) {
      C.due("relocation " + r, x.relocation(0, 0, r + 1, -7, 10 * r), r);
    }
    C.dueThrow("seventh relocation", Checks.STATE, () -> x.relocation(0, 0, 0, 0, 0));
    C.dueThrow("seventh relocation of no kind", Checks.ARGUMENT, () -> x.relocation(0, 3, 0, 0, 0));
    x.open(0, false, false);
    C.dueWords("six relative ones", x, 0, 0, 0, 10, 20, 30, 40, 50, 0);
  }

  private static void relocationRefusesWrongInputs() {
    BoundObjects x = Checks.withImages(3);
    C.dueThrow("relocation of -1", Checks.INDEX, () -> x.relocation(-1, 0, 0, 0, 0));
    C.dueThrow("relocation of 6 of no kind", Checks.INDEX, () -> x.relocation(6, 9, 0, 0, 0));
    C.dueThrow("kind -1", Checks.ARGUMENT, () -> x.relocation(0, -1, 0, 0, 0));
    C.dueThrow("kind 3", Checks.ARGUMENT, () -> x.relocation(0, 3, 0, 0, 0));
    C.dueThrow("word -1", Checks.ARGUMENT, () -> x.relocation(0, 0, -1, 0, 0));
    C.dueThrow("word behind the image", Checks.ARGUMENT, () -> x.relocation(0, 0, 3, 0, 0));
    C.dueThrow("word of no image", Checks.ARGUMENT, () -> x.relocation(1, 0, 0, 0, 0));
    C.dueThrow("absolute, no symbols", Checks.ARGUMENT, () -> x.relocation(0, 1, 0, 0, 0));
    C.dueThrow("slot, no symbols", Checks.ARGUMENT, () -> x.relocation(0, 2, 0, 0, 0));
    x.symbol(0, 'a', 0, false);
    C.dueThrow("kind 3 with a symbol", Checks.ARGUMENT, () -> x.relocation(0, 3, 0, 0, 0));
    C.dueThrow("absolute, symbol -1", Checks.ARGUMENT, () -> x.relocation(0, 1, 0, -1, 0));
    C.dueThrow("slot, symbol 1 of 1", Checks.ARGUMENT, () -> x.relocation(0, 2, 0, 1, 0));
    C.due("relative with a symbol that is none", x.relocation(0, 0, 2, 99, 5), 0);
    C.due("absolute", x.relocation(0, 1, 1, 0, 0), 1);
    C.due("slot", x.relocation(0, 2, 0, 0, 77), 2);
    x.open(0, false, false);
    C.dueWords("the addend of a slot means nothing", x, 0, 0, 0, 5);
    C.dueThrow("relocation of a loaded one", Checks.STATE, () -> x.relocation(0, 0, 0, 0, 0));
    C.dueThrow("wrong word of a loaded one", Checks.ARGUMENT, () -> x.relocation(0, 0, 3, 0, 0));
  }
}
