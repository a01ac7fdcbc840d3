/** The boundary cases of promises 2 to 5 and of the terms that they use; each method is one sentence's. */
public final class DeclareEdgeTest {
  private static final Checks C = new Checks();
  private static final int LEAST = Integer.MIN_VALUE;
  private static final int MOST = Integer.MAX_VALUE;

  public static void main(String[] args) {
    imagesOfOneToEightWords();
    imagesOfLessOrMore();
    imageOfOneWordHasWordZeroAlone();
    imageOfEightWordsHasWordSeven();
    anotherImageHasItsOwnWords();
    anotherImageLosesThreeNeeds();
    anotherImageLosesSixSymbols();
    anotherImageLosesSixRelocations();
    imageOfALoadedOne();
    needsFromNoneToThree();
    needThatItHas();
    needsThatOthersHave();
    symbolsFromNoneToSix();
    lettersFromAToZ();
    namesOfOneToFourLetters();
    zerosStandBehindTheLetters();
    nameThatItHas();
    wordsOfASymbol();
    weakMeansNothingForADefinedOne();
    relocationsFromNoneToSix();
    kindsOfRelocations();
    wordsOfARelocation();
    symbolsOfARelocation();
    symbolOfARelativeOneMeansNothing();
    addendOfASlotMeansNothing();
    C.end();
  }

  /** "An object has an IMAGE of 1 .. 8 WORDS". */
  private static void imagesOfOneToEightWords() {
    for (int words = 1; words <= 8; words++) {
      BoundObjects x = Checks.withImages(words, 1);
      x.open(0, false, false);
      x.open(1, false, false);
      C.dueBases("an image of " + words + " words", x, 0, words);
    }
  }

  /** "IllegalArgumentException when words is not 1 .. 8". */
  private static void imagesOfLessOrMore() {
    int[] wrong = {LEAST, -1, 0, 9, 10, 256 + 1, MOST};
    BoundObjects x = new BoundObjects();
    for (int words : wrong) {
      C.dueThrow("image(0, " + words + ")", Checks.ARGUMENT, () -> x.image(0, words));
      C.dueThrow("it has no image", Checks.STATE, () -> x.open(0, false, false));
    }
  }

  private static void imageOfOneWordHasWordZeroAlone() {
    BoundObjects x = Checks.withImages(1);
    C.dueThrow("symbol at word 1", Checks.ARGUMENT, () -> x.symbol(0, 'a', 1, false));
    C.dueThrow("relocation of word 1", Checks.ARGUMENT, () -> x.relocation(0, 0, 1, 0, 0));
    C.due("symbol at word 0", x.symbol(0, 'a', 0, false), 0);
    C.due("relocation of word 0", x.relocation(0, 0, 0, 0, 3), 0);
    x.open(0, false, false);
    C.dueWords("one word", x, 0, 3, 0);
    C.due("store(0)", x.store(0, 1), true);
    C.due("store(1)", x.store(1, 1), false);
  }

  private static void imageOfEightWordsHasWordSeven() {
    BoundObjects x = Checks.withImages(8);
    C.dueThrow("symbol at word 8", Checks.ARGUMENT, () -> x.symbol(0, 'a', 8, false));
    C.dueThrow("relocation of word 8", Checks.ARGUMENT, () -> x.relocation(0, 0, 8, 0, 0));
    C.due("symbol at word 7", x.symbol(0, 'a', 7, false), 0);
    C.due("relocation of word 7", x.relocation(0, 0, 7, 0, 3), 0);
    x.open(0, false, false);
    C.due("find", x.find(0, 'a'), 7);
    C.dueWords("eight words", x, 6, 0, 3, 0);
    C.due("store(7)", x.store(7, 1), true);
    C.due("store(8)", x.store(8, 1), false);
  }

  private static void anotherImageHasItsOwnWords() {
    BoundObjects x = Checks.withImages(8);
    x.image(0, 1);
    C.dueThrow("word 1 of a smaller one", Checks.ARGUMENT, () -> x.symbol(0, 'a', 1, false));
    x.image(0, 8);
    C.due("word 7 of a larger one", x.symbol(0, 'a', 7, false), 0);
  }

  /** "no needs, no symbols, no relocations (what it had is lost)". */
  private static void anotherImageLosesThreeNeeds() {
    BoundObjects x = Checks.withImages(1, 1, 1, 1);
    for (int p = 1; p <= 3; p++) {
      x.need(0, p);
    }
    x.image(0, 1);
    C.due("open without needs", x.open(0, false, false), 1);
    x.close(0);
    for (int p = 1; p <= 3; p++) {
      C.due("need again", x.need(0, p), p);
    }
  }

  private static void anotherImageLosesSixSymbols() {
    BoundObjects x = Checks.withImages(1);
    for (int s = 0; s < 6; s++) {
      x.symbol(0, 'a' + s, 0, false);
    }
    x.image(0, 1);
    C.dueThrow("symbol 0 is none of its", Checks.ARGUMENT, () -> x.relocation(0, 1, 0, 0, 0));
    x.open(0, false, false);
    C.dueThrow("the first one is lost", Checks.NONE, () -> x.find(0, 'a'));
    C.dueThrow("the last one is lost", Checks.NONE, () -> x.find(0, 'f'));
    C.due("no symbols, no steps", x.steps(), 0);
    x.close(0);
    for (int s = 0; s < 6; s++) {
      C.due("symbol again", x.symbol(0, 'a' + s, 0, false), s);
    }
  }

  private static void anotherImageLosesSixRelocations() {
    BoundObjects x = Checks.withImages(1);
    for (int r = 0; r < 6; r++) {
      x.relocation(0, 0, 0, 0, 9);
    }
    x.image(0, 1);
    x.open(0, false, false);
    C.dueWords("not relocated", x, 0, 0);
    C.dueThrow("relocation 0 is none of its", Checks.INDEX, () -> x.call(0, 0));
    x.close(0);
    for (int r = 0; r < 6; r++) {
      C.due("relocation again", x.relocation(0, 0, 0, 0, 9), r);
    }
  }

  /** "IllegalStateException when it is loaded": open or not, and no more once it has ended. */
  private static void imageOfALoadedOne() {
    BoundObjects x = Checks.withImages(1, 1);
    x.need(0, 1);
    x.open(0, false, false);
    C.dueThrow("loaded and open", Checks.STATE, () -> x.image(0, 1));
    C.dueThrow("loaded and not open", Checks.STATE, () -> x.image(1, 1));
    x.open(1, false, false);
    x.close(0);
    x.image(0, 2);
    C.dueThrow("still open", Checks.STATE, () -> x.image(1, 1));
    x.close(1);
    x.image(1, 2);
    x.open(1, false, false);
    C.due("two words now", x.store(1, 1), true);
  }

  /** "at most 3 NEEDS"; "IllegalStateException when o .. has 3 needs". */
  private static void needsFromNoneToThree() {
    for (int needs = 0; needs <= 3; needs++) {
      BoundObjects x = Checks.withImages(1, 1, 1, 1, 1, 1);
      for (int k = 1; k <= needs; k++) {
        C.due("need " + k, x.need(5, k), k);
      }
      C.due("open with " + needs + " needs", x.open(5, false, false), needs + 1);
    }
    BoundObjects y = Checks.withImages(1, 1, 1, 1, 1, 1);
    for (int p = 0; p < 3; p++) {
      y.need(5, p);
    }
    C.dueThrow("a fourth need", Checks.STATE, () -> y.need(5, 3));
    C.dueThrow("a fourth need again", Checks.STATE, () -> y.need(5, 4));
    C.due("another one's first", y.need(4, 5), 1);
    C.due("open after that", y.open(5, false, false), 4);
  }

  /** "IllegalArgumentException when it has the need p, or o and p are the same". */
  private static void needThatItHas() {
    BoundObjects x = Checks.withImages(1, 1, 1, 1);
    for (int o = 0; o < 4; o++) {
      int same = o;
      C.dueThrow("itself", Checks.ARGUMENT, () -> x.need(same, same));
    }
    for (int p = 1; p <= 3; p++) {
      x.need(0, p);
      for (int had = 1; had <= p; had++) {
        int again = had;
        C.dueThrow("need " + again + " of " + p, Checks.ARGUMENT, () -> x.need(0, again));
      }
    }
  }

  private static void needsThatOthersHave() {
    BoundObjects x = Checks.withImages(1, 1, 1);
    C.due("0 needs 2", x.need(0, 2), 1);
    C.due("1 needs 2 too", x.need(1, 2), 1);
    C.due("2 needs 0 back", x.need(2, 0), 1);
    C.due("one without an image", x.need(0, 5), 2);
  }

  /** "at most 6 SYMBOLS, numbered from 0"; "IllegalStateException when o .. has 6 symbols". */
  private static void symbolsFromNoneToSix() {
    BoundObjects x = Checks.withImages(1, 1, 1);
    for (int s = 0; s < 6; s++) {
      C.due("wanted symbol", x.symbol(0, 'a' + s, -1, true), s);
      C.due("defined symbol", x.symbol(1, 'a' + s, 0, false), s);
    }
    C.dueThrow("a seventh one, wanted", Checks.STATE, () -> x.symbol(0, 'g', -1, false));
    C.dueThrow("a seventh one, defined", Checks.STATE, () -> x.symbol(1, 'g', 0, false));
    x.open(0, false, false);
    x.open(1, false, false);
    x.open(2, false, false);
    C.dueThrow("the seventh one of 0", Checks.NONE, () -> x.find(0, 'g'));
    C.dueThrow("the seventh one of 1", Checks.NONE, () -> x.find(1, 'g'));
    C.due("the first one of 1", x.find(1, 'a'), 1);
    C.due("the sixth one of 1", x.find(1, 'f'), 1);
    int steps = x.steps();
    C.dueThrow("none of no symbols", Checks.NONE, () -> x.find(2, 'a'));
    C.due("no steps through no symbols", x.steps(), steps);
  }

  /** "letters a .. z": the last codes that are letters and the first that are none, at each place of a name. */
  private static void lettersFromAToZ() {
    int[] wrong = {1, 'a' - 1, 'z' + 1, 'A', 'Z', '0', ' ', 0x7F, 0x80, 0x80 | 'a', 0x80 | 'z', 0xFF};
    BoundObjects x = Checks.withImages(1);
    x.open(0, false, false);
    for (int place = 0; place < 4; place++) {
      int shift = 8 * place;
      int letters = Checks.name("mmmm") & ~(255 << shift);
      int shorter = letters & (1 << shift) - 1;
      for (int code : wrong) {
        C.dueThrow("code " + code + " at " + place, Checks.ARGUMENT, () -> x.find(0, letters | code << shift));
        C.dueThrow("code " + code + " at the end", Checks.ARGUMENT, () -> x.find(0, shorter | code << shift));
      }
      C.dueThrow("a at " + place, Checks.NONE, () -> x.find(0, letters | 'a' << shift));
      C.dueThrow("z at " + place, Checks.NONE, () -> x.find(0, letters | 'z' << shift));
      C.dueThrow("a at the end", Checks.NONE, () -> x.find(0, shorter | 'a' << shift));
      C.dueThrow("z at the end", Checks.NONE, () -> x.find(0, shorter | 'z' << shift));
    }
  }

  /** "1 .. 4 letters": names that begin alike are not the same. */
  private static void namesOfOneToFourLetters() {
    String[] names = {"z", "zz", "zzz", "zzzz", "a", "zzza"};
    BoundObjects x = Checks.withImages(6);
    for (int s = 0; s < 6; s++) {
      C.due("symbol " + names[s], x.symbol(0, Checks.name(names[s]), s, false), s);
    }
    x.open(0, false, false);
    for (int s = 0; s < 6; s++) {
      C.due("find " + names[s], x.find(0, Checks.name(names[s])), s);
    }
    C.dueThrow("aaaa", Checks.NONE, () -> x.find(0, Checks.name("aaaa")));
    C.dueThrow("the letters turned round", Checks.NONE, () -> x.find(0, Checks.name("azzz")));
  }

  /** "0 behind them": no letters at all, or a 0 before a letter, is no name. */
  private static void zerosStandBehindTheLetters() {
    BoundObjects x = Checks.withImages(1);
    for (int holes = 0; holes < 16; holes++) {
      int name = 0;
      for (int place = 0; place < 4; place++) {
        name |= (holes >> place & 1) == 0 ? 'a' << 8 * place : 0;
      }
      int tried = name;
      if (holes == 0 || holes == 8 || holes == 12 || holes == 14) {
        x.image(0, 1);
        C.due("name with zeros behind", x.symbol(0, tried, 0, false), 0);
      } else {
        C.dueThrow("name " + tried, Checks.ARGUMENT, () -> x.symbol(0, tried, 0, false));
      }
    }
  }

  /** "a NAME .. which no other one of the object has". */
  private static void nameThatItHas() {
    BoundObjects x = Checks.withImages(1, 1);
    for (int s = 0; s < 6; s++) {
      x.symbol(0, 'a' + s, s % 2 - 1, false);
      for (int had = 0; had <= s; had++) {
        int name = 'a' + had;
        C.dueThrow("defined again", Checks.ARGUMENT, () -> x.symbol(0, name, 0, false));
        C.dueThrow("wanted again", Checks.ARGUMENT, () -> x.symbol(0, name, -1, true));
      }
    }
    C.due("a name that another object has", x.symbol(1, 'a', 0, false), 0);
  }

  /** "word is neither -1 nor one of its image". */
  private static void wordsOfASymbol() {
    int[] wrong = {LEAST, -3, -2, 4, 5, 8, MOST};
    BoundObjects x = Checks.withImages(4);
    for (int word : wrong) {
      C.dueThrow("defined at " + word, Checks.ARGUMENT, () -> x.symbol(0, 'a', word, false));
      C.dueThrow("weak at " + word, Checks.ARGUMENT, () -> x.symbol(0, 'a', word, true));
    }
    C.due("at word -1", x.symbol(0, 'a', -1, false), 0);
    C.due("at word 0", x.symbol(0, 'b', 0, false), 1);
    C.due("at word 3", x.symbol(0, 'c', 3, false), 2);
    x.open(0, false, false);
    C.dueThrow("wanted", Checks.NONE, () -> x.find(0, 'a'));
    C.due("the first word", x.find(0, 'b'), 0);
    C.due("the last word", x.find(0, 'c'), 3);
  }

  /** "weak then when flag is true": only one that is wanted; and wanted without the flag is not weak. */
  private static void weakMeansNothingForADefinedOne() {
    BoundObjects x = Checks.withImages(3, 1);
    x.symbol(0, 'a', 2, true);
    x.relocation(0, 1, 0, 0, 0);
    C.due("a defined one with the flag", x.open(0, false, false), 1);
    C.dueWords("is found", x, 0, 2);
    x.symbol(1, 'b', -1, false);
    x.relocation(1, 1, 0, 0, 0);
    C.dueThrow("wanted, not weak", Checks.NONE, () -> x.open(1, false, false));
    x.image(1, 1);
    x.symbol(1, 'b', -1, true);
    x.relocation(1, 1, 0, 0, 0);
    C.due("wanted and weak", x.open(1, false, false), 1);
  }

  /** "at most 6 RELOCATIONS, numbered from 0"; "IllegalStateException when o .. has 6 relocations". */
  private static void relocationsFromNoneToSix() {
    BoundObjects x = Checks.withImages(8, 1);
    x.symbol(0, 'a', 0, false);
    for (int r = 0; r < 6; r++) {
      C.due("relocation " + r, x.relocation(0, r % 3, r, 0, 1), r);
    }
    for (int k = 0; k < 3; k++) {
      int kind = k;
      C.dueThrow("a seventh one of kind " + kind, Checks.STATE, () -> x.relocation(0, kind, 7, 0, 1));
    }
    x.open(0, true, false);
    C.dueWords("six relocations", x, 0, 1, 1, -3, 1, 1, -6, 0, 0);
    x.open(1, true, false);
    C.dueWords("no relocations", x, 8, 0);
    C.dueThrow("relocation 0 of none", Checks.INDEX, () -> x.call(1, 0));
  }

  /** "kind is not 0 .. 2". */
  private static void kindsOfRelocations() {
    int[] wrong = {LEAST, -1, 3, 4, MOST};
    BoundObjects x = Checks.withImages(1);
    x.symbol(0, 'a', 0, false);
    for (int kind : wrong) {
      C.dueThrow("kind " + kind, Checks.ARGUMENT, () -> x.relocation(0, kind, 0, 0, 0));
    }
    for (int kind = 0; kind <= 2; kind++) {
      C.due("kind " + kind, x.relocation(0, kind, 0, 0, 0), kind);
    }
  }

  /** "word not one of its image", for each kind; -1 is none here. */
  private static void wordsOfARelocation() {
    int[] wrong = {LEAST, -2, -1, 4, 5, 8, MOST};
    BoundObjects x = Checks.withImages(4);
    x.symbol(0, 'a', 0, false);
    for (int k = 0; k <= 2; k++) {
      int kind = k;
      for (int word : wrong) {
        C.dueThrow("kind " + kind + " of word " + word, Checks.ARGUMENT, () -> x.relocation(0, kind, word, 0, 0));
      }
      C.due("of word 0", x.relocation(0, kind, 0, 0, 0), 2 * kind);
      C.due("of word 3", x.relocation(0, kind, 3, 0, 0), 2 * kind + 1);
    }
  }

  /** "symbol (kinds 1 and 2) none of its". */
  private static void symbolsOfARelocation() {
    for (int symbols = 0; symbols <= 6; symbols++) {
      BoundObjects x = Checks.withImages(1);
      for (int s = 0; s < symbols; s++) {
        x.symbol(0, 'a' + s, s % 2 - 1, false);
      }
      int[] wrong = {LEAST, -1, symbols, symbols + 1, MOST};
      for (int symbol : wrong) {
        C.dueThrow("absolute, " + symbol + " of " + symbols, Checks.ARGUMENT, () -> x.relocation(0, 1, 0, symbol, 0));
        C.dueThrow("slot, " + symbol + " of " + symbols, Checks.ARGUMENT, () -> x.relocation(0, 2, 0, symbol, 0));
      }
      if (symbols > 0) {
        C.due("absolute, the first", x.relocation(0, 1, 0, 0, 0), 0);
        C.due("absolute, the last", x.relocation(0, 1, 0, symbols - 1, 0), 1);
        C.due("slot, the first", x.relocation(0, 2, 0, 0, 0), 2);
        C.due("slot, the last", x.relocation(0, 2, 0, symbols - 1, 0), 3);
      }
    }
  }

  /** "For kind 0 symbol means nothing". */
  private static void symbolOfARelativeOneMeansNothing() {
    int[] any = {LEAST, -1, 0, 1, 6, MOST};
    BoundObjects x = Checks.withImages(6);
    for (int k = 0; k < any.length; k++) {
      C.due("relative with symbol " + any[k], x.relocation(0, 0, k, any[k], k), k);
    }
    x.open(0, false, false);
    C.dueWords("all of them", x, 0, 0, 1, 2, 3, 4, 5);
    C.due("nothing was looked up", x.steps(), 0);
  }

  /** "for kind 2 addend" means nothing. */
  private static void addendOfASlotMeansNothing() {
    int[] any = {LEAST, -1, 0, 1, MOST};
    for (int addend : any) {
      BoundObjects x = Checks.withImages(2);
      x.symbol(0, 'a', 1, false);
      x.relocation(0, 2, 0, 0, addend);
      x.open(0, false, false);
      C.dueWords("at once, addend " + addend, x, 0, 1);
      x.store(0, -1);
      C.due("called, addend " + addend, x.call(0, 0), 1);
    }
  }
}
