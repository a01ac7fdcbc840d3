import java.util.function.Consumer;
import java.util.function.IntSupplier;

/**
 * "A call that throws changes nothing but what is said there": each refused call is made on one of two objects that are
 * otherwise used alike, and all that the two answer from then on has to be the same. The steps alone may differ, by so
 * many as are due.
 */
public final class RefusedCallTest {
  private static final Checks C = new Checks();
  private static final int[] NO_OBJECT = {Integer.MIN_VALUE, -1, 6, Integer.MAX_VALUE};
  private static final Consumer<BoundObjects> AS_MADE = x -> { };

  public static void main(String[] args) {
    refusedImages();
    refusedNeeds();
    refusedSymbols();
    refusedRelocations();
    refusedOpenings();
    refusedClosings();
    refusedCalls();
    refusedFinds();
    refusedQuestions();
    C.end();
  }

  private static void refusedImages() {
    for (int o : NO_OBJECT) {
      refused("image of no object", Checks.INDEX, x -> x.image(o, 1));
    }
    int[] wrong = {-1, 0, 9};
    for (int words : wrong) {
      refused("no length", Checks.ARGUMENT, x -> x.image(BoundWorld.GROWING, words));
      refused("no length, no image", Checks.ARGUMENT, x -> x.image(BoundWorld.BARE, words));
      refused("no length, loaded", Checks.ARGUMENT, x -> x.image(BoundWorld.LOADED, words));
    }
    refused("image of an open one", Checks.STATE, x -> x.image(BoundWorld.LOADED, 1));
    refused("image of a needed one", Checks.STATE, x -> x.image(BoundWorld.NEEDED, 8));
  }

  private static void refusedNeeds() {
    for (int none : NO_OBJECT) {
      refused("need of no object", Checks.INDEX, x -> x.need(none, 0));
      refused("need for no object", Checks.INDEX, x -> x.need(BoundWorld.GROWING, none));
    }
    refused("itself", Checks.ARGUMENT, x -> x.need(BoundWorld.GROWING, BoundWorld.GROWING));
    refused("a need that it has", Checks.ARGUMENT, x -> x.need(BoundWorld.GROWING, BoundWorld.BARE));
    refused("no image", Checks.STATE, x -> x.need(BoundWorld.BARE, BoundWorld.LOADED));
    refused("loaded", Checks.STATE, x -> x.need(BoundWorld.LOADED, BoundWorld.GROWING));
    refused("a fourth need", Checks.STATE, x -> x.need(BoundWorld.FULL, BoundWorld.GROWING));
  }

  private static void refusedSymbols() {
    int growing = BoundWorld.GROWING;
    for (int none : NO_OBJECT) {
      refused("symbol of no object", Checks.INDEX, x -> x.symbol(none, 'x', -1, true));
    }
    refused("no name", Checks.ARGUMENT, x -> x.symbol(growing, 0, 0, false));
    refused("no letter", Checks.ARGUMENT, x -> x.symbol(growing, 'z' + 1, 0, false));
    refused("a name that it has", Checks.ARGUMENT, x -> x.symbol(growing, BoundWorld.HAD, 1, false));
    refused("a wanted name that it has", Checks.ARGUMENT, x -> x.symbol(growing, 'q', 1, false));
    refused("a wanted name, weak now", Checks.ARGUMENT, x -> x.symbol(growing, 'q', -1, true));
    refused("word -2", Checks.ARGUMENT, x -> x.symbol(growing, 'x', -2, true));
    refused("word 8", Checks.ARGUMENT, x -> x.symbol(growing, 'x', 8, false));
    refused("a word of no image", Checks.ARGUMENT, x -> x.symbol(BoundWorld.BARE, 'q', 0, false));
    refused("no image", Checks.STATE, x -> x.symbol(BoundWorld.BARE, 'q', -1, false));
    refused("loaded", Checks.STATE, x -> x.symbol(BoundWorld.LOADED, Checks.name("none") >>> 8, 0, false));
    refused("a seventh symbol", Checks.STATE, x -> x.symbol(BoundWorld.FULL, 'x', 0, false));
  }

  private static void refusedRelocations() {
    int growing = BoundWorld.GROWING;
    for (int none : NO_OBJECT) {
      refused("relocation of no object", Checks.INDEX, x -> x.relocation(none, 0, 0, 0, 0));
    }
    refused("kind -1", Checks.ARGUMENT, x -> x.relocation(growing, -1, 0, 0, 9));
    refused("kind 3", Checks.ARGUMENT, x -> x.relocation(growing, 3, 0, 0, 9));
    refused("word -1", Checks.ARGUMENT, x -> x.relocation(growing, 0, -1, 0, 9));
    refused("word 8", Checks.ARGUMENT, x -> x.relocation(growing, 0, 8, 0, 9));
    for (int kind = 1; kind <= 2; kind++) {
      int k = kind;
      refused("symbol -1", Checks.ARGUMENT, x -> x.relocation(growing, k, 0, -1, 9));
      refused("symbol 2 of 2", Checks.ARGUMENT, x -> x.relocation(growing, k, 0, 2, 9));
    }
    refused("a word of no image", Checks.ARGUMENT, x -> x.relocation(BoundWorld.BARE, 0, 0, 0, 9));
    refused("loaded", Checks.STATE, x -> x.relocation(BoundWorld.LOADED, 0, 4, 0, 9));
    refused("a seventh relocation", Checks.STATE, x -> x.relocation(BoundWorld.FULL, 0, 7, 0, 9));
  }

  /** "In any of these cases all is as it was before (but for the steps)." */
  private static void refusedOpenings() {
    for (int none : NO_OBJECT) {
      refused("open no object", Checks.INDEX, x -> x.open(none, false, true));
    }
    refused("no image", Checks.STATE, x -> x.open(BoundWorld.BARE, false, true));
    refused("a need has no image", Checks.STATE, x -> x.open(BoundWorld.GROWING, false, true));
    refusedAfter(x -> {
      x.image(BoundWorld.BARE, 8);
      x.open(BoundWorld.FULL, false, false);
    }, "no place for the last one", Checks.STATE, 0, x -> x.open(BoundWorld.GROWING, false, true));
    refusedAfter(x -> x.image(BoundWorld.BARE, 8), "fails, not globally", Checks.NONE, 1,
        x -> x.open(BoundWorld.GROWING, true, false));
    refusedAfter(x -> x.image(BoundWorld.BARE, 8), "fails, globally", Checks.NONE, 2,
        x -> x.open(BoundWorld.GROWING, true, true));
    refusedAfter(RefusedCallTest::letGrowingUseAndThenFail, "uses some, then fails", Checks.NONE, 10,
        x -> x.open(BoundWorld.GROWING, false, true));
  }

  /** Its first relocation fails no more, its second one uses USED, its third one fails. */
  private static void letGrowingUseAndThenFail(BoundObjects x) {
    x.image(BoundWorld.BARE, 8);
    x.symbol(BoundWorld.BARE, 'q', 0, false);
    x.symbol(BoundWorld.GROWING, 'u', -1, false);
    x.symbol(BoundWorld.GROWING, 'r', -1, false);
    x.relocation(BoundWorld.GROWING, 2, 0, 2, 0);
    x.relocation(BoundWorld.GROWING, 2, 1, 3, 0);
  }

  private static void refusedClosings() {
    for (int none : NO_OBJECT) {
      refused("close no object", Checks.INDEX, x -> x.close(none));
    }
    refused("no image", Checks.STATE, x -> x.close(BoundWorld.BARE));
    refused("not loaded", Checks.STATE, x -> x.close(BoundWorld.FULL));
    refused("loaded, not open", Checks.STATE, x -> x.close(BoundWorld.NEEDED));
    refusedAfter(x -> x.close(BoundWorld.USED), "used, open no more", Checks.STATE, 0, x -> x.close(BoundWorld.USED));
  }

  private static void refusedCalls() {
    for (int none : NO_OBJECT) {
      refused("call no object", Checks.INDEX, x -> x.call(none, 0));
    }
    refused("relocation -1", Checks.INDEX, x -> x.call(BoundWorld.LOADED, -1));
    refused("relocation 4 of 4", Checks.INDEX, x -> x.call(BoundWorld.LOADED, 4));
    refused("relocation 0 of none", Checks.INDEX, x -> x.call(BoundWorld.NEEDED, 0));
    refused("no slot", Checks.ARGUMENT, x -> x.call(BoundWorld.LOADED, BoundWorld.RELATIVE));
    refused("no slot, not loaded", Checks.ARGUMENT, x -> x.call(BoundWorld.FULL, 5));
    refusedAfter(x -> x.relocation(BoundWorld.GROWING, 2, 0, 0, 0), "not loaded", Checks.STATE, 0,
        x -> x.call(BoundWorld.GROWING, 1));
    refusedAfter(AS_MADE, "found nowhere", Checks.NONE, 5, x -> x.call(BoundWorld.LOADED, BoundWorld.FAILING));
  }

  private static void refusedFinds() {
    for (int none : NO_OBJECT) {
      refused("find in no object", Checks.INDEX, x -> x.find(none, 'a'));
    }
    refused("no name", Checks.ARGUMENT, x -> x.find(BoundWorld.LOADED, 0));
    refused("no image", Checks.STATE, x -> x.find(BoundWorld.BARE, 'a'));
    refused("not loaded", Checks.STATE, x -> x.find(BoundWorld.FULL, 'b'));
    refusedAfter(AS_MADE, "none defines it", Checks.NONE, 2, x -> x.find(BoundWorld.LOADED, 'd'));
  }

  private static void refusedQuestions() {
    int[] noAddress = {Integer.MIN_VALUE, -1, 32, Integer.MAX_VALUE};
    for (int address : noAddress) {
      refused("word of no address", Checks.INDEX, x -> x.word(address));
    }
    int[] noEvent = {Integer.MIN_VALUE, -1, 3, 39, 40, Integer.MAX_VALUE};
    for (int k : noEvent) {
      refused("no such event", Checks.NONE, x -> x.event(k));
    }
  }

  private static void refused(String what, Class<? extends RuntimeException> want, Consumer<BoundObjects> call) {
    refusedAfter(AS_MADE, what, want, 0, call);
  }

  private static void refusedAfter(
      Consumer<BoundObjects> before, String what, Class<? extends RuntimeException> want, int steps,
      Consumer<BoundObjects> call) {
    BoundObjects x = BoundWorld.make();
    BoundObjects twin = BoundWorld.make();
    before.accept(x);
    before.accept(twin);
    C.dueThrow(what, want, () -> call.accept(x));
    C.due(what + ": steps", x.steps(), twin.steps() + steps);
    C.due(what + ": all else", Checks.look(x), Checks.look(twin));
    C.due(what + ": from then on", goOn(x), goOn(twin));
    C.due(what + ": at the end", Checks.look(x), Checks.look(twin));
    C.due(what + ": steps at the end", x.steps(), twin.steps() + steps);
  }

  /** Calls whose answers tell of what no question tells: needs, symbols, relocations, groups, uses, the order begun. */
  private static String goOn(BoundObjects x) {
    StringBuilder told = new StringBuilder();
    declareMore(x, told);
    tell(told, () -> x.call(BoundWorld.LOADED, BoundWorld.UNBOUND));
    tell(told, () -> x.call(BoundWorld.LOADED, BoundWorld.FAILING));
    tell(told, () -> x.find(BoundWorld.LOADED, BoundWorld.HAD));
    tell(told, () -> x.open(BoundWorld.GROWING, true, true));
    tell(told, () -> x.open(BoundWorld.FULL, false, true));
    for (int k = 0; k < 6; k++) {
      int name = BoundWorld.HAD + k;
      tell(told, () -> x.find(BoundWorld.FULL, name));
    }
    for (int address = 9; address < 17; address++) {
      told.append(' ').append(x.word(address));
    }
    closeAll(x, told);
    openTheGrownOne(x, told);
    closeAll(x, told);
    return told.toString();
  }

  private static void declareMore(BoundObjects x, StringBuilder told) {
    tell(told, () -> x.need(BoundWorld.BARE, BoundWorld.NEEDED));
    tell(told, () -> x.symbol(BoundWorld.BARE, 's', -1, true));
    tell(told, () -> x.need(BoundWorld.FULL, BoundWorld.BARE));
    tell(told, () -> x.symbol(BoundWorld.FULL, 's', 0, false));
    tell(told, () -> x.relocation(BoundWorld.FULL, 0, 6, 0, 0));
    tell(told, () -> x.need(BoundWorld.GROWING, BoundWorld.NEEDED));
    tell(told, () -> x.symbol(BoundWorld.GROWING, 's', 6, false));
    tell(told, () -> x.symbol(BoundWorld.GROWING, 't', 5, false));
    tell(told, () -> x.relocation(BoundWorld.GROWING, 2, 6, 0, 0));
  }

  private static void openTheGrownOne(BoundObjects x, StringBuilder told) {
    x.image(BoundWorld.BARE, 2);
    tell(told, () -> x.symbol(BoundWorld.BARE, 'q', 1, false));
    tell(told, () -> x.symbol(BoundWorld.BARE, 'r', 0, false));
    tell(told, () -> x.open(BoundWorld.USED, false, true));
    tell(told, () -> x.open(BoundWorld.GROWING, true, false));
    for (int address = 0; address < 16; address++) {
      told.append(' ').append(x.word(address));
    }
    for (int r = 0; r < 6; r++) {
      int number = r;
      tell(told, () -> x.call(BoundWorld.GROWING, number));
    }
    tell(told, () -> x.close(BoundWorld.USED));
  }

  private static void closeAll(BoundObjects x, StringBuilder told) {
    for (int o = 0; o < 6; o++) {
      int object = o;
      while (x.opened(object) > 0) {
        tell(told, () -> x.close(object));
      }
    }
  }

  private static void tell(StringBuilder told, IntSupplier call) {
    told.append(' ');
    try {
      told.append(call.getAsInt());
    } catch (RuntimeException e) {
      told.append(e.getClass().getSimpleName());
    }
  }
}
