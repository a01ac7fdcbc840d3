import java.util.ArrayList;
import java.util.List;
import java.util.Random;
import java.util.function.IntSupplier;

/** Mixed runs of calls on BoundObjects and on the Model, whose answers must be the same; the seeds are fixed. */
public final class ModelTest {
  private static final int RUNS = 6000;
  private static final int MOST_SHOWN = 10;
  private static final int MOST_BEFORE_THE_LOOK = 350;
  private static final String[] NAMES = {"a", "d", "ab", "bcd", "zz", "abcd", "z"};
  private static final int[] ODD_NAMES = {
    0, 'A', 'a' << 8, 'a' | 'b' << 16, 'a' | 'z' + 1 << 8, Checks.name("abc") | 0xE1 << 24, -1, Integer.MAX_VALUE
  };
  private static final int[] ODD = {-1, 6, 7, 31, 32, -2, Integer.MIN_VALUE, Integer.MAX_VALUE};

  private final Random random;
  private final BoundObjects real = new BoundObjects();
  private final Model model = new Model();
  private final List<String> told = new ArrayList<>();
  private boolean differed = false;

  private ModelTest(long seed) {
    random = new Random(seed);
  }

  public static void main(String[] args) {
    int wrong = 0;
    for (int seed = 0; seed < RUNS && wrong < MOST_SHOWN; seed++) {
      ModelTest run = new ModelTest(seed);
      run.go();
      if (run.differed) {
        wrong++;
        System.out.println("run " + seed + ": " + String.join("; ", run.told));
      }
    }
    if (wrong != 0) {
      System.exit(1);
    }
  }

  /** Fewer calls than the document's 512, those of the last look at everything among them. */
  private void go() {
    for (int o = 0; o < 6; o++) {
      if (random.nextInt(12) != 0) {
        declare(o);
      }
    }
    int calls = 20 + random.nextInt(200);
    for (int k = 0; k < calls && told.size() < MOST_BEFORE_THE_LOOK && !differed; k++) {
      anyCall();
    }
    lookAtAll();
  }

  private void declare(int o) {
    // Now and then as much as it takes, and one more of each.
    boolean full = random.nextInt(10) == 0;
    image(o, full ? 8 : 1 + random.nextInt(random.nextInt(4) == 0 ? 8 : 5));
    for (int k = full ? 6 : random.nextInt(3); k > 0; k--) {
      need(o, random.nextInt(6));
    }
    for (int k = full ? 10 : random.nextInt(5); k > 0; k--) {
      symbol(o);
    }
    for (int k = full ? 7 : random.nextInt(4); k > 0; k--) {
      relocation(o);
    }
  }

  private void anyCall() {
    int o = mostly(6);
    switch (random.nextInt(24)) {
      case 0 -> {
        if (o >= 0 && o < 6 && random.nextInt(2) == 0 && real.base(o) < 0) {
          declare(o);
        }
      }
      case 1 -> image(o, mostly(9));
      case 2 -> need(o, mostly(6));
      case 3 -> symbol(o);
      case 4 -> relocation(o);
      case 5, 6, 7, 8, 9 -> open(o);
      case 10, 11, 12, 13 -> same("close(" + o + ")", () -> real.close(o), () -> model.close(o));
      case 14, 15, 16 -> call(o, mostly(7));
      case 17 -> find(o, anyName());
      case 18, 19 -> store(mostly(32), random.nextInt(3) == 0 ? random.nextInt() : -1 - random.nextInt(4));
      case 20 -> same("base(" + o + ")", () -> real.base(o), () -> model.base(o));
      case 21 -> same("opened(" + o + ")", () -> real.opened(o), () -> model.opened(o));
      case 22 -> event(mostly(44));
      default -> same("steps()", real::steps, model::steps);
    }
  }

  private void lookAtAll() {
    for (int address = -1; address <= 32; address++) {
      int a = address;
      same("word(" + a + ")", () -> real.word(a), () -> model.word(a));
    }
    for (int index = -1; index <= 6; index++) {
      int i = index;
      same("base(" + i + ")", () -> real.base(i), () -> model.base(i));
      same("opened(" + i + ")", () -> real.opened(i), () -> model.opened(i));
      same("global(" + i + ")", () -> real.global(i), () -> model.global(i));
    }
    for (int k = -1; k <= 40; k++) {
      event(k);
    }
    same("events()", real::events, model::events);
    same("steps()", real::steps, model::steps);
  }

  private int mostly(int bound) {
    return random.nextInt(16) == 0 ? ODD[random.nextInt(ODD.length)] : random.nextInt(bound);
  }

  private int anyName() {
    if (random.nextInt(16) == 0) {
      return ODD_NAMES[random.nextInt(ODD_NAMES.length)];
    }
    return Checks.name(NAMES[random.nextInt(NAMES.length)]);
  }

  private void image(int o, int words) {
    same("image(" + o + ", " + words + ")", () -> {
      real.image(o, words);
      return 0;
    }, () -> {
      model.image(o, words);
      return 0;
    });
  }

  private void need(int o, int p) {
    same("need(" + o + ", " + p + ")", () -> real.need(o, p), () -> model.need(o, p));
  }

  private void symbol(int o) {
    int name = anyName();
    int word = random.nextInt(5) - 1;
    boolean flag = random.nextInt(3) != 0;
    same("symbol(" + o + ", " + name + ", " + word + ", " + flag + ")",
        () -> real.symbol(o, name, word, flag), () -> model.symbol(o, name, word, flag));
  }

  private void relocation(int o) {
    int kind = random.nextInt(20) == 0 ? mostly(4) : random.nextInt(3);
    int word = mostly(4);
    int symbol = mostly(3);
    int addend = random.nextInt(8) == 0 ? random.nextInt() : random.nextInt(5) - 3;
    same("relocation(" + o + ", " + kind + ", " + word + ", " + symbol + ", " + addend + ")",
        () -> real.relocation(o, kind, word, symbol, addend), () -> model.relocation(o, kind, word, symbol, addend));
  }

  private void open(int o) {
    boolean lazily = random.nextInt(3) != 0;
    boolean globally = random.nextInt(2) == 0;
    same("open(" + o + ", " + lazily + ", " + globally + ")",
        () -> real.open(o, lazily, globally), () -> model.open(o, lazily, globally));
  }

  private void call(int o, int r) {
    same("call(" + o + ", " + r + ")", () -> real.call(o, r), () -> model.call(o, r));
  }

  private void find(int o, int name) {
    same("find(" + o + ", " + name + ")", () -> real.find(o, name), () -> model.find(o, name));
  }

  private void store(int address, int v) {
    same("store(" + address + ", " + v + ")",
        () -> real.store(address, v) ? 1 : 0, () -> model.store(address, v) ? 1 : 0);
  }

  private void event(int k) {
    same("event(" + k + ")", () -> real.event(k), () -> model.event(k));
  }

  /** A run is told up to the first answer that differs; what follows that is of no worth. */
  private void same(String call, IntSupplier realCall, IntSupplier modelCall) {
    if (differed) {
      return;
    }
    String got = answer(realCall);
    String want = answer(modelCall);
    told.add(call + " " + got);
    if (!got.equals(want)) {
      differed = true;
      told.add("due is " + want);
    }
  }

  private static String answer(IntSupplier call) {
    try {
      return String.valueOf(call.getAsInt());
    } catch (RuntimeException e) {
      return e.getClass().getSimpleName();
    }
  }
}
