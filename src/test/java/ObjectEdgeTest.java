/** "OBJECTS 0 .. 5": the first and the last one, and what is none, in every call that takes an object. */
public final class ObjectEdgeTest {
  private static final Checks C = new Checks();
  private static final int[] NO_OBJECT = {Integer.MIN_VALUE, -2, -1, 6, 7, 256, Integer.MAX_VALUE};

  public static void main(String[] args) {
    for (int o : NO_OBJECT) {
      refusedByEveryCall(o);
      toldByEveryQuestion(o);
    }
    takenByEveryCall(0, 5);
    takenByEveryCall(5, 0);
    C.end();
  }

  private static void refusedByEveryCall(int o) {
    BoundObjects x = Checks.withImages(1, 1, 1, 1, 1, 1);
    C.dueThrow("image(" + o + ", 1)", Checks.INDEX, () -> x.image(o, 1));
    C.dueThrow("need(" + o + ", 1)", Checks.INDEX, () -> x.need(o, 1));
    C.dueThrow("need(1, " + o + ")", Checks.INDEX, () -> x.need(1, o));
    C.dueThrow("symbol(" + o + ")", Checks.INDEX, () -> x.symbol(o, 'a', 0, false));
    C.dueThrow("relocation(" + o + ")", Checks.INDEX, () -> x.relocation(o, 0, 0, 0, 0));
    C.dueThrow("open(" + o + ")", Checks.INDEX, () -> x.open(o, false, false));
    C.dueThrow("close(" + o + ")", Checks.INDEX, () -> x.close(o));
    C.dueThrow("call(" + o + ", 0)", Checks.INDEX, () -> x.call(o, 0));
    C.dueThrow("find(" + o + ")", Checks.INDEX, () -> x.find(o, 'a'));
  }

  private static void toldByEveryQuestion(int o) {
    BoundObjects x = Checks.withImages(1, 1, 1, 1, 1, 1);
    for (int p = 0; p < 6; p++) {
      x.open(p, false, true);
    }
    C.due("base(" + o + ")", x.base(o), -1);
    C.due("opened(" + o + ")", x.opened(o), 0);
    C.due("global(" + o + ")", x.global(o), -1);
  }

  private static void takenByEveryCall(int o, int p) {
    BoundObjects x = new BoundObjects();
    x.image(o, 2);
    x.image(p, 1);
    C.due("need", x.need(o, p), 1);
    C.due("symbol", x.symbol(o, 'a', 1, false), 0);
    C.due("relocation", x.relocation(o, 2, 0, 0, 0), 0);
    C.due("open", x.open(o, true, true), 2);
    C.due("call", x.call(o, 0), 1);
    C.due("find", x.find(o, 'a'), 1);
    C.due("base of the one", x.base(o), 0);
    C.due("base of the other", x.base(p), 2);
    C.due("opened", x.opened(o), 1);
    C.dueGlobal("both", x, o, p);
    C.dueEvents("both began", x, p, o);
    C.due("close", x.close(o), 2);
    C.dueEvents("both ended", x, -1 - o, -1 - p);
  }
}
