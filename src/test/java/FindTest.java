/** Promise 9. */
public final class FindTest {
  private static final Checks C = new Checks();

  public static void main(String[] args) {
    findsInTheClosureInOrder();
    goesThroughTheClosureAlone();
    usesNothing();
    refusesWrongInputs();
    C.end();
  }

  private static void findsInTheClosureInOrder() {
    BoundObjects x = Checks.withImages(2, 2, 2, 2);
    x.need(0, 1);
    x.need(0, 2);
    x.need(1, 3);
    x.symbol(0, 'b', -1, false);
    x.symbol(2, 'b', 1, false);
    x.symbol(3, 'b', 0, false);
    x.relocation(0, 2, 0, 0, 0);
    x.open(0, true, false);
    C.due("a wanted one does not define it; 2 comes before 3", x.find(0, 'b'), 5);
    C.due("steps", x.steps(), 2);
    C.due("3 is in the closure of 1", x.find(1, 'b'), 6);
    C.due("steps", x.steps(), 3);
    C.dueThrow("in none of the closure", Checks.NONE, () -> x.find(0, 'c'));
    C.due("no symbol with that hash", x.steps(), 3);
    C.dueThrow("in none of the closure", Checks.NONE, () -> x.find(0, 'e'));
    C.due("the steps of a failing find are counted", x.steps(), 6);
  }

  private static void goesThroughTheClosureAlone() {
    BoundObjects x = Checks.withImages(2, 2, 2);
    x.need(0, 1);
    x.symbol(0, 'a', 1, false);
    x.symbol(2, 'b', 1, false);
    x.open(2, false, true);
    x.open(0, false, true);
    C.dueThrow("global, not in the closure", Checks.NONE, () -> x.find(0, 'b'));
    C.dueThrow("in the group, not in the closure", Checks.NONE, () -> x.find(1, 'a'));
    C.due("its own", x.find(0, 'a'), 3);
  }

  private static void usesNothing() {
    BoundObjects x = Checks.withImages(2, 2);
    x.need(0, 1);
    x.need(1, 0);
    x.symbol(1, 'a', 1, false);
    x.open(0, false, false);
    C.due("in a ring", x.find(0, 'a'), 3);
    C.due("find keeps nothing", x.close(0), 2);
  }

  private static void refusesWrongInputs() {
    BoundObjects x = Checks.withImages(2);
    x.symbol(0, 'a', 1, false);
    C.dueThrow("object -1", Checks.INDEX, () -> x.find(-1, 0));
    C.dueThrow("object 6", Checks.INDEX, () -> x.find(6, 'a'));
    C.dueThrow("no name, not loaded", Checks.ARGUMENT, () -> x.find(0, 0));
    C.dueThrow("not loaded", Checks.STATE, () -> x.find(0, 'a'));
    x.open(0, false, false);
    int[] none = {0, 'A', 'a' << 8, -1, Checks.name("abc") | 0xE1 << 24, 'a' | 'b' << 16};
    for (int name : none) {
      C.dueThrow("name " + name, Checks.ARGUMENT, () -> x.find(0, name));
    }
    C.due("steps", x.steps(), 0);
    C.dueThrow("none defines it", Checks.NONE, () -> x.find(0, Checks.name("aaaa")));
    C.due("find", x.find(0, 'a'), 1);
  }
}
