/** Promise 1. */
public final class NewObjectTest {
  public static void main(String[] args) {
    Checks c = new Checks();
    BoundObjects x = new BoundObjects();
    for (int o = 0; o < 6; o++) {
      int object = o;
      int other = (o + 1) % 6;
      c.dueThrow("need without an image", Checks.STATE, () -> x.need(object, other));
      c.dueThrow("wanted symbol without an image", Checks.STATE, () -> x.symbol(object, 'a', -1, false));
      c.dueThrow("open without an image", Checks.STATE, () -> x.open(object, true, true));
      c.dueThrow("close when nothing is open", Checks.STATE, () -> x.close(object));
      c.dueThrow("find when nothing is loaded", Checks.STATE, () -> x.find(object, 'a'));
      c.due("base", x.base(o), -1);
      c.due("opened", x.opened(o), 0);
      c.due("global", x.global(o), -1);
    }
    for (int address = 0; address < 32; address++) {
      c.due("word", x.word(address), 0);
      c.due("store", x.store(address, 1), false);
    }
    c.due("events", x.events(), 0);
    c.due("steps", x.steps(), 0);
    c.dueThrow("event when there is none", Checks.NONE, () -> x.event(0));
    c.end();
  }
}
