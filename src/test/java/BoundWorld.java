/** What tests of refused calls begin with: objects of every sort that such a call can be about. */
final class BoundWorld {
  /** Loaded and open; it needs NEEDED and uses USED. */
  static final int LOADED = 0;
  /** Loaded as a need of LOADED, not open. */
  static final int NEEDED = 1;
  /** Loaded, open, and in the global row before the others. */
  static final int USED = 2;
  /** Not loaded, with 3 needs (the first three), 6 symbols and 6 relocations. */
  static final int FULL = 3;
  /** Not loaded, with one need (BARE), two symbols and one relocation, which fails unless BARE defines "q". */
  static final int GROWING = 4;
  /** Without an image. */
  static final int BARE = 5;

  /** A symbol that LOADED, NEEDED, FULL and GROWING have. */
  static final int HAD = 'a';
  /** Relocations of LOADED: a slot that is unbound, one that fails, one that is no slot, one that is bound. */
  static final int UNBOUND = 0;
  static final int FAILING = 1;
  static final int RELATIVE = 2;
  static final int BOUND = 3;

  private BoundWorld() {
  }

  /** Bases: USED 0, LOADED 2, NEEDED 8; the space is free from 9 on. */
  static BoundObjects make() {
    BoundObjects x = Checks.withImages(6, 1, 2, 8, 8);
    declareThoseToLoad(x);
    declareFull(x);
    x.need(GROWING, BARE);
    x.symbol(GROWING, HAD, 7, false);
    x.symbol(GROWING, 'q', -1, false);
    x.relocation(GROWING, 1, 7, 1, 3);
    x.open(USED, false, true);
    x.open(LOADED, true, true);
    x.call(LOADED, BOUND);
    x.store(6, 66);
    return x;
  }

  private static void declareThoseToLoad(BoundObjects x) {
    x.symbol(NEEDED, HAD, 0, false);
    x.symbol(USED, 'u', 1, false);
    x.need(LOADED, NEEDED);
    x.symbol(LOADED, HAD, -1, false);
    x.symbol(LOADED, Checks.name("none"), -1, false);
    x.symbol(LOADED, 'u', -1, true);
    x.relocation(LOADED, 2, 0, 0, 0);
    x.relocation(LOADED, 2, 1, 1, 0);
    x.relocation(LOADED, 0, 2, 0, 70);
    x.relocation(LOADED, 2, 3, 2, 0);
  }

  private static void declareFull(BoundObjects x) {
    for (int p = 0; p < 3; p++) {
      x.need(FULL, p);
    }
    for (int k = 0; k < 6; k++) {
      x.symbol(FULL, HAD + k, k % 2 - 1, true);
    }
    for (int k = 0; k < 6; k++) {
      x.relocation(FULL, 1, k, k, k);
    }
  }
}
