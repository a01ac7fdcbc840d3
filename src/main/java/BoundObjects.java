import java.util.NoSuchElementException;

/**
 * Objects with images, symbols and relocations that are brought into one space together with those that they need,
 * bound to one another's symbols, begun and ended in order, and taken out again when nothing keeps them.
 *
 * <p>All rows are made by the constructor and filled anew, so that no call makes anything but its exception. Sets of
 * objects are held as ints, bit o for object o.
 */
public final class BoundObjects {
  private static final int OBJECTS = 6;
  private static final int MOST_WORDS = 8;
  private static final int MOST_NEEDS = 3;
  private static final int MOST_SYMBOLS = 6;
  private static final int MOST_RELOCATIONS = 6;
  private static final int ADDRESSES = 32;
  private static final int KEPT_EVENTS = 40;
  private static final int CHAINS = 3;

  private static final int RELATIVE = 0;
  private static final int ABSOLUTE = 1;
  private static final int SLOT = 2;

  /** Stands for no object, no base, no address, and for the place of a symbol that is wanted. */
  private static final int NONE = -1;

  private final Linkable[] linkables = new Linkable[OBJECTS];
  private final Space space = new Space();
  private final Journal journal = new Journal();
  private final Row globalRow = new Row();
  /** The loaded objects in the order in which they began. */
  private final Row begun = new Row();
  /** The closure that the call under way has filled in. */
  private final Row closure = new Row();
  /** Those that the opening under way has loaded and that have not been gone into. */
  private int newcomers = 0;
  private int stepCount = 0;

  public BoundObjects() {
    for (int o = 0; o < OBJECTS; o++) {
      linkables[o] = new Linkable();
    }
  }

  public void image(int o, int words)
      throws IndexOutOfBoundsException, IllegalArgumentException, IllegalStateException {
    checkObject(o);
    if (words < 1 || words > MOST_WORDS) {
      throw new IllegalArgumentException();
    }
    if (linkables[o].isLoaded()) {
      throw new IllegalStateException();
    }
    linkables[o].startAnew(words);
  }

  public int need(int o, int p)
      throws IndexOutOfBoundsException, IllegalArgumentException, IllegalStateException {
    checkObject(o);
    checkObject(p);
    Row needs = linkables[o].needs;
    if (o == p || needs.has(p)) {
      throw new IllegalArgumentException();
    }
    checkMayGrow(o, needs.size, MOST_NEEDS);
    needs.put(p);
    return needs.size;
  }

  public int symbol(int o, int name, int word, boolean flag)
      throws IndexOutOfBoundsException, IllegalArgumentException, IllegalStateException {
    checkObject(o);
    Symbols symbols = linkables[o].symbols;
    if (!isName(name) || symbols.has(name) || (word != NONE && !linkables[o].hasWord(word))) {
      throw new IllegalArgumentException();
    }
    checkMayGrow(o, symbols.size, MOST_SYMBOLS);
    return symbols.add(name, word, flag);
  }

  public int relocation(int o, int kind, int word, int symbol, int addend)
      throws IndexOutOfBoundsException, IllegalArgumentException, IllegalStateException {
    checkObject(o);
    Linkable linkable = linkables[o];
    if (kind < RELATIVE || kind > SLOT || !linkable.hasWord(word)) {
      throw new IllegalArgumentException();
    }
    if (kind != RELATIVE && (symbol < 0 || symbol >= linkable.symbols.size)) {
      throw new IllegalArgumentException();
    }
    checkMayGrow(o, linkable.relocations.size, MOST_RELOCATIONS);
    return linkable.relocations.add(kind, word, symbol, addend);
  }

  public int open(int o, boolean lazily, boolean globally)
      throws IndexOutOfBoundsException, IllegalStateException, NoSuchElementException {
    checkObject(o);
    fillClosure(o);
    if (!closureHasImages()) {
      throw new IllegalStateException();
    }
    if (!loadClosure()) {
      takeOutNewcomers();
      throw new IllegalStateException();
    }
    int globalBefore = globalRow.size;
    if (globally) {
      globalRow.putAll(closure);
    }
    if (!relocateNewcomers(lazily)) {
      globalRow.cutTo(globalBefore);
      takeOutNewcomers();
      throw new NoSuchElementException();
    }
    int loaded = Integer.bitCount(newcomers);
    if (isIn(newcomers, o)) {
      goInto(o, 1);
    }
    linkables[o].openings++;
    return loaded;
  }

  public int close(int o) throws IndexOutOfBoundsException, IllegalStateException {
    checkObject(o);
    if (linkables[o].openings == 0) {
      throw new IllegalStateException();
    }
    linkables[o].openings--;
    return endAllBut(keptOnes());
  }

  public int call(int o, int r)
      throws IndexOutOfBoundsException, IllegalArgumentException, IllegalStateException, NoSuchElementException {
    checkObject(o);
    Linkable linkable = linkables[o];
    Relocations relocations = linkable.relocations;
    if (r < 0 || r >= relocations.size) {
      throw new IndexOutOfBoundsException();
    }
    if (relocations.kinds[r] != SLOT) {
      throw new IllegalArgumentException();
    }
    checkLoaded(o);
    int slot = linkable.base + relocations.places[r];
    if (space.words[slot] == unboundSlot(r)) {
      int address = resolve(o, relocations.symbols[r]);
      if (address == NONE) {
        throw new NoSuchElementException();
      }
      space.words[slot] = address;
    }
    return space.words[slot];
  }

  public int find(int o, int name)
      throws IndexOutOfBoundsException, IllegalArgumentException, IllegalStateException, NoSuchElementException {
    checkObject(o);
    if (!isName(name)) {
      throw new IllegalArgumentException();
    }
    checkLoaded(o);
    fillClosure(o);
    int owner = firstDefining(closure, name);
    if (owner == NONE) {
      throw new NoSuchElementException();
    }
    return addressIn(owner, name);
  }

  public int word(int address) throws IndexOutOfBoundsException {
    if (address < 0 || address >= ADDRESSES) {
      throw new IndexOutOfBoundsException();
    }
    return space.words[address];
  }

  public boolean store(int address, int v) {
    if (!space.hasImageAt(address)) {
      return false;
    }
    space.words[address] = v;
    return true;
  }

  public int base(int o) {
    return isObject(o) ? linkables[o].base : NONE;
  }

  public int opened(int o) {
    return isObject(o) ? linkables[o].openings : 0;
  }

  public int global(int k) {
    return k >= 0 && k < globalRow.size ? globalRow.members[k] : NONE;
  }

  public int events() {
    return journal.count;
  }

  public int event(int k) throws NoSuchElementException {
    if (k < 0 || k >= KEPT_EVENTS || k >= journal.count) {
      throw new NoSuchElementException();
    }
    return journal.latestBut(k);
  }

  public int steps() {
    return stepCount;
  }

  private static boolean isObject(int o) {
    return o >= 0 && o < OBJECTS;
  }

  private static void checkObject(int o) {
    if (!isObject(o)) {
      throw new IndexOutOfBoundsException();
    }
  }

  private void checkLoaded(int o) {
    if (!linkables[o].isLoaded()) {
      throw new IllegalStateException();
    }
  }

  private void checkMayGrow(int o, int size, int most) {
    Linkable linkable = linkables[o];
    if (linkable.words == 0 || linkable.isLoaded() || size >= most) {
      throw new IllegalStateException();
    }
  }

  private static boolean isIn(int set, int o) {
    return (set >> o & 1) != 0;
  }

  private static boolean isLetter(int code) {
    return code >= 'a' && code <= 'z';
  }

  private static boolean isName(int name) {
    boolean ended = false;
    for (int shift = 0; shift < 32; shift += 8) {
      int code = name >>> shift & 255;
      if (code != 0 && (ended || !isLetter(code))) {
        return false;
      }
      ended = code == 0;
    }
    return name != 0;
  }

  private static int chainOf(int name) {
    int hash = 0;
    for (int shift = 0; shift < 32; shift += 8) {
      int code = name >>> shift & 255;
      if (code != 0) {
        hash = 16 * hash + code;
      }
    }
    return hash % CHAINS;
  }

  /** What the word of a slot holds as long as it has not been resolved. */
  private static int unboundSlot(int r) {
    return -1 - r;
  }

  private void fillClosure(int o) {
    closure.cutTo(0);
    closure.put(o);
    for (int k = 0; k < OBJECTS && k < closure.size; k++) {
      closure.putAll(linkables[closure.members[k]].needs);
    }
  }

  private boolean closureHasImages() {
    for (int k = 0; k < closure.size; k++) {
      if (linkables[closure.members[k]].words == 0) {
        return false;
      }
    }
    return true;
  }

  private boolean loadClosure() {
    newcomers = 0;
    for (int k = 0; k < closure.size; k++) {
      int o = closure.members[k];
      if (!linkables[o].isLoaded() && !load(o)) {
        return false;
      }
    }
    return true;
  }

  private boolean load(int o) {
    Linkable linkable = linkables[o];
    int base = space.leastBaseFor(linkable.words);
    if (base == NONE) {
      return false;
    }
    space.take(base, linkable.words);
    linkable.base = base;
    linkable.group.cutTo(0);
    linkable.group.putAll(closure);
    newcomers |= 1 << o;
    return true;
  }

  private void takeOut(int o) {
    Linkable linkable = linkables[o];
    space.giveBack(linkable.base, linkable.words);
    linkable.base = NONE;
    linkable.used = 0;
    globalRow.remove(o);
  }

  private void takeOutNewcomers() {
    for (int o = 0; o < OBJECTS; o++) {
      if (isIn(newcomers, o)) {
        takeOut(o);
      }
    }
  }

  private boolean relocateNewcomers(boolean lazily) {
    for (int k = 0; k < closure.size; k++) {
      int o = closure.members[k];
      int relocations = isIn(newcomers, o) ? linkables[o].relocations.size : 0;
      for (int r = 0; r < relocations; r++) {
        if (!doRelocation(o, r, lazily)) {
          return false;
        }
      }
    }
    return true;
  }

  private boolean doRelocation(int o, int r, boolean lazily) {
    Linkable linkable = linkables[o];
    Relocations relocations = linkable.relocations;
    int kind = relocations.kinds[r];
    int place = linkable.base + relocations.places[r];
    if (kind == RELATIVE) {
      space.words[place] = linkable.base + relocations.addends[r];
      return true;
    }
    if (kind == SLOT && lazily) {
      space.words[place] = unboundSlot(r);
      return true;
    }
    int address = resolve(o, relocations.symbols[r]);
    if (address == NONE) {
      return false;
    }
    space.words[place] = kind == ABSOLUTE ? address + relocations.addends[r] : address;
    return true;
  }

  /** The address that symbol s of object o stands for, or NONE when resolving fails. */
  private int resolve(int o, int s) {
    Linkable linkable = linkables[o];
    int name = linkable.symbols.names[s];
    int owner = lookUp(o, name);
    if (owner == NONE) {
      return linkable.symbols.weak[s] ? 0 : NONE;
    }
    if (owner != o) {
      linkable.used |= 1 << owner;
    }
    return addressIn(owner, name);
  }

  /** The object that has the name for object o, or NONE. */
  private int lookUp(int o, int name) {
    int owner = firstDefining(globalRow, name);
    return owner != NONE ? owner : firstDefining(linkables[o].group, name);
  }

  private int firstDefining(Row row, int name) {
    int chain = chainOf(name);
    for (int k = 0; k < row.size; k++) {
      int o = row.members[k];
      Linkable linkable = linkables[o];
      if (linkable.isLoaded()) {
        stepCount += linkable.symbols.stepsTo(name, chain);
        if (linkable.symbols.placeOf(name) != NONE) {
          return o;
        }
      }
    }
    return NONE;
  }

  private int addressIn(int owner, int name) {
    return linkables[owner].base + linkables[owner].symbols.placeOf(name);
  }

  private void goInto(int o, int depth) {
    newcomers &= ~(1 << o);
    goIntoNeeds(o, depth);
    begun.put(o);
    journal.note(o);
  }

  private void goIntoNeeds(int o, int depth) {
    if (depth >= OBJECTS) {
      return;
    }
    Row needs = linkables[o].needs;
    for (int k = 0; k < needs.size; k++) {
      if (isIn(newcomers, needs.members[k])) {
        goInto(needs.members[k], depth + 1);
      }
    }
  }

  /** Started from the open ones and only ever grown, so that a ring of needs does not keep itself. */
  private int keptOnes() {
    int kept = 0;
    for (int o = 0; o < OBJECTS; o++) {
      if (linkables[o].openings != 0) {
        kept |= 1 << o;
      }
    }
    // One round more of needs and uses each time: no chain of them is longer than the objects are many.
    for (int round = 1; round < OBJECTS; round++) {
      kept = withThoseKeptBy(kept);
    }
    return kept;
  }

  private int withThoseKeptBy(int keepers) {
    int kept = keepers;
    for (int o = 0; o < OBJECTS; o++) {
      if (isIn(keepers, o)) {
        kept |= linkables[o].needs.asSet() | linkables[o].used;
      }
    }
    return kept;
  }

  private int endAllBut(int kept) {
    int ended = 0;
    for (int k = begun.size - 1; k >= 0; k--) {
      int o = begun.members[k];
      if (!isIn(kept, o)) {
        journal.note(-1 - o);
        begun.remove(o);
        takeOut(o);
        ended++;
      }
    }
    return ended;
  }

  /** Objects in an order, each one at most once. */
  private static final class Row {
    private final int[] members = new int[OBJECTS];
    private int size = 0;

    private boolean has(int o) {
      for (int k = 0; k < size; k++) {
        if (members[k] == o) {
          return true;
        }
      }
      return false;
    }

    private void put(int o) {
      if (size < OBJECTS && !has(o)) {
        members[size] = o;
        size++;
      }
    }

    private void putAll(Row other) {
      for (int k = 0; k < other.size; k++) {
        put(other.members[k]);
      }
    }

    private void remove(int o) {
      int left = 0;
      for (int k = 0; k < size; k++) {
        if (members[k] != o) {
          members[left] = members[k];
          left++;
        }
      }
      size = left;
    }

    private void cutTo(int length) {
      size = Math.min(size, length);
    }

    private int asSet() {
      int set = 0;
      for (int k = 0; k < size; k++) {
        set |= 1 << members[k];
      }
      return set;
    }
  }

  private static final class Symbols {
    private final int[] names = new int[MOST_SYMBOLS];
    private final int[] chains = new int[MOST_SYMBOLS];
    private final int[] places = new int[MOST_SYMBOLS];
    private final boolean[] weak = new boolean[MOST_SYMBOLS];
    private int size = 0;

    private int add(int name, int place, boolean flag) {
      names[size] = name;
      chains[size] = chainOf(name);
      places[size] = place;
      weak[size] = flag && place == NONE;
      size++;
      return size - 1;
    }

    private boolean has(int name) {
      for (int s = 0; s < size; s++) {
        if (names[s] == name) {
          return true;
        }
      }
      return false;
    }

    /** The word at which the name is defined, or NONE. */
    private int placeOf(int name) {
      for (int s = 0; s < size; s++) {
        if (names[s] == name) {
          return places[s];
        }
      }
      return NONE;
    }

    private int stepsTo(int name, int chain) {
      int taken = 0;
      for (int s = size - 1; s >= 0; s--) {
        if (chains[s] == chain) {
          taken++;
          if (names[s] == name && places[s] != NONE) {
            return taken;
          }
        }
      }
      return taken;
    }
  }

  private static final class Relocations {
    private final int[] kinds = new int[MOST_RELOCATIONS];
    private final int[] places = new int[MOST_RELOCATIONS];
    private final int[] symbols = new int[MOST_RELOCATIONS];
    private final int[] addends = new int[MOST_RELOCATIONS];
    private int size = 0;

    private int add(int kind, int place, int symbolNumber, int addend) {
      kinds[size] = kind;
      places[size] = place;
      symbols[size] = symbolNumber;
      addends[size] = addend;
      size++;
      return size - 1;
    }
  }

  /** One of the document's objects, loaded or not. */
  private static final class Linkable {
    private final Row needs = new Row();
    private final Symbols symbols = new Symbols();
    private final Relocations relocations = new Relocations();
    private final Row group = new Row();
    /** 0 when it has no image. */
    private int words = 0;
    private int base = NONE;
    private int openings = 0;
    /** The set of those that it uses. */
    private int used = 0;

    private boolean isLoaded() {
      return base != NONE;
    }

    private boolean hasWord(int word) {
      return word >= 0 && word < words;
    }

    private void startAnew(int length) {
      words = length;
      needs.cutTo(0);
      symbols.size = 0;
      relocations.size = 0;
    }
  }

  /** A word where no image is holds 0, so that an image that is placed begins with words of 0. */
  private static final class Space {
    private final int[] words = new int[ADDRESSES];
    private final boolean[] taken = new boolean[ADDRESSES];

    private boolean hasImageAt(int address) {
      return address >= 0 && address < ADDRESSES && taken[address];
    }

    private int leastBaseFor(int length) {
      int free = 0;
      for (int address = 0; address < ADDRESSES; address++) {
        free = taken[address] ? 0 : free + 1;
        if (free == length) {
          return address + 1 - length;
        }
      }
      return NONE;
    }

    private void take(int base, int length) {
      for (int address = base; address < base + length; address++) {
        taken[address] = true;
      }
    }

    private void giveBack(int base, int length) {
      for (int address = base; address < base + length; address++) {
        taken[address] = false;
        words[address] = 0;
      }
    }
  }

  /** How often objects began and ended, and the latest of these events in a ring. */
  private static final class Journal {
    private final int[] ring = new int[KEPT_EVENTS];
    private int next = 0;
    private int count = 0;

    private void note(int event) {
      ring[next] = event;
      next = (next + 1) % KEPT_EVENTS;
      count++;
    }

    private int latestBut(int k) {
      return ring[(next + KEPT_EVENTS - 1 - k) % KEPT_EVENTS];
    }
  }
}
