import java.util.ArrayList;
import java.util.Collections;
import java.util.HashSet;
import java.util.LinkedHashSet;
import java.util.List;
import java.util.NoSuchElementException;
import java.util.Set;

/** The document's words in their plainest form, with no thought of room or speed: what ModelTest compares with. */
final class Model {
  private record Symbol(String name, int word, boolean weak) {}

  private record Relocation(int kind, int word, int symbol, int addend) {}

  private static final class Thing {
    private int words = 0;
    private List<Integer> needs = new ArrayList<>();
    private List<Symbol> symbols = new ArrayList<>();
    private List<Relocation> relocations = new ArrayList<>();
    private boolean loaded = false;
    private int base = 0;
    private int open = 0;
    private int[] image = new int[0];
    private List<Integer> group = new ArrayList<>();
    private Set<Integer> uses = new HashSet<>();

    private Thing copy() {
      Thing copy = new Thing();
      copy.words = words;
      copy.needs = new ArrayList<>(needs);
      copy.symbols = new ArrayList<>(symbols);
      copy.relocations = new ArrayList<>(relocations);
      copy.loaded = loaded;
      copy.base = base;
      copy.open = open;
      copy.image = image.clone();
      copy.group = new ArrayList<>(group);
      copy.uses = new HashSet<>(uses);
      return copy;
    }
  }

  private List<Thing> things = new ArrayList<>();
  private List<Integer> globalRow = new ArrayList<>();
  private List<Integer> allEvents = new ArrayList<>();
  private int steps = 0;

  Model() {
    for (int o = 0; o < 6; o++) {
      things.add(new Thing());
    }
  }

  void image(int o, int words) {
    object(o);
    argument(words >= 1 && words <= 8);
    state(!things.get(o).loaded);
    Thing thing = new Thing();
    thing.words = words;
    things.set(o, thing);
  }

  int need(int o, int p) {
    object(o);
    object(p);
    Thing thing = things.get(o);
    argument(!thing.needs.contains(p) && o != p);
    state(thing.words > 0 && !thing.loaded && thing.needs.size() < 3);
    thing.needs.add(p);
    return thing.needs.size();
  }

  int symbol(int o, int name, int word, boolean flag) {
    object(o);
    Thing thing = things.get(o);
    String text = letters(name);
    argument(text.matches("[a-z]{1,4}"));
    argument(thing.symbols.stream().noneMatch(s -> s.name().equals(text)));
    argument(word >= -1 && word < thing.words);
    state(thing.words > 0 && !thing.loaded && thing.symbols.size() < 6);
    thing.symbols.add(new Symbol(text, word, word == -1 && flag));
    return thing.symbols.size() - 1;
  }

  int relocation(int o, int kind, int word, int symbol, int addend) {
    object(o);
    Thing thing = things.get(o);
    argument(kind == 0 || kind == 1 || kind == 2);
    argument(word >= 0 && word < thing.words);
    argument(kind == 0 || symbol >= 0 && symbol < thing.symbols.size());
    state(thing.words > 0 && !thing.loaded && thing.relocations.size() < 6);
    thing.relocations.add(new Relocation(kind, word, symbol, addend));
    return thing.relocations.size() - 1;
  }

  /** Done on a copy that is thrown away when something fails; the steps alone stay. */
  int open(int o, boolean lazily, boolean globally) {
    object(o);
    List<Thing> thingsBefore = things;
    List<Integer> globalBefore = globalRow;
    things = new ArrayList<>();
    for (Thing thing : thingsBefore) {
      things.add(thing.copy());
    }
    globalRow = new ArrayList<>(globalBefore);
    try {
      return openOrFail(o, lazily, globally);
    } catch (IllegalStateException | NoSuchElementException e) {
      things = thingsBefore;
      globalRow = globalBefore;
      throw e;
    }
  }

  private int openOrFail(int o, boolean lazily, boolean globally) {
    List<Integer> closure = closure(o);
    for (int p : closure) {
      state(things.get(p).words > 0);
    }
    List<Integer> fresh = new ArrayList<>();
    for (int p : closure) {
      Thing thing = things.get(p);
      if (!thing.loaded) {
        thing.base = place(thing.words);
        thing.loaded = true;
        thing.image = new int[thing.words];
        thing.group = new ArrayList<>(closure);
        fresh.add(p);
      }
    }
    if (globally) {
      Set<Integer> row = new LinkedHashSet<>(globalRow);
      row.addAll(closure);
      globalRow = new ArrayList<>(row);
    }
    for (int p : fresh) {
      for (int r = 0; r < things.get(p).relocations.size(); r++) {
        relocate(p, r, lazily);
      }
    }
    begin(o, new HashSet<>(fresh));
    things.get(o).open++;
    return fresh.size();
  }

  private int place(int words) {
    for (int base = 0; base + words <= 32; base++) {
      boolean free = true;
      for (int address = base; address < base + words; address++) {
        free &= ownerOf(address) == null;
      }
      if (free) {
        return base;
      }
    }
    throw new IllegalStateException();
  }

  private void relocate(int o, int r, boolean lazily) {
    Thing thing = things.get(o);
    Relocation relocation = thing.relocations.get(r);
    int value;
    if (relocation.kind() == 0) {
      value = thing.base + relocation.addend();
    } else if (relocation.kind() == 1) {
      value = resolve(o, relocation) + relocation.addend();
    } else {
      value = lazily ? -1 - r : resolve(o, relocation);
    }
    thing.image[relocation.word()] = value;
  }

  private int resolve(int o, Relocation relocation) {
    Thing thing = things.get(o);
    Symbol symbol = thing.symbols.get(relocation.symbol());
    List<Integer> scope = new ArrayList<>(globalRow);
    scope.addAll(thing.group);
    int owner = search(scope, symbol.name());
    if (owner < 0 && symbol.weak()) {
      return 0;
    }
    element(owner >= 0);
    if (owner != o) {
      thing.uses.add(owner);
    }
    return address(owner, symbol.name());
  }

  private int search(List<Integer> scope, String name) {
    for (int o : scope) {
      if (things.get(o).loaded) {
        List<Symbol> latestFirst = new ArrayList<>(things.get(o).symbols);
        Collections.reverse(latestFirst);
        for (Symbol symbol : latestFirst) {
          if (hash(symbol.name()) % 3 == hash(name) % 3) {
            steps++;
            if (symbol.name().equals(name) && symbol.word() >= 0) {
              return o;
            }
          }
        }
      }
    }
    return -1;
  }

  private int address(int owner, String name) {
    Thing thing = things.get(owner);
    for (Symbol symbol : thing.symbols) {
      if (symbol.name().equals(name)) {
        return thing.base + symbol.word();
      }
    }
    throw new AssertionError("the owner has the name");
  }

  private static int hash(String name) {
    int hash = 0;
    for (char letter : name.toCharArray()) {
      hash = hash * 16 + letter;
    }
    return hash;
  }

  private void begin(int o, Set<Integer> waiting) {
    if (waiting.remove(o)) {
      for (int p : things.get(o).needs) {
        begin(p, waiting);
      }
      allEvents.add(o);
    }
  }

  private List<Integer> closure(int o) {
    List<Integer> row = new ArrayList<>(List.of(o));
    for (int k = 0; k < row.size(); k++) {
      for (int p : things.get(row.get(k)).needs) {
        if (!row.contains(p)) {
          row.add(p);
        }
      }
    }
    return row;
  }

  int close(int o) {
    object(o);
    state(things.get(o).open > 0);
    things.get(o).open--;
    Set<Integer> kept = new HashSet<>();
    for (int p = 0; p < 6; p++) {
      if (things.get(p).open > 0) {
        keep(p, kept);
      }
    }
    int ended = 0;
    for (int k = allEvents.size() - 1; k >= 0; k--) {
      int p = allEvents.get(k);
      if (p >= 0 && things.get(p).loaded && !kept.contains(p)) {
        allEvents.add(-1 - p);
        things.get(p).loaded = false;
        things.get(p).uses.clear();
        globalRow.remove(Integer.valueOf(p));
        ended++;
      }
    }
    return ended;
  }

  private void keep(int o, Set<Integer> kept) {
    if (kept.add(o)) {
      for (int p : things.get(o).needs) {
        keep(p, kept);
      }
      for (int p : things.get(o).uses) {
        keep(p, kept);
      }
    }
  }

  int call(int o, int r) {
    object(o);
    Thing thing = things.get(o);
    index(r >= 0 && r < thing.relocations.size());
    Relocation relocation = thing.relocations.get(r);
    argument(relocation.kind() == 2);
    state(thing.loaded);
    if (thing.image[relocation.word()] == -1 - r) {
      thing.image[relocation.word()] = resolve(o, relocation);
    }
    return thing.image[relocation.word()];
  }

  int find(int o, int name) {
    object(o);
    argument(letters(name).matches("[a-z]{1,4}"));
    state(things.get(o).loaded);
    int owner = search(closure(o), letters(name));
    element(owner >= 0);
    return address(owner, letters(name));
  }

  int word(int address) {
    index(address >= 0 && address < 32);
    Thing owner = ownerOf(address);
    return owner == null ? 0 : owner.image[address - owner.base];
  }

  boolean store(int address, int v) {
    Thing owner = ownerOf(address);
    if (owner != null) {
      owner.image[address - owner.base] = v;
    }
    return owner != null;
  }

  private Thing ownerOf(int address) {
    for (Thing thing : things) {
      if (thing.loaded && address >= thing.base && address < thing.base + thing.words) {
        return thing;
      }
    }
    return null;
  }

  int base(int o) {
    return o >= 0 && o < 6 && things.get(o).loaded ? things.get(o).base : -1;
  }

  int opened(int o) {
    return o >= 0 && o < 6 ? things.get(o).open : 0;
  }

  int global(int k) {
    return k >= 0 && k < globalRow.size() ? globalRow.get(k) : -1;
  }

  int events() {
    return allEvents.size();
  }

  int event(int k) {
    element(k >= 0 && k <= 39 && k < allEvents.size());
    return allEvents.get(allEvents.size() - 1 - k);
  }

  int steps() {
    return steps;
  }

  /** The bytes as a text, from the lowest on; zeros are cut off from its end alone, so that one inside stays. */
  private static String letters(int name) {
    StringBuilder text = new StringBuilder();
    for (int k = 0; k < 4; k++) {
      text.append((char) (name >>> 8 * k & 255));
    }
    while (text.length() > 0 && text.charAt(text.length() - 1) == 0) {
      text.setLength(text.length() - 1);
    }
    return text.toString();
  }

  private static void object(int o) {
    index(o >= 0 && o < 6);
  }

  private static void index(boolean holds) {
    if (!holds) {
      throw new IndexOutOfBoundsException();
    }
  }

  private static void argument(boolean holds) {
    if (!holds) {
      throw new IllegalArgumentException();
    }
  }

  private static void state(boolean holds) {
    if (!holds) {
      throw new IllegalStateException();
    }
  }

  private static void element(boolean holds) {
    if (!holds) {
      throw new NoSuchElementException();
    }
  }
}
