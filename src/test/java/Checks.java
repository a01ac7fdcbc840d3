import java.util.NoSuchElementException;

/** What the tests share: answers that are due, exceptions that are due, and the exit code at the end. */
final class Checks {
  static final Class<IndexOutOfBoundsException> INDEX = IndexOutOfBoundsException.class;
  static final Class<IllegalArgumentException> ARGUMENT = IllegalArgumentException.class;
  static final Class<IllegalStateException> STATE = IllegalStateException.class;
  static final Class<NoSuchElementException> NONE = NoSuchElementException.class;

  private int wrong = 0;

  void due(String call, int got, int want) {
    if (got != want) {
      wrong(call, String.valueOf(got), String.valueOf(want));
    }
  }

  void due(String call, boolean got, boolean want) {
    due(call, got ? 1 : 0, want ? 1 : 0);
  }

  /** The exception's very class is due, as a caller's catch of a wider class would hide a wrong one. */
  void dueThrow(String call, Class<? extends RuntimeException> want, Runnable run) {
    String got = "nothing thrown";
    try {
      run.run();
    } catch (RuntimeException e) {
      if (e.getClass() == want) {
        return;
      }
      got = e.getClass().getName();
    }
    wrong(call, got, want.getName());
  }

  void due(String call, String got, String want) {
    if (!got.equals(want)) {
      wrong(call, got, want);
    }
  }

  void wrong(String call, String got, String want) {
    wrong++;
    System.out.println(call + " answered " + got + ", due is " + want);
  }

  /** Words from an address on. */
  void dueWords(String when, BoundObjects x, int address, int... want) {
    for (int k = 0; k < want.length; k++) {
      due(when + ": word(" + (address + k) + ")", x.word(address + k), want[k]);
    }
  }

  /** Bases of the objects from 0 on. */
  void dueBases(String when, BoundObjects x, int... want) {
    for (int o = 0; o < want.length; o++) {
      due(when + ": base(" + o + ")", x.base(o), want[o]);
    }
  }

  /** The whole global row, with nothing behind it. */
  void dueGlobal(String when, BoundObjects x, int... want) {
    for (int k = 0; k < want.length; k++) {
      due(when + ": global(" + k + ")", x.global(k), want[k]);
    }
    due(when + ": global(" + want.length + ")", x.global(want.length), -1);
  }

  /** The latest events, in the order in which they were. */
  void dueEvents(String when, BoundObjects x, int... want) {
    for (int k = 0; k < want.length; k++) {
      due(when + ": event(" + k + ")", x.event(k), want[want.length - 1 - k]);
    }
  }

  /** Everything that the questions of the face tell but the steps, as one text; at most 91 calls. */
  static String look(BoundObjects x) {
    StringBuilder text = new StringBuilder("words");
    for (int address = 0; address < 32; address++) {
      text.append(' ').append(x.word(address));
    }
    for (int o = 0; o < 6; o++) {
      text.append("; object ").append(o).append(" base ").append(x.base(o)).append(" opened ").append(x.opened(o));
    }
    text.append("; global");
    for (int k = 0; k < 6; k++) {
      text.append(' ').append(x.global(k));
    }
    int events = x.events();
    text.append("; events ").append(events).append(':');
    for (int k = 0; k < 40 && k < events; k++) {
      text.append(' ').append(x.event(k));
    }
    return text.toString();
  }

  static int name(String letters) {
    int name = 0;
    for (int k = letters.length() - 1; k >= 0; k--) {
      name = name << 8 | letters.charAt(k);
    }
    return name;
  }

  /** An object with images of so many words for objects 0, 1 and so on. */
  static BoundObjects withImages(int... words) {
    BoundObjects x = new BoundObjects();
    for (int o = 0; o < words.length; o++) {
      x.image(o, words[o]);
    }
    return x;
  }

  void end() {
    if (wrong != 0) {
      System.out.println(wrong + " answers are not as due");
      System.exit(1);
    }
  }
}
