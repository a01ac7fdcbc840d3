import java.lang.reflect.Constructor;
import java.lang.reflect.Field;
import java.lang.reflect.Method;
import java.lang.reflect.Modifier;
import java.util.Arrays;
import java.util.Set;
import java.util.TreeSet;

/** The public face: the document's constructor and methods, and nothing else that is not private. */
public final class FaceTest {
  private static final String INDEX = "IndexOutOfBoundsException";
  private static final String ARGUMENT = "IllegalArgumentException";
  private static final String STATE = "IllegalStateException";
  private static final String NONE = "NoSuchElementException";
  private static final String[] METHODS = {
    "void image(int, int)" + named(INDEX, ARGUMENT, STATE),
    "int need(int, int)" + named(INDEX, ARGUMENT, STATE),
    "int symbol(int, int, int, boolean)" + named(INDEX, ARGUMENT, STATE),
    "int relocation(int, int, int, int, int)" + named(INDEX, ARGUMENT, STATE),
    "int open(int, boolean, boolean)" + named(INDEX, STATE, NONE),
    "int close(int)" + named(INDEX, STATE),
    "int call(int, int)" + named(INDEX, ARGUMENT, STATE, NONE),
    "int find(int, int)" + named(INDEX, ARGUMENT, STATE, NONE),
    "int word(int)" + named(INDEX), "boolean store(int, int)" + named(), "int base(int)" + named(),
    "int opened(int)" + named(), "int global(int)" + named(), "int events()" + named(),
    "int event(int)" + named(NONE), "int steps()" + named()
  };

  public static void main(String[] args) {
    Checks c = new Checks();
    Set<String> got = new TreeSet<>();
    Set<String> hidden = new TreeSet<>();
    for (Method method : BoundObjects.class.getDeclaredMethods()) {
      if (Modifier.isPrivate(method.getModifiers())) {
        hidden.add(method.getName());
      } else {
        got.add(written(method));
        c.due(method.getName() + " is public", Modifier.isPublic(method.getModifiers()), true);
      }
    }
    Set<String> want = new TreeSet<>(Arrays.asList(METHODS));
    if (!got.equals(want)) {
      c.wrong("the methods", got.toString(), want.toString());
    }
    for (String method : METHODS) {
      String name = method.substring(method.indexOf(' ') + 1, method.indexOf('('));
      c.due("a private method named " + name, hidden.contains(name), false);
    }
    for (Field field : BoundObjects.class.getDeclaredFields()) {
      c.due("field " + field.getName() + " is private", Modifier.isPrivate(field.getModifiers()), true);
    }
    Constructor<?>[] constructors = BoundObjects.class.getDeclaredConstructors();
    c.due("constructors", constructors.length, 1);
    c.due("parameters of the constructor", constructors[0].getParameterCount(), 0);
    c.due("the constructor is public", Modifier.isPublic(constructors[0].getModifiers()), true);
    c.due("the class is final", Modifier.isFinal(BoundObjects.class.getModifiers()), true);
    c.end();
  }

  private static String written(Method method) {
    StringBuilder text = new StringBuilder();
    text.append(method.getReturnType().getName()).append(' ').append(method.getName()).append('(');
    String between = "";
    for (Class<?> parameter : method.getParameterTypes()) {
      text.append(between).append(parameter.getName());
      between = ", ";
    }
    String[] exceptions = new String[method.getExceptionTypes().length];
    for (int k = 0; k < exceptions.length; k++) {
      exceptions[k] = method.getExceptionTypes()[k].getSimpleName();
    }
    return text.append(')').append(named(exceptions)).toString();
  }

  private static String named(String... exceptions) {
    return " throws " + Arrays.toString(exceptions);
  }
}
