import java.lang.reflect.Constructor;
import java.lang.reflect.Field;
import java.lang.reflect.Method;
import java.lang.reflect.Modifier;
import java.util.Arrays;
import java.util.TreeSet;

/** The public face: what the document writes there, and nothing else that is not private. */
public final class FaceTest {
  private static final String[] FACE = {
    "public boolean WordArithmetic.holds(int) throws java.lang.IllegalArgumentException",
    "public int WordArithmetic.adjust(int,int,int)"
        + " throws java.lang.IllegalArgumentException,java.lang.ArithmeticException",
    "public int WordArithmetic.divide(boolean,boolean,int,int) throws java.lang.ArithmeticException",
    "public int WordArithmetic.extend(boolean,int)",
    "public int WordArithmetic.flags()",
    "public int WordArithmetic.multiply(boolean,boolean,int,int)",
    "public int WordArithmetic.operate(int,boolean,int,int)"
        + " throws java.lang.IllegalArgumentException",
    "public int WordArithmetic.shift(int,boolean,int,int) throws java.lang.IllegalArgumentException",
    "public void WordArithmetic.set(int)",
  };

  public static void main(String[] args) {
    Expect expect = new Expect("the public face");
    Class<?> face = WordArithmetic.class;
    expect.due(face.getModifiers(), Modifier.PUBLIC | Modifier.FINAL, "public final class");
    expect.due(face.getSuperclass() == Object.class && face.getInterfaces().length == 0, true,
        "extends and implements nothing");
    constructors(expect, face);
    methods(expect, face);
    for (Field field : face.getDeclaredFields()) {
      int modifiers = field.getModifiers();
      expect.due(Modifier.isPrivate(modifiers), true, field, "is private");
      expect.due(!Modifier.isStatic(modifiers) || Modifier.isFinal(modifiers), true,
          field, "is final when static");
    }
    expect.end();
  }

  private static void constructors(Expect expect, Class<?> face) {
    Constructor<?>[] all = face.getDeclaredConstructors();
    expect.due(all.length, 1, "constructors");
    expect.due(all[0].toGenericString().equals("public WordArithmetic()"), true, all[0]);
  }

  private static void methods(Expect expect, Class<?> face) {
    TreeSet<String> open = new TreeSet<>();
    TreeSet<String> names = new TreeSet<>();
    for (Method method : face.getDeclaredMethods()) {
      if (!Modifier.isPrivate(method.getModifiers())) {
        open.add(method.toGenericString());
        names.add(method.getName());
      }
    }
    expect.due(open.equals(new TreeSet<>(Arrays.asList(FACE))), true, "the methods are", open);
    for (Method method : face.getDeclaredMethods()) {
      boolean hidden = Modifier.isPrivate(method.getModifiers());
      expect.due(hidden && names.contains(method.getName()), false,
          method, "is private with the name of a public one");
    }
  }
}
