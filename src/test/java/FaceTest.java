import java.lang.reflect.Constructor;
import java.lang.reflect.Field;
import java.lang.reflect.Member;
import java.lang.reflect.Method;
import java.lang.reflect.Modifier;
import java.util.ArrayList;
import java.util.Arrays;
import java.util.List;
import java.util.TreeSet;

/** The public face is that of the document, and nothing else shows (rule 1 of LANGUAGE.md). */
public final class FaceTest {
  private static final Check CHECK = new Check("FaceTest");
  private static final String INDEX = "IndexOutOfBoundsException";
  private static final String ARGUMENT = "IllegalArgumentException";
  private static final String STATE = "IllegalStateException";

  private FaceTest() {
  }

  public static void main(String[] arguments) {
    Class<?> face = TailraceBroker.class;
    CHECK.due("public and final", face.getModifiers(), Modifier.PUBLIC | Modifier.FINAL);
    dueMethods(face);
    Constructor<?>[] constructors = face.getDeclaredConstructors();
    CHECK.due("one constructor", constructors.length, 1);
    CHECK.due("it is public", constructors[0].getModifiers(), Modifier.PUBLIC);
    CHECK.due("it takes nothing", constructors[0].getParameterCount(), 0);
    for (Field field : face.getDeclaredFields()) {
      CHECK.due("private field " + field, isPrivate(field), true);
      boolean isConstant = Modifier.isFinal(field.getModifiers());
      CHECK.due("no static state in " + field,
          !Modifier.isStatic(field.getModifiers()) || isConstant, true);
    }
    for (Class<?> inside : face.getDeclaredClasses()) {
      CHECK.due("static and not public " + inside,
          Modifier.isStatic(inside.getModifiers()) && !Modifier.isPublic(inside.getModifiers()),
          true);
    }
    CHECK.end();
  }

  private static void dueMethods(Class<?> face) {
    TreeSet<String> want = new TreeSet<>(due());
    TreeSet<String> got = new TreeSet<>();
    TreeSet<String> names = new TreeSet<>();
    for (Method method : face.getDeclaredMethods()) {
      if (Modifier.isPublic(method.getModifiers())) {
        got.add(told(method));
        names.add(method.getName());
      } else {
        CHECK.due("private " + method, isPrivate(method), true);
      }
    }
    for (String line : want) {
      CHECK.due("there is " + line, got.contains(line), true);
    }
    for (String line : got) {
      CHECK.due("there should be " + line, want.contains(line), true);
    }
    for (Method method : face.getDeclaredMethods()) {
      if (isPrivate(method)) {
        CHECK.due("not the name of a public one " + method, names.contains(method.getName()),
            false);
      }
    }
  }

  private static boolean isPrivate(Member member) {
    return Modifier.isPrivate(member.getModifiers());
  }

  private static String told(Method method) {
    List<String> thrown = new ArrayList<>();
    for (Class<?> type : method.getExceptionTypes()) {
      thrown.add(type.getSimpleName());
    }
    List<String> taken = new ArrayList<>();
    for (Class<?> type : method.getParameterTypes()) {
      taken.add(type.getSimpleName());
    }
    return line(method.getReturnType().getSimpleName(), method.getName(), taken, thrown);
  }

  private static String line(String type, String name, List<String> taken, List<String> thrown) {
    return type + " " + name + taken + thrown;
  }

  private static String numbers(String name, int taken, String... thrown) {
    String[] ints = new String[taken];
    Arrays.fill(ints, "int");
    return line("int", name, Arrays.asList(ints), Arrays.asList(thrown));
  }

  private static List<String> due() {
    List<String> face = new ArrayList<>();
    face.add(line("int", "topic", List.of("int", "boolean"), List.of(ARGUMENT, STATE)));
    face.add(numbers("send", 5, INDEX, ARGUMENT, STATE));
    face.add(numbers("begin", 1, INDEX, STATE));
    face.add(line("int", "end", List.of("int", "boolean"), List.of(INDEX, STATE)));
    face.add(numbers("setKeep", 2, INDEX, ARGUMENT));
    face.add(numbers("clean", 1, INDEX, STATE));
    face.add(numbers("setClock", 1, ARGUMENT));
    face.add(numbers("setPatience", 2, ARGUMENT));
    face.add(numbers("clock", 0));
    face.add(numbers("topics", 0));
    face.add(numbers("start", 2, INDEX));
    face.add(numbers("endOf", 2, INDEX));
    face.add(numbers("stable", 2, INDEX));
    face.add(numbers("message", 4, INDEX, ARGUMENT));
    face.add(numbers("kept", 1, INDEX));
    face.add(numbers("group", 1, INDEX, STATE));
    face.add(line("boolean", "join", List.of("int", "int", "boolean"), List.of(INDEX)));
    face.add(numbers("take", 2, INDEX, STATE));
    face.add(numbers("ack", 3, INDEX, STATE));
    face.add(numbers("nack", 3, INDEX, STATE));
    face.add(numbers("seek", 3, INDEX, ARGUMENT));
    face.add(numbers("groups", 0));
    face.add(numbers("reader", 2, INDEX));
    face.add(numbers("mark", 2, INDEX));
    face.add(numbers("cursor", 2, INDEX));
    face.add(numbers("state", 3, INDEX));
    face.add(numbers("tries", 3, INDEX));
    face.add(numbers("lag", 2, INDEX));
    face.add(numbers("aside", 1, INDEX));
    face.add(line("double", "meanTries", List.of("int"), List.of(INDEX)));
    face.add(numbers("ledger", 0));
    face.add(numbers("row", 2, INDEX, ARGUMENT));
    face.add(numbers("wouldTake", 2, INDEX));
    face.add(numbers("wouldRead", 3, INDEX));
    face.add(numbers("nextTime", 1, INDEX));
    face.add(numbers("wouldDrop", 1, INDEX));
    face.add(line("long", "digest", List.of(), List.of()));
    return face;
  }
}
