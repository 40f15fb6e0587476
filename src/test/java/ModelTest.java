import java.lang.reflect.InvocationTargetException;
import java.lang.reflect.Method;
import java.lang.reflect.Modifier;
import java.util.ArrayList;
import java.util.Arrays;
import java.util.Comparator;
import java.util.HashMap;
import java.util.List;
import java.util.Map;
import java.util.Random;

/** Random runs, the same ones each time: each call is answered as the Model answers it. */
public final class ModelTest {
  private static final int RUNS = 250;
  private static final int CALLS = 512;
  private static final int DIGEST_EVERY = 8;

  /** The calls of a run by their shares; what is not named here has a share of 1. */
  private static final Map<String, Integer> SHARES = new HashMap<>();

  static {
    SHARES.put("send", 40);
    SHARES.put("take", 60);
    SHARES.put("ack", 25);
    SHARES.put("nack", 25);
    SHARES.put("setClock", 12);
    SHARES.put("begin", 4);
    SHARES.put("end", 5);
    SHARES.put("clean", 4);
    SHARES.put("seek", 2);
    SHARES.put("join", 4);
    SHARES.put("group", 2);
    SHARES.put("wouldRead", 3);
    SHARES.put("meanTries", 3);
    SHARES.put("digest", 0);
  }

  private final Random random;
  private final TailraceBroker broker = new TailraceBroker();
  private final Model model = new Model();
  private final List<int[]> taken = new ArrayList<>();
  private final List<String> told = new ArrayList<>();
  private final int step;
  private final boolean isWild;

  private ModelTest(int seed) {
    random = new Random(seed);
    step = 1 + random.nextInt(12);
    isWild = seed % 5 == 0;
  }

  public static void main(String[] arguments) throws ReflectiveOperationException {
    int runs = arguments.length > 0 ? Integer.parseInt(arguments[0]) : RUNS;
    List<Method> face = face();
    Map<String, Integer> answered = new HashMap<>();
    for (int seed = 0; seed < runs; seed++) {
      if (!new ModelTest(seed).isRunRight(face, answered)) {
        System.out.println("ModelTest: the run of seed " + seed + " went wrong");
        System.exit(1);
      }
    }
    System.out.println("ModelTest: " + runs + " runs, " + answered.size() + " sorts of answers");
  }

  private static List<Method> face() {
    List<Method> face = new ArrayList<>();
    List<Method> methods = new ArrayList<>(List.of(TailraceBroker.class.getDeclaredMethods()));
    methods.sort(Comparator.comparing(Method::getName));
    for (Method method : methods) {
      if (Modifier.isPublic(method.getModifiers())) {
        for (int i = 0; i < SHARES.getOrDefault(method.getName(), 1); i++) {
          face.add(method);
        }
      }
    }
    return face;
  }

  private boolean isRunRight(List<Method> face, Map<String, Integer> answered)
      throws ReflectiveOperationException {
    broker.topic(3, true);
    model.topic(3, true);
    broker.group(0);
    model.group(0);
    broker.join(0, 2, true);
    model.join(0, 2, true);
    for (int call = 3; call < CALLS; call++) {
      if (call % DIGEST_EVERY == 0) {
        if (broker.digest() != model.digest()) {
          return tellWrong("another digest");
        }
        continue;
      }
      Method method = face.get(random.nextInt(face.size()));
      Object[] given = arguments(method);
      String due = answer(Model.class.getMethod(method.getName(), method.getParameterTypes()),
          model, given);
      String got = answer(method, broker, given);
      told.add(method.getName() + Arrays.toString(given) + " " + got);
      answered.merge(method.getName() + kind(due), 1, Integer::sum);
      remember(method.getName(), given, due);
      if (!got.equals(due)) {
        return tellWrong(due);
      }
    }
    return true;
  }

  private boolean tellWrong(String due) {
    told.forEach(System.out::println);
    System.out.println("due is " + due);
    return false;
  }

  private static String kind(String answer) {
    return answer.matches("-?[0-9.E]+") ? " answered" : " " + answer;
  }

  private static String answer(Method method, Object on, Object[] given)
      throws IllegalAccessException {
    try {
      return String.valueOf(method.invoke(on, given));
    } catch (InvocationTargetException thrown) {
      Throwable cause = thrown.getCause();
      return on instanceof Model ? cause.getClass().getName() : Check.told(cause);
    }
  }

  /** What was taken is likely to be acked or nacked later. */
  private void remember(String name, Object[] given, String due) {
    if (name.equals("take") && due.matches("[0-9]+")) {
      int place = Integer.parseInt(due);
      taken.add(new int[] {(int) given[0], place / 100, place % 100});
    }
  }

  private Object[] arguments(Method method) {
    if (random.nextInt(40) == 0) {
      return anyArguments(method);
    }
    switch (method.getName()) {
      case "topic":
        return new Object[] {1 + random.nextInt(4), random.nextBoolean()};
      case "send":
        return sendArguments();
      case "end":
        return new Object[] {random.nextInt(4), random.nextInt(3) > 0};
      case "setKeep":
        return new Object[] {topic(), random.nextInt(4) == 0 ? 0 : random.nextInt(step * 20)};
      case "setClock":
        return new Object[] {model.clock() + 1 + random.nextInt(step)};
      case "setPatience":
        return new Object[] {1 + random.nextInt(20), 1 + random.nextInt(50)};
      case "message":
        return new Object[] {topic(), random.nextInt(4), random.nextInt(20), random.nextInt(5)};
      case "join":
        return new Object[] {group(), random.nextInt(6), random.nextInt(3) > 0};
      case "take":
        return takeArguments();
      case "ack":
      case "nack":
        return takenArguments();
      case "seek":
        return new Object[] {group(), random.nextInt(3), random.nextInt(24)};
      case "state":
      case "tries":
        return new Object[] {group(), random.nextInt(4), random.nextInt(20)};
      case "row":
        return new Object[] {random.nextInt(model.ledger() + 1), random.nextInt(5)};
      case "wouldRead":
        return new Object[] {group(), random.nextInt(6), random.nextInt(4)};
      default:
        Object[] given = new Object[method.getParameterCount()];
        Arrays.setAll(given, i -> random.nextInt(4));
        return given;
    }
  }

  private int topic() {
    return random.nextInt(model.topics());
  }

  private int group() {
    return random.nextInt(model.groups());
  }

  private Object[] sendArguments() {
    int topic = random.nextInt(3) > 0 ? 0 : topic();
    int producer = random.nextInt(4);
    int number = isWild ? random.nextInt(4) : next(topic, producer);
    return new Object[] {topic, producer, number, random.nextInt(6) - 1, random.nextInt(1000)};
  }

  /** The NUMBER that is due, as the run itself has told it; at times one beside it. */
  private int next(int topic, int producer) {
    int next = 0;
    String call = "send[" + topic + ", " + producer + ", " + "%d,";
    while (wasSent(String.format(call, next))) {
      next++;
    }
    return random.nextInt(12) == 0 ? Math.max(0, next + random.nextInt(3) - 1) : next;
  }

  private boolean wasSent(String call) {
    return told.stream().anyMatch(line -> line.startsWith(call) && line.matches(".* [0-9]+"));
  }

  private Object[] takeArguments() {
    int group = random.nextInt(2) == 0 ? 0 : group();
    List<Integer> readers = new ArrayList<>();
    for (int partition = 0; partition < 4; partition++) {
      try {
        readers.add(model.reader(group, partition));
      } catch (IndexOutOfBoundsException none) {
        break;
      }
    }
    int reader = readers.get(random.nextInt(readers.size()));
    return new Object[] {group, reader < 0 || isWild ? random.nextInt(6) : reader};
  }

  private Object[] takenArguments() {
    if (taken.isEmpty()) {
      return new Object[] {group(), random.nextInt(3), random.nextInt(10)};
    }
    int from = Math.max(0, taken.size() - 6);
    int[] place = taken.remove(from + random.nextInt(taken.size() - from));
    return new Object[] {place[0], place[1], place[2]};
  }

  private Object[] anyArguments(Method method) {
    int[] odd = {-2, -1, 0, 3, 4, 5, 6, 10, 51, 80, 201, 1000, 10000,
      Integer.MAX_VALUE, Integer.MIN_VALUE};
    Object[] given = new Object[method.getParameterCount()];
    for (int i = 0; i < given.length; i++) {
      boolean isFlag = method.getParameterTypes()[i] == boolean.class;
      boolean isOdd = random.nextInt(2) == 0;
      given[i] = isFlag ? random.nextBoolean()
          : (Object) (isOdd ? odd[random.nextInt(odd.length)] : random.nextInt(4));
    }
    return given;
  }
}
