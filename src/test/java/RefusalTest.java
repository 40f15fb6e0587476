import java.lang.reflect.InvocationTargetException;
import java.lang.reflect.Method;
import java.util.ArrayList;
import java.util.Arrays;
import java.util.List;
import java.util.Set;
import java.util.function.Supplier;

/**
 * Each call on an object with nothing in it, with some of all, and with all there may be. Of each
 * argument it tells the edges: the smallest and the greatest value that is allowed, and the first
 * ones that are not; and it tries them together, two wrong ones at most. Of two exceptions that
 * apply the one that the document names first is due (it always names an index before an argument
 * before a state), and what throws changes nothing; nor does a call that only asks.
 */
public final class RefusalTest {
  private static final Check CHECK = new Check("RefusalTest");

  private static final int LEAST = Integer.MIN_VALUE;
  private static final int MOST = Integer.MAX_VALUE;
  private static final int WRONG_AT_ONCE = 2;

  /** In the order in which the document names them. */
  private enum Refusal {
    INDEX(IndexOutOfBoundsException.class),
    ARGUMENT(IllegalArgumentException.class),
    STATE(IllegalStateException.class),
    NONE(null);

    private final Class<? extends RuntimeException> thrown;

    Refusal(Class<? extends RuntimeException> thrown) {
      this.thrown = thrown;
    }

    String told() {
      return thrown == null ? "nothing" : thrown.getName();
    }
  }

  private static final Set<String> ASKING = Set.of("clock", "topics", "start", "endOf", "stable",
      "message", "kept", "groups", "reader", "mark", "cursor", "state", "tries", "lag", "aside",
      "meanTries", "ledger", "row", "wouldTake", "wouldRead", "nextTime", "wouldDrop", "digest");

  /** The values that are tried for one argument, each with what it calls for. */
  private static final class Argument {
    private final List<Integer> values = new ArrayList<>();
    private final List<Refusal> refusals = new ArrayList<>();

    private Argument with(Refusal refusal, int... more) {
      for (int value : more) {
        values.add(value);
        refusals.add(refusal);
      }
      return this;
    }

    Argument noIndex(int... wrong) {
      return with(Refusal.INDEX, wrong).with(Refusal.INDEX, LEAST, MOST);
    }

    Argument noArgument(int... wrong) {
      return with(Refusal.ARGUMENT, wrong).with(Refusal.ARGUMENT, LEAST);
    }

    Argument noState(int... wrong) {
      return with(Refusal.STATE, wrong);
    }
  }

  private static Argument right(int... values) {
    return new Argument().with(Refusal.NONE, values);
  }

  private static Argument either() {
    return right(0, 1);
  }

  /** No value of it is right: there is nothing yet. */
  private static Argument nothing() {
    return new Argument().noIndex(-1, 0, 1, 3, 4);
  }

  private final Supplier<TailraceBroker> maker;
  private final String state;

  private RefusalTest(String state, Supplier<TailraceBroker> maker) {
    this.state = state;
    this.maker = maker;
  }

  public static void main(String[] arguments) throws ReflectiveOperationException {
    CHECK.due("some rows", Brokers.some().ledger(), 13);
    CHECK.due("all rows", Brokers.full().ledger(), 200);
    withNothing(new RefusalTest("nothing", TailraceBroker::new));
    RefusalTest some = new RefusalTest("some", Brokers::some);
    withSomeTopics(some);
    withSomeGroups(some);
    RefusalTest full = new RefusalTest("all", Brokers::full);
    withAllTopics(full);
    withAllGroups(full);
    CHECK.end();
  }

  private static void withNothing(RefusalTest on) throws ReflectiveOperationException {
    Argument producer = right(0, 3).noIndex(-1, 4);
    on.call("topic", right(1, 4).noArgument(0, -1, 5, MOST), either());
    on.call("send", nothing(), producer, right(0).noArgument(-1), right(-1, 9).noArgument(-2, 10),
        right(0, 999).noArgument(-1, 1000));
    on.call("begin", producer);
    on.call("end", right().noState(0, 1, 2, 3).noIndex(-1, 4), either());
    on.call("setKeep", nothing(), right(0, 200).noArgument(-1, 201));
    on.call("clean", nothing());
    on.call("setClock", right(1, 9999).noArgument(0, -1, 10000, MOST));
    on.call("setPatience", right(1, 20).noArgument(0, 21, MOST), right(1, 50).noArgument(0, 51));
    on.callEach(List.of("clock", "topics", "groups", "ledger", "digest"));
    on.callEach(List.of("start", "endOf", "stable"), nothing(), right(0));
    on.call("message", nothing(), right(0), right(0), right(0, 4).noArgument(-1, 5));
    on.callEach(List.of("kept", "wouldDrop", "group"), nothing());
    on.call("join", nothing(), right(0, 5).noIndex(-1, 6), either());
    on.callEach(List.of("take", "wouldTake"), nothing(), right(0, 5).noIndex(-1, 6));
    on.callEach(List.of("ack", "nack", "seek", "state", "tries"), nothing(), right(0),
        right(0, -1));
    on.callEach(List.of("reader", "mark", "cursor", "lag"), nothing(), right(0));
    on.callEach(List.of("aside", "meanTries", "nextTime"), nothing());
    on.call("row", nothing(), right(0, 4).noArgument(-1, 5));
    on.call("wouldRead", nothing(), right(0, 5), right(0));
  }

  private static void withSomeTopics(RefusalTest on) throws ReflectiveOperationException {
    Argument topic = right(0, 1).noIndex(-1, 2, 4);
    Argument key = right(-1, 0, 9).noArgument(-2, 10, MOST);
    Argument value = right(0, 999).noArgument(-1, 1000, MOST);
    on.call("topic", right(1, 2, 3, 4).noArgument(0, -1, 5, MOST), either());
    on.call("send", right(0).noIndex(-1, 2), right(0).noIndex(-1, 4),
        right(0, 5, 6).noArgument(-1).noState(7, 8, MOST), key, value);
    on.call("send", right(1).noIndex(-1, 2), right(3).noIndex(-1, 4),
        right(0).noArgument(-1).noState(1, 2, MOST), key, value);
    on.call("begin", right(0, 2, 3).noState(1).noIndex(-1, 4));
    on.call("end", right(1).noState(0, 2, 3).noIndex(-1, 4), either());
    on.call("setKeep", topic, right(0, 1, 200).noArgument(-1, 201, MOST));
    on.call("clean", right(0).noState(1).noIndex(-1, 2));
    on.call("setClock", right(15, 16, 9999).noArgument(14, 13, 0, -1, 10000, MOST));
    on.call("setPatience", right(1, 20).noArgument(0, -1, 21, MOST),
        right(1, 50).noArgument(0, -1, 51, MOST));
    on.callEach(List.of("clock", "topics", "groups", "ledger", "digest"));
    for (String name : List.of("start", "endOf", "stable")) {
      on.call(name, right(0).noIndex(-1, 2), right(0, 1, 2).noIndex(-1, 3, 4));
      on.call(name, right(1).noIndex(-1, 2), right(0).noIndex(-1, 1, 3));
    }
    Argument what = right(0, 1, 2, 3, 4).noArgument(-1, 5, MOST);
    on.call("message", right(0).noIndex(-1, 2), right(0).noIndex(-1, 3),
        right(0, 2).noIndex(-1, 3, 80), what);
    on.call("message", right(1).noIndex(-1, 2), right(0).noIndex(-1, 1),
        right(0, 3).noIndex(-1, 4, 80), what);
    on.callEach(List.of("kept", "wouldDrop", "group"), topic);
  }

  private static void withSomeGroups(RefusalTest on) throws ReflectiveOperationException {
    Argument group = right(0, 1).noIndex(-1, 2, 4);
    Argument first = right(0).noIndex(-1, 2);
    Argument second = right(1).noIndex(-1, 2);
    Argument wide = right(0, 2).noIndex(-1, 3, 4);
    Argument narrow = right(0).noIndex(-1, 1, 3);
    on.call("join", group, right(0, 5).noIndex(-1, 6), either());
    on.call("take", first, right(1, 4).noState(0, 2, 3, 5).noIndex(-1, 6));
    on.call("take", second, right(5).noState(0, 1, 2, 3, 4).noIndex(-1, 6));
    for (String name : List.of("ack", "nack")) {
      on.call(name, first, right(0).noIndex(-1, 3),
          right(0).noState(1, 2, 3, -1, 79, 80, LEAST, MOST));
      on.call(name, first, right(1).noIndex(-1, 3), right().noState(0, 1, 2, -1));
      on.call(name, second, narrow, right(1).noState(0, 2, 3, 4, -1, 80, LEAST, MOST));
    }
    on.call("seek", first, right(0).noIndex(-1, 3), right(0, 1, 3).noArgument(-1, 4, 80, MOST));
    on.call("seek", second, narrow, right(0, 4).noArgument(-1, 5, 80, MOST));
    for (String name : List.of("reader", "mark", "cursor", "lag")) {
      on.call(name, first, wide);
      on.call(name, second, narrow);
    }
    for (String name : List.of("state", "tries")) {
      on.call(name, first, right(0).noIndex(-1, 3), right(0, 2).noIndex(-1, 3, 79, 80));
      on.call(name, second, narrow, right(0, 3).noIndex(-1, 4, 79, 80));
    }
    on.callEach(List.of("aside", "meanTries", "nextTime"), group);
    on.call("row", right(0, 12).noIndex(-1, 13, 199, 200),
        right(0, 1, 2, 3, 4).noArgument(-1, 5, MOST));
    on.call("wouldTake", group, right(0, 1, 2, 3, 4, 5).noIndex(-1, 6));
    on.call("wouldRead", first, right(0, 5).noIndex(-1, 6), wide);
    on.call("wouldRead", second, right(0, 5).noIndex(-1, 6), narrow);
  }

  private static void withAllTopics(RefusalTest on) throws ReflectiveOperationException {
    Argument topic = right(0, 3).noIndex(-1, 4);
    Argument partition = right(0, 3).noIndex(-1, 4);
    Argument key = right(-1, 9).noArgument(-2, 10);
    Argument value = right(0, 999).noArgument(-1, 1000);
    on.call("topic", right().noState(1, 4).noArgument(0, 5), either());
    on.call("send", right(1).noIndex(-1, 4), right(1).noIndex(-1, 4),
        right(0, 19).noState(20, 21, MOST).noArgument(-1), key, value);
    on.call("send", right(3).noIndex(-1, 4), right(0).noIndex(-1, 4),
        right().noState(0, 1).noArgument(-1), key, value);
    on.call("begin", right().noState(0, 1, 2, 3).noIndex(-1, 4));
    on.call("end", right(0, 1, 2, 3).noIndex(-1, 4), either());
    on.call("setKeep", topic, right(0, 200).noArgument(-1, 201));
    on.call("clean", right(0, 2).noState(1, 3).noIndex(-1, 4));
    on.call("setClock", right().noArgument(9999, 9998, 10000, 0, -1, MOST));
    on.call("setPatience", right(1, 20).noArgument(0, 21), right(1, 50).noArgument(0, 51));
    on.callEach(List.of("clock", "topics", "groups", "ledger", "digest"));
    on.callEach(List.of("start", "endOf", "stable"), topic, partition);
    on.call("message", topic, partition, right(0, 4).noIndex(-1, 5),
        right(0, 4).noArgument(-1, 5));
    on.callEach(List.of("kept", "wouldDrop"), topic);
    on.call("group", right().noState(0, 1, 2, 3).noIndex(-1, 4));
  }

  private static void withAllGroups(RefusalTest on) throws ReflectiveOperationException {
    Argument group = right(0, 3).noIndex(-1, 4);
    Argument partition = right(0, 3).noIndex(-1, 4);
    Argument reader = right(0, 5).noIndex(-1, 6);
    on.call("join", group, reader, either());
    on.callEach(List.of("take", "wouldTake"), group, reader);
    for (String name : List.of("ack", "nack")) {
      on.call(name, right(1, 3).noIndex(-1, 4), right(0).noIndex(-1, 4),
          right(4).noState(0, 1, 2, 3, 5, -1));
      on.call(name, right(2).noIndex(-1, 4), right(0, 3).noIndex(-1, 4),
          right().noState(0, 4, 5, -1));
    }
    on.call("seek", right(1, 3).noIndex(-1, 4), partition, right(0, 5).noArgument(-1, 6));
    on.call("seek", right(2).noIndex(-1, 4), partition, right(5).noArgument(4, 6, 0, -1));
    on.callEach(List.of("reader", "mark", "cursor", "lag"), group, partition);
    on.callEach(List.of("state", "tries"), group, partition, right(0, 4).noIndex(-1, 5));
    on.callEach(List.of("aside", "meanTries", "nextTime"), group);
    on.call("row", right(0, 199).noIndex(-1, 200), right(0, 4).noArgument(-1, 5));
    on.call("wouldRead", group, reader, partition);
  }

  private void callEach(List<String> names, Argument... arguments)
      throws ReflectiveOperationException {
    for (String name : names) {
      call(name, arguments);
    }
  }

  private void call(String name, Argument... arguments) throws ReflectiveOperationException {
    Method method = methodOf(name);
    callWith(method, arguments, new int[arguments.length], 0, 0);
  }

  private static Method methodOf(String name) {
    for (Method method : TailraceBroker.class.getMethods()) {
      if (method.getName().equals(name)) {
        return method;
      }
    }
    throw new IllegalArgumentException(name);
  }

  /** Goes through the values of the arguments from the given one on. */
  private void callWith(Method method, Argument[] arguments, int[] chosen, int from, int wrong)
      throws ReflectiveOperationException {
    if (from == arguments.length) {
      callOnce(method, arguments, chosen);
      return;
    }
    for (int choice = 0; choice < arguments[from].values.size(); choice++) {
      boolean isWrong = arguments[from].refusals.get(choice) != Refusal.NONE;
      if (!isWrong || wrong < WRONG_AT_ONCE) {
        chosen[from] = choice;
        callWith(method, arguments, chosen, from + 1, isWrong ? wrong + 1 : wrong);
      }
    }
  }

  private void callOnce(Method method, Argument[] arguments, int[] chosen)
      throws ReflectiveOperationException {
    Object[] given = new Object[arguments.length];
    Refusal due = Refusal.NONE;
    for (int i = 0; i < given.length; i++) {
      int value = arguments[i].values.get(chosen[i]);
      boolean isFlag = method.getParameterTypes()[i] == boolean.class;
      given[i] = isFlag ? (Object) (value == 1) : (Object) value;
      Refusal refusal = arguments[i].refusals.get(chosen[i]);
      due = refusal.compareTo(due) < 0 ? refusal : due;
    }
    String what = "with " + state + ", " + method.getName() + Arrays.toString(given);
    TailraceBroker broker = maker.get();
    String held = Snapshot.of(broker);
    long before = broker.digest();
    CHECK.dueText(what + " throws", thrownBy(method, broker, given), due.told());
    if (due != Refusal.NONE || ASKING.contains(method.getName())) {
      CHECK.dueHeld(what, broker, held);
      CHECK.due(what + " leaves the digest", broker.digest(), before);
    }
  }

  private static String thrownBy(Method method, TailraceBroker broker, Object[] given)
      throws IllegalAccessException {
    try {
      method.invoke(broker, given);
      return Refusal.NONE.told();
    } catch (InvocationTargetException thrown) {
      return Check.told(thrown.getCause());
    }
  }
}
