import java.util.function.IntSupplier;

/** Counts the answers of a test that are not the ones that are due, and ends it by them. */
final class Check {
  private final String test;
  private int checked = 0;
  private int wrong = 0;

  Check(String test) {
    this.test = test;
  }

  void due(String what, long got, long want) {
    checked++;
    if (got != want) {
      tellWrong(what, Long.toString(got), Long.toString(want));
    }
  }

  void due(String what, boolean got, boolean want) {
    due(what, got ? 1 : 0, want ? 1 : 0);
  }

  void dueText(String what, String got, String want) {
    checked++;
    if (!got.equals(want)) {
      tellWrong(what, got, want);
    }
  }

  void dueDouble(String what, double got, double want) {
    checked++;
    if (got != want) {
      tellWrong(what, Double.toString(got), Double.toString(want));
    }
  }

  /** The call throws just that, and changes nothing: neither what is told nor what is not. */
  void refused(
      String what, TailraceBroker broker, Class<? extends RuntimeException> want, Runnable call) {
    checked++;
    long before = broker.digest();
    String held = Snapshot.of(broker);
    String got = "nothing";
    try {
      call.run();
    } catch (RuntimeException thrown) {
      got = told(thrown);
    }
    if (!got.equals(want.getName())) {
      tellWrong(what + " throws", got, want.getName());
    }
    dueHeld(what, broker, held);
    due(what + " leaves the digest", broker.digest(), before);
  }

  /** What the object holds is what it held; told from where it is not. */
  void dueHeld(String what, TailraceBroker broker, String want) {
    checked++;
    String got = Snapshot.of(broker);
    if (!got.equals(want)) {
      int from = Snapshot.firstDifference(got, want);
      tellWrong(what + " changes something", Snapshot.excerpt(got, from),
          Snapshot.excerpt(want, from));
    }
  }

  /** The call answers so, and changes nothing. */
  void dueUnchanged(String what, TailraceBroker broker, IntSupplier call, int want) {
    String held = Snapshot.of(broker);
    due(what, call.getAsInt(), want);
    dueHeld(what, broker, held);
  }

  /** The sort of an exception; also its place, if it is not the class's own "throw". */
  static String told(Throwable thrown) {
    StackTraceElement[] calls = thrown.getStackTrace();
    String sort = thrown.getClass().getName();
    boolean isOwn = calls.length > 0 && calls[0].getClassName().startsWith("TailraceBroker");
    return isOwn ? sort : sort + " from outside";
  }

  void noIndex(String what, TailraceBroker broker, Runnable call) {
    refused(what, broker, IndexOutOfBoundsException.class, call);
  }

  void noArgument(String what, TailraceBroker broker, Runnable call) {
    refused(what, broker, IllegalArgumentException.class, call);
  }

  void noState(String what, TailraceBroker broker, Runnable call) {
    refused(what, broker, IllegalStateException.class, call);
  }

  /** The states of the OFFSETS from 0 on, a digit each. */
  void dueStates(String what, TailraceBroker broker, int group, int partition, String want) {
    checked++;
    StringBuilder got = new StringBuilder();
    for (int offset = 0; offset < want.length(); offset++) {
      got.append(broker.state(group, partition, offset));
    }
    if (!want.contentEquals(got)) {
      tellWrong(what, got.toString(), want);
    }
  }

  void end() {
    System.out.println(test + ": " + checked + " checked, " + wrong + " wrong");
    if (wrong > 0) {
      System.exit(1);
    }
  }

  private void tellWrong(String what, String got, String want) {
    wrong++;
    System.out.println(test + ": " + what + ": " + got + ", due is " + want);
  }
}
