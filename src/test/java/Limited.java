import java.lang.reflect.InvocationTargetException;
import java.lang.reflect.Method;

/**
 * Runs the test that is named, as "java Name" does, but not for ever: a call that never ends would
 * otherwise not fail a test, but hold up all of them.
 */
public final class Limited {
  /** The slowest test takes some 4 seconds. */
  private static final long MOST_MILLISECONDS = 120_000;
  /** Told apart from a test that fails, so that the tests behind it need not wait, too. */
  private static final int NOT_ENDED = 3;

  private Limited() {
  }

  public static void main(String[] arguments) throws ReflectiveOperationException {
    String test = arguments[0];
    Method main = Class.forName(test).getDeclaredMethod("main", String[].class);
    main.setAccessible(true);
    Thread watch = new Thread(() -> endInTime(test));
    watch.setDaemon(true);
    watch.start();
    try {
      main.invoke(null, (Object) new String[0]);
    } catch (InvocationTargetException thrown) {
      thrown.getCause().printStackTrace();
      System.exit(1);
    }
  }

  private static void endInTime(String test) {
    try {
      Thread.sleep(MOST_MILLISECONDS);
    } catch (InterruptedException woken) {
      System.out.println(test + ": its watch was woken");
    }
    System.out.println(test + ": not ended in time");
    Runtime.getRuntime().halt(NOT_ENDED);
  }
}
