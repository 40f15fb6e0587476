/** Promises 7, 8, 9 and 37: what is DROPPED, and what the CLOCK brings. */
public final class KeepingTest {
  private static final Check CHECK = new Check("KeepingTest");

  private KeepingTest() {
  }

  public static void main(String[] arguments) {
    promise7Clean();
    promise7PendingAndHidden();
    promise7Groups();
    promise7WrongInputs();
    promise8Clock();
    promise8Nacks();
    promise8NackOrder();
    promise8LaysAside();
    promise8Drops();
    promise8DropsCleanedAndHidden();
    promise8NacksBeforeItDrops();
    promise9SetPatience();
    promise37WouldDrop();
    CHECK.end();
  }

  private static TailraceBroker keyed(boolean isCompact, int... keys) {
    TailraceBroker broker = new TailraceBroker();
    broker.topic(1, isCompact);
    for (int number = 0; number < keys.length; number++) {
      broker.send(0, 0, number, keys[number], number);
    }
    return broker;
  }

  private static void dueDropped(String what, TailraceBroker broker, String want) {
    StringBuilder got = new StringBuilder();
    for (int offset = 0; offset < broker.endOf(0, 0); offset++) {
      got.append(broker.message(0, 0, offset, 4));
    }
    CHECK.due(what + ": " + got + " for " + want, want.contentEquals(got), true);
  }

  private static void promise7Clean() {
    TailraceBroker broker = keyed(true, 1, -1, 2, 1, -1, 1, 0);
    CHECK.due("how many", broker.clean(0), 2);
    dueDropped("the latest of each key is kept", broker, "1001000");
    CHECK.due("the start stays", broker.start(0, 0), 0);
    CHECK.due("anew", broker.clean(0), 0);
    broker.send(0, 0, 7, 0, 0);
    broker.send(0, 0, 8, 1, 0);
    CHECK.due("those that are dropped do not count", broker.clean(0), 2);
    dueDropped("then", broker, "100101100");
    TailraceBroker wide = new TailraceBroker();
    wide.topic(2, true);
    for (int number = 0; number < 6; number++) {
      wide.send(0, 0, number, number % 2, 0);
    }
    CHECK.due("in each partition", wide.clean(0), 4);
  }

  private static void promise7PendingAndHidden() {
    TailraceBroker broker = keyed(true, 1, 1, 1);
    broker.begin(1);
    broker.send(0, 1, 0, 1, 0);
    broker.send(0, 0, 3, 1, 0);
    CHECK.due("below the stable end alone", broker.clean(0), 2);
    dueDropped("below the stable end alone", broker, "11000");
    broker.end(1, false);
    CHECK.due("a hidden one is not", broker.clean(0), 1);
    dueDropped("a hidden one is not", broker, "11100");
    TailraceBroker hidden = keyed(true, 1);
    hidden.begin(1);
    hidden.send(0, 1, 0, 1, 0);
    hidden.end(1, false);
    CHECK.due("a hidden one does not count as later", hidden.clean(0), 0);
  }

  private static void promise7Groups() {
    TailraceBroker broker = keyed(true, 1, 1, 1, 2, 2, 3);
    broker.group(0);
    broker.join(0, 0, true);
    for (int times = 0; times < 5; times++) {
      broker.take(0, 0);
    }
    broker.nack(0, 0, 1);
    broker.ack(0, 0, 3);
    CHECK.dueStates("before", broker, 0, 0, "121310");
    broker.clean(0);
    CHECK.dueStates("what is out or again is as never given", broker, 0, 0, "001310");
    CHECK.due("its tries", broker.tries(0, 0, 0), 0);
    CHECK.due("its tries", broker.tries(0, 0, 1), 0);
    CHECK.due("a read one's stay", broker.tries(0, 0, 3), 1);
    CHECK.due("the mark goes on", broker.mark(0, 0), 2);
    CHECK.due("the cursor stays", broker.cursor(0, 0), 5);
    CHECK.noState("it is not out", broker, () -> broker.ack(0, 0, 0));
    CHECK.due("the mark then", broker.ack(0, 0, 2), 4);
    TailraceBroker fresh = keyed(true, 1, 1, -1);
    fresh.group(0);
    fresh.clean(0);
    CHECK.due("the cursor is not below the mark", fresh.cursor(0, 0), 1);
  }

  private static void promise7WrongInputs() {
    TailraceBroker broker = keyed(false, 1, 1);
    CHECK.noState("not compact", broker, () -> broker.clean(0));
    CHECK.noIndex("topic 1", broker, () -> broker.clean(1));
    CHECK.noIndex("topic -1", broker, () -> broker.clean(-1));
  }

  private static void promise8Clock() {
    TailraceBroker broker = new TailraceBroker();
    CHECK.noArgument("0", broker, () -> broker.setClock(0));
    CHECK.noArgument("-1", broker, () -> broker.setClock(-1));
    CHECK.noArgument("10000", broker, () -> broker.setClock(10000));
    CHECK.due("by one", broker.setClock(1), 0);
    CHECK.noArgument("the same", broker, () -> broker.setClock(1));
    CHECK.due("to the last", broker.setClock(9999), 0);
    CHECK.noArgument("above the last", broker, () -> broker.setClock(10000));
    CHECK.due("the clock", broker.clock(), 9999);
  }

  private static void promise8Nacks() {
    TailraceBroker broker = Brokers.oneReader(3);
    broker.take(0, 0);
    broker.setClock(1);
    broker.take(0, 0);
    CHECK.due("not yet", broker.setClock(9), 0);
    CHECK.due("one for 10 ticks", broker.setClock(10), 1);
    CHECK.dueStates("it is again", broker, 0, 0, "210");
    CHECK.due("the least time", broker.nextTime(0), 11);
    CHECK.due("one for more", broker.setClock(30), 1);
    CHECK.due("a row of it", broker.row(3, 0), 2);
    CHECK.due("a row of it, when", broker.row(3, 4), 30);
    CHECK.due("what is again is not nacked", broker.setClock(60), 0);
    broker.take(0, 0);
    broker.setClock(61);
    broker.setPatience(20, 1);
    CHECK.due("patience is that of now", broker.setClock(62), 1);
    CHECK.due("the delay is that of now", broker.state(0, 0, 0), 2);
    CHECK.due("nothing before its time", broker.wouldTake(0, 0), 1);
    broker.setClock(101);
    CHECK.due("tries 2 doubles the delay", broker.wouldTake(0, 0), 1);
    broker.setClock(102);
    CHECK.due("at its time", broker.wouldTake(0, 0), 0);
  }

  private static void promise8NackOrder() {
    TailraceBroker broker = Brokers.keyedRows(2, false, 4);
    broker.group(0);
    broker.group(0);
    broker.join(1, 5, true);
    broker.join(0, 2, true);
    broker.join(0, 3, true);
    broker.take(1, 5);
    broker.take(0, 3);
    broker.take(0, 2);
    broker.take(0, 3);
    CHECK.due("how many", broker.setClock(10), 4);
    int[][] want = {{0, 0, 0}, {0, 1, 0}, {0, 1, 1}, {1, 0, 0}};
    for (int row = 0; row < 4; row++) {
      CHECK.due("sort", broker.row(4 + row, 0), 2);
      CHECK.due("group", broker.row(4 + row, 1), want[row][0]);
      CHECK.due("partition", broker.row(4 + row, 2), want[row][1]);
      CHECK.due("offset", broker.row(4 + row, 3), want[row][2]);
    }
  }

  private static void promise8LaysAside() {
    TailraceBroker broker = Brokers.oneReader(2);
    broker.take(0, 0);
    broker.setClock(10);
    broker.setClock(12);
    broker.take(0, 0);
    broker.setClock(22);
    broker.setClock(26);
    broker.take(0, 0);
    CHECK.due("tries", broker.tries(0, 0, 0), 3);
    CHECK.due("the third one", broker.setClock(36), 1);
    CHECK.due("laid aside", broker.state(0, 0, 0), 4);
    CHECK.due("the mark goes on", broker.mark(0, 0), 1);
    CHECK.due("the cursor too", broker.cursor(0, 0), 1);
    CHECK.due("rows", broker.ledger(), 7);
    CHECK.due("nacked first", broker.row(5, 0), 2);
    CHECK.due("then laid aside", broker.row(6, 0), 3);
    CHECK.due("when", broker.row(6, 4), 36);
  }

  private static void promise8Drops() {
    TailraceBroker broker = Brokers.oneReader(2);
    broker.setClock(1);
    Brokers.sendPlain(broker, 0, 2, 1);
    broker.begin(1);
    broker.send(0, 1, 0, -1, 0);
    Brokers.sendPlain(broker, 0, 3, 1);
    broker.setKeep(0, 5);
    broker.take(0, 0);
    broker.setClock(4);
    CHECK.due("not yet", broker.start(0, 0), 0);
    broker.setClock(5);
    CHECK.due("those of 5 ticks ago", broker.start(0, 0), 2);
    dueDropped("those of 5 ticks ago", broker, "11000");
    CHECK.dueStates("what was out is as never given", broker, 0, 0, "00000");
    CHECK.due("its tries", broker.tries(0, 0, 0), 0);
    CHECK.due("the mark goes on", broker.mark(0, 0), 2);
    CHECK.due("the cursor too", broker.cursor(0, 0), 2);
    broker.setClock(100);
    CHECK.due("not a pending one", broker.start(0, 0), 3);
    dueDropped("none behind it", broker, "11100");
    broker.end(1, true);
    CHECK.due("it is not dropped yet", broker.start(0, 0), 3);
    broker.setClock(101);
    CHECK.due("up to the end", broker.start(0, 0), 5);
    CHECK.due("the mark", broker.mark(0, 0), 5);
  }

  private static void promise8DropsCleanedAndHidden() {
    TailraceBroker broker = keyed(true, 1, 1);
    broker.begin(1);
    broker.send(0, 1, 0, 1, 0);
    broker.end(1, false);
    broker.clean(0);
    broker.setClock(3);
    broker.send(0, 0, 2, 1, 0);
    broker.clean(0);
    dueDropped("cleaned", broker, "1100");
    broker.setKeep(0, 4);
    broker.setClock(4);
    CHECK.due("cleaned and hidden ones too", broker.start(0, 0), 3);
    dueDropped("cleaned and hidden ones too", broker, "1110");
    CHECK.due("a hidden one stays hidden", broker.message(0, 0, 2, 3), 1);
    broker.send(0, 0, 3, 1, 0);
    broker.clean(0);
    broker.setClock(6);
    CHECK.due("a cleaned one not before its time", broker.start(0, 0), 3);
    broker.setClock(7);
    CHECK.due("at its time", broker.start(0, 0), 4);
  }

  private static void promise8NacksBeforeItDrops() {
    TailraceBroker broker = Brokers.oneReader(1);
    broker.setKeep(0, 10);
    broker.take(0, 0);
    CHECK.due("nacked", broker.setClock(10), 1);
    CHECK.due("a row of it", broker.row(1, 0), 2);
    CHECK.due("dropped then", broker.start(0, 0), 1);
    CHECK.due("as never given", broker.state(0, 0, 0), 0);
    CHECK.due("no time", broker.nextTime(0), -1);
    TailraceBroker last = Brokers.oneReader(1);
    last.setPatience(1, 50);
    last.take(0, 0);
    last.nack(0, 0, 0);
    last.setClock(1);
    last.take(0, 0);
    last.nack(0, 0, 0);
    last.setClock(3);
    last.take(0, 0);
    last.setKeep(0, 1);
    CHECK.due("nacked for the third time", last.setClock(53), 1);
    CHECK.due("laid aside, dropped or not", last.aside(0), 1);
    CHECK.due("its tries stay", last.tries(0, 0, 0), 3);
  }

  private static void promise9SetPatience() {
    TailraceBroker broker = Brokers.oneReader(1);
    CHECK.due("delay at first", broker.setPatience(20, 50), 2);
    CHECK.due("delay before", broker.setPatience(1, 1), 20);
    CHECK.noArgument("delay 0", broker, () -> broker.setPatience(0, 1));
    CHECK.noArgument("delay 21", broker, () -> broker.setPatience(21, 1));
    CHECK.noArgument("patience 0", broker, () -> broker.setPatience(1, 0));
    CHECK.noArgument("patience 51", broker, () -> broker.setPatience(1, 51));
    CHECK.due("refused ones are not kept", broker.setPatience(7, 50), 1);
    broker.setPatience(7, 50);
    broker.take(0, 0);
    CHECK.due("patience", broker.setClock(49), 0);
    CHECK.due("patience", broker.setClock(50), 1);
    CHECK.due("delay", broker.nextTime(0), 57);
    broker.setPatience(1, 1);
    CHECK.due("a time that is told stays", broker.nextTime(0), 57);
  }

  private static void promise37WouldDrop() {
    TailraceBroker broker = keyed(false, 1, 1, -1, -1, 2, 1);
    broker.group(0);
    long before = broker.digest();
    CHECK.due("also if it is not compact", broker.wouldDrop(0), 2);
    CHECK.due("nothing is changed", broker.digest(), before);
    broker.topic(2, true);
    for (int number = 0; number < 6; number++) {
      broker.send(1, 0, number, number % 2, 0);
    }
    CHECK.due("of all partitions", broker.wouldDrop(1), 4);
    broker.clean(1);
    CHECK.due("none then", broker.wouldDrop(1), 0);
    broker.setKeep(0, 1);
    broker.setClock(1);
    CHECK.due("none of those that are dropped", broker.wouldDrop(0), 0);
    CHECK.noIndex("topic 2", broker, () -> broker.wouldDrop(2));
    CHECK.noIndex("topic -1", broker, () -> broker.wouldDrop(-1));
  }
}
