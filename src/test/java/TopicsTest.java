/** Promises 1 to 3, 6, and 10 to 16: TOPICS, MESSAGES and what one asks of them. */
public final class TopicsTest {
  private static final Check CHECK = new Check("TopicsTest");

  private TopicsTest() {
  }

  public static void main(String[] arguments) {
    promise1NewObject();
    promise2Topic();
    promise2FourTopics();
    promise3Offsets();
    promise3KeysAndFewest();
    promise3Numbers();
    promise3WrongInputs();
    promise3OrderOfExceptions();
    promise3EightyMessages();
    promise6SetKeep();
    promise10Clock();
    promise11Topics();
    promise12Start();
    promise13EndOf();
    promise14Stable();
    promise15Message();
    promise16Kept();
    CHECK.end();
  }

  private static void promise1NewObject() {
    TailraceBroker broker = new TailraceBroker();
    CHECK.due("a new one's topics", broker.topics(), 0);
    CHECK.due("a new one's groups", broker.groups(), 0);
    CHECK.due("a new one's clock", broker.clock(), 0);
    CHECK.due("a new one's ledger", broker.ledger(), 0);
    CHECK.due("a new one's delay", broker.setPatience(3, 3), 2);
    CHECK.noIndex("a new one's start", broker, () -> broker.start(0, 0));
    TailraceBroker other = new TailraceBroker();
    broker.topic(1, true);
    CHECK.due("another one's topics", other.topics(), 0);
  }

  private static void promise2Topic() {
    TailraceBroker broker = new TailraceBroker();
    CHECK.noArgument("topic of 0", broker, () -> broker.topic(0, false));
    CHECK.noArgument("topic of 5", broker, () -> broker.topic(5, true));
    CHECK.noArgument("topic of -1", broker, () -> broker.topic(-1, true));
    CHECK.noArgument("topic of least", broker, () -> broker.topic(Integer.MIN_VALUE, true));
    CHECK.due("first topic", broker.topic(1, false), 0);
    CHECK.due("second topic", broker.topic(4, true), 1);
    CHECK.noIndex("a partition too many", broker, () -> broker.start(0, 1));
    CHECK.due("the last partition", broker.start(1, 3), 0);
    CHECK.noState("the first is not compact", broker, () -> broker.clean(0));
    CHECK.due("the second is", broker.clean(1), 0);
  }

  private static void promise2FourTopics() {
    TailraceBroker broker = new TailraceBroker();
    for (int topic = 0; topic < 4; topic++) {
      CHECK.due("topic", broker.topic(topic + 1, false), topic);
    }
    CHECK.noState("a fifth topic", broker, () -> broker.topic(1, false));
    CHECK.noArgument("a fifth topic of 5", broker, () -> broker.topic(5, false));
    CHECK.due("topics", broker.topics(), 4);
  }

  private static void promise3Offsets() {
    TailraceBroker broker = new TailraceBroker();
    broker.topic(1, false);
    broker.topic(1, false);
    CHECK.due("first", broker.send(0, 0, 0, -1, 0), 0);
    CHECK.due("second", broker.send(0, 1, 0, 9, 999), 1);
    CHECK.due("of the other topic", broker.send(1, 0, 0, 0, 5), 0);
    broker.setKeep(0, 1);
    broker.setClock(1);
    CHECK.due("behind dropped ones", broker.send(0, 3, 0, -1, 0), 2);
  }

  private static void promise3KeysAndFewest() {
    TailraceBroker broker = new TailraceBroker();
    broker.topic(3, false);
    broker.send(0, 0, 0, 9, 0);
    broker.send(0, 0, 1, 4, 1);
    broker.send(0, 0, 2, 8, 2);
    broker.send(0, 0, 3, 7, 3);
    CHECK.due("key 9 goes to 0", broker.message(0, 0, 0, 0), 9);
    CHECK.due("key 4 goes to 1", broker.message(0, 1, 0, 0), 4);
    CHECK.due("key 7 goes to 1", broker.message(0, 1, 1, 0), 7);
    CHECK.due("key 8 goes to 2", broker.message(0, 2, 0, 0), 8);
    CHECK.due("to the first of the fewest", broker.send(0, 0, 4, -1, 4), 1);
    CHECK.due("it is there", broker.message(0, 0, 1, 1), 4);
    CHECK.due("to the fewest", broker.send(0, 0, 5, -1, 5), 1);
    CHECK.due("it is there", broker.message(0, 2, 1, 1), 5);
    broker.setKeep(0, 1);
    broker.setClock(1);
    broker.send(0, 0, 6, 0, 6);
    CHECK.due("dropped ones count", broker.send(0, 0, 7, -1, 7), 2);
    CHECK.due("it is there", broker.message(0, 1, 2, 1), 7);
  }

  private static void promise3Numbers() {
    TailraceBroker broker = new TailraceBroker();
    broker.topic(2, false);
    broker.topic(1, false);
    CHECK.noState("a first number of 1", broker, () -> broker.send(0, 0, 1, 0, 0));
    CHECK.due("number 0", broker.send(0, 0, 0, 0, 0), 0);
    long before = broker.digest();
    CHECK.due("a double", broker.send(0, 0, 0, 1, 5), -2);
    CHECK.due("nothing happens", broker.digest(), before);
    CHECK.noState("a gap", broker, () -> broker.send(0, 0, 2, 0, 0));
    CHECK.noState("a wide gap", broker, () -> broker.send(0, 0, Integer.MAX_VALUE, 0, 0));
    CHECK.due("number 1", broker.send(0, 0, 1, 0, 0), 1);
    CHECK.due("an older double", broker.send(0, 0, 0, 0, 0), -2);
    CHECK.due("another producer has its own", broker.send(0, 1, 0, 0, 0), 2);
    CHECK.due("another topic too", broker.send(1, 0, 0, 0, 0), 0);
    broker.begin(0);
    broker.send(0, 0, 2, 0, 0);
    broker.end(0, false);
    CHECK.due("one of an undone transaction", broker.send(0, 0, 2, 0, 0), -2);
    CHECK.due("the one behind it", broker.send(0, 0, 3, 0, 0), 4);
  }

  private static void promise3WrongInputs() {
    TailraceBroker broker = new TailraceBroker();
    broker.topic(1, false);
    CHECK.noIndex("topic 1", broker, () -> broker.send(1, 0, 0, 0, 0));
    CHECK.noIndex("topic -1", broker, () -> broker.send(-1, 0, 0, 0, 0));
    CHECK.noIndex("producer 4", broker, () -> broker.send(0, 4, 0, 0, 0));
    CHECK.noIndex("producer -1", broker, () -> broker.send(0, -1, 0, 0, 0));
    CHECK.noArgument("number -1", broker, () -> broker.send(0, 0, -1, 0, 0));
    CHECK.noArgument("key -2", broker, () -> broker.send(0, 0, 0, -2, 0));
    CHECK.noArgument("key 10", broker, () -> broker.send(0, 0, 0, 10, 0));
    CHECK.noArgument("value -1", broker, () -> broker.send(0, 0, 0, 0, -1));
    CHECK.noArgument("value 1000", broker, () -> broker.send(0, 0, 0, 0, 1000));
    CHECK.due("the edges", broker.send(0, 3, 0, -1, 999), 0);
  }

  private static void promise3OrderOfExceptions() {
    TailraceBroker broker = new TailraceBroker();
    broker.topic(1, false);
    CHECK.noIndex("a producer before a number", broker, () -> broker.send(0, 4, -1, 0, 0));
    CHECK.noIndex("a topic before a key", broker, () -> broker.send(1, 0, 0, 10, 0));
    CHECK.noArgument("a value before a gap", broker, () -> broker.send(0, 0, 1, 0, 1000));
    broker.send(0, 0, 0, 0, 0);
    CHECK.noArgument("a key before a double", broker, () -> broker.send(0, 0, 0, 10, 0));
  }

  private static void promise3EightyMessages() {
    TailraceBroker broker = Brokers.oneRow(79);
    broker.topic(1, false);
    CHECK.due("the 80th, of another topic", broker.send(1, 0, 0, -1, 0), 0);
    CHECK.noState("the 81st", broker, () -> broker.send(0, 0, 79, -1, 0));
    CHECK.noState("of another producer", broker, () -> broker.send(0, 1, 0, -1, 0));
    CHECK.noState("a gap", broker, () -> broker.send(0, 0, 80, -1, 0));
    CHECK.due("a double still is one", broker.send(0, 0, 78, -1, 0), -2);
    CHECK.noArgument("a wrong value still is", broker, () -> broker.send(0, 0, 79, -1, -1));
    broker.setKeep(0, 1);
    broker.setClock(1);
    CHECK.noState("dropped ones count", broker, () -> broker.send(0, 0, 79, -1, 0));
    CHECK.due("the end", broker.endOf(0, 0), 79);
  }

  private static void promise6SetKeep() {
    TailraceBroker broker = Brokers.oneRow(1);
    broker.topic(1, false);
    CHECK.due("keep at first", broker.setKeep(0, 200), 0);
    CHECK.due("keep before", broker.setKeep(0, 0), 200);
    CHECK.due("each topic has its own", broker.setKeep(1, 5), 0);
    CHECK.noIndex("topic 2", broker, () -> broker.setKeep(2, 0));
    CHECK.noIndex("topic -1 before keep", broker, () -> broker.setKeep(-1, 201));
    CHECK.noArgument("keep 201", broker, () -> broker.setKeep(0, 201));
    CHECK.noArgument("keep -1", broker, () -> broker.setKeep(0, -1));
    CHECK.due("a refused one is not kept", broker.setKeep(0, 1), 0);
    broker.setClock(3);
    CHECK.due("it drops as the clock is set", broker.start(0, 0), 1);
    broker.send(0, 0, 1, -1, 0);
    broker.setKeep(0, 0);
    broker.setClock(9999);
    CHECK.due("0 is for ever", broker.start(0, 0), 1);
    broker.setKeep(0, 1);
    CHECK.due("it drops nothing itself", broker.start(0, 0), 1);
  }

  private static void promise10Clock() {
    TailraceBroker broker = new TailraceBroker();
    CHECK.due("clock at first", broker.clock(), 0);
    broker.setClock(17);
    CHECK.due("clock then", broker.clock(), 17);
  }

  private static void promise11Topics() {
    TailraceBroker broker = new TailraceBroker();
    broker.topic(2, true);
    broker.topic(2, true);
    CHECK.due("topics", broker.topics(), 2);
  }

  private static void promise12Start() {
    TailraceBroker broker = new TailraceBroker();
    broker.topic(2, false);
    broker.send(0, 0, 0, 1, 0);
    broker.setKeep(0, 2);
    broker.setClock(2);
    CHECK.due("start of 0", broker.start(0, 0), 0);
    CHECK.due("start of 1", broker.start(0, 1), 1);
    CHECK.noIndex("topic 1", broker, () -> broker.start(1, 0));
    CHECK.noIndex("topic -1", broker, () -> broker.start(-1, 0));
    CHECK.noIndex("partition 2", broker, () -> broker.start(0, 2));
    CHECK.noIndex("partition -1", broker, () -> broker.start(0, -1));
  }

  private static void promise13EndOf() {
    TailraceBroker broker = new TailraceBroker();
    broker.topic(2, false);
    CHECK.due("end at first", broker.endOf(0, 1), 0);
    broker.send(0, 0, 0, 1, 0);
    broker.send(0, 0, 1, 3, 0);
    CHECK.due("end of 0", broker.endOf(0, 0), 0);
    CHECK.due("end of 1", broker.endOf(0, 1), 2);
    CHECK.noIndex("topic 1", broker, () -> broker.endOf(1, 0));
    CHECK.noIndex("topic -1", broker, () -> broker.endOf(-1, 0));
    CHECK.noIndex("partition 2", broker, () -> broker.endOf(0, 2));
    CHECK.noIndex("partition -1", broker, () -> broker.endOf(0, -1));
  }

  private static void promise14Stable() {
    TailraceBroker broker = new TailraceBroker();
    broker.topic(2, false);
    broker.send(0, 0, 0, 0, 0);
    broker.begin(1);
    broker.send(0, 1, 0, 0, 0);
    broker.send(0, 0, 1, 0, 0);
    broker.begin(2);
    broker.send(0, 2, 0, 0, 0);
    CHECK.due("the first pending one", broker.stable(0, 0), 1);
    CHECK.due("the end without any", broker.stable(0, 1), 0);
    broker.end(1, false);
    CHECK.due("a hidden one does not hold", broker.stable(0, 0), 3);
    broker.end(2, true);
    CHECK.due("the end then", broker.stable(0, 0), 4);
    CHECK.noIndex("topic 1", broker, () -> broker.stable(1, 0));
    CHECK.noIndex("topic -1", broker, () -> broker.stable(-1, 0));
    CHECK.noIndex("partition 2", broker, () -> broker.stable(0, 2));
    CHECK.noIndex("partition -1", broker, () -> broker.stable(0, -1));
  }

  private static void promise15Message() {
    TailraceBroker broker = new TailraceBroker();
    broker.topic(2, true);
    broker.setClock(6);
    broker.send(0, 0, 0, 3, 42);
    broker.setClock(7);
    broker.send(0, 0, 1, -1, 43);
    broker.send(0, 0, 2, 3, 44);
    dueMessage(broker, 1, 0, 3, 42, 6, 0, 0);
    dueMessage(broker, 0, 0, -1, 43, 7, 0, 0);
    broker.clean(0);
    dueMessage(broker, 1, 0, 3, 42, 6, 0, 1);
    broker.begin(1);
    broker.send(0, 1, 0, 0, 45);
    dueMessage(broker, 0, 1, 0, 45, 7, 2, 0);
    broker.end(1, false);
    dueMessage(broker, 0, 1, 0, 45, 7, 1, 0);
    broker.begin(1);
    broker.send(0, 1, 1, 0, 46);
    broker.end(1, true);
    dueMessage(broker, 0, 2, 0, 46, 7, 0, 0);
    CHECK.noIndex("topic 1", broker, () -> broker.message(1, 0, 0, 0));
    CHECK.noIndex("partition 2", broker, () -> broker.message(0, 2, 0, 0));
    CHECK.noIndex("offset -1", broker, () -> broker.message(0, 0, -1, 0));
    CHECK.noIndex("offset 3, before what", broker, () -> broker.message(0, 0, 3, 5));
    CHECK.noArgument("what -1", broker, () -> broker.message(0, 0, 0, -1));
    CHECK.noArgument("what 5", broker, () -> broker.message(0, 0, 0, 5));
  }

  private static void dueMessage(
      TailraceBroker broker, int partition, int offset, int... want) {
    for (int what = 0; what < want.length; what++) {
      CHECK.due("message " + what, broker.message(0, partition, offset, what), want[what]);
    }
  }

  private static void promise16Kept() {
    TailraceBroker broker = new TailraceBroker();
    broker.topic(2, true);
    CHECK.due("none", broker.kept(0), 0);
    broker.send(0, 0, 0, 0, 0);
    broker.send(0, 0, 1, 1, 0);
    broker.send(0, 0, 2, 1, 0);
    CHECK.due("of all partitions", broker.kept(0), 3);
    broker.begin(1);
    broker.send(0, 1, 0, 0, 0);
    CHECK.due("without a pending one", broker.kept(0), 3);
    broker.send(0, 0, 3, 0, 0);
    CHECK.due("with one behind a pending one", broker.kept(0), 4);
    broker.end(1, false);
    CHECK.due("without a hidden one", broker.kept(0), 4);
    broker.clean(0);
    CHECK.due("without dropped ones", broker.kept(0), 2);
    broker.topic(1, false);
    CHECK.due("of the other topic", broker.kept(1), 0);
    CHECK.noIndex("topic 2", broker, () -> broker.kept(2));
    CHECK.noIndex("topic -1", broker, () -> broker.kept(-1));
  }
}
