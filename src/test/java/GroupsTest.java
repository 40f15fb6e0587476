/** Promises 17, 18, and 23 to 31: GROUPS, their READERS, and what one asks of them. */
public final class GroupsTest {
  private static final Check CHECK = new Check("GroupsTest");

  private GroupsTest() {
  }

  public static void main(String[] arguments) {
    promise17Group();
    promise17BeginsAtTheStart();
    promise17FourGroups();
    promise18Join();
    promise18Shares();
    promise18Resets();
    promise18KeepsWhatStays();
    promise18NoneInBetween();
    promise23Groups();
    promise24Reader();
    promise25Mark();
    promise26Cursor();
    promise27State();
    promise28Tries();
    promise29Lag();
    promise30Aside();
    promise31MeanTries();
    fullPartition();
    CHECK.end();
  }

  private static void dueReaders(String what, TailraceBroker broker, int group, int... want) {
    for (int partition = 0; partition < want.length; partition++) {
      CHECK.due(what + ", partition " + partition, broker.reader(group, partition),
          want[partition]);
    }
  }

  private static void promise17Group() {
    TailraceBroker broker = new TailraceBroker();
    CHECK.noIndex("without a topic", broker, () -> broker.group(0));
    broker.topic(1, false);
    broker.topic(3, false);
    CHECK.due("the first", broker.group(1), 0);
    CHECK.due("the second", broker.group(0), 1);
    CHECK.noIndex("topic 2", broker, () -> broker.group(2));
    CHECK.noIndex("topic -1", broker, () -> broker.group(-1));
    dueReaders("without readers", broker, 0, -1, -1, -1);
    CHECK.noIndex("a partition of its topic", broker, () -> broker.mark(1, 1));
  }

  private static void promise17BeginsAtTheStart() {
    TailraceBroker broker = new TailraceBroker();
    broker.topic(1, true);
    broker.send(0, 0, 0, 1, 0);
    broker.setKeep(0, 1);
    broker.setClock(1);
    broker.setKeep(0, 0);
    broker.send(0, 0, 1, 2, 0);
    broker.group(0);
    CHECK.due("the mark is the start", broker.mark(0, 0), 1);
    CHECK.due("the cursor is the start", broker.cursor(0, 0), 1);
    broker.send(0, 0, 2, 2, 0);
    broker.clean(0);
    broker.begin(1);
    broker.send(0, 1, 0, 5, 0);
    broker.end(1, false);
    broker.group(0);
    CHECK.due("the start stays at a cleaned one", broker.start(0, 0), 1);
    CHECK.due("the mark is behind it", broker.mark(1, 0), 2);
    CHECK.due("the cursor is behind it", broker.cursor(1, 0), 2);
  }

  private static void promise17FourGroups() {
    TailraceBroker broker = Brokers.oneRow(1);
    for (int group = 0; group < 4; group++) {
      CHECK.due("group", broker.group(0), group);
    }
    CHECK.noState("a fifth", broker, () -> broker.group(0));
    CHECK.noIndex("a fifth of no topic", broker, () -> broker.group(1));
    CHECK.due("groups", broker.groups(), 4);
  }

  private static void promise18Join() {
    TailraceBroker broker = Brokers.oneRow(1);
    broker.group(0);
    broker.group(0);
    CHECK.due("it comes", broker.join(0, 5, true), false);
    CHECK.due("again", broker.join(0, 5, true), true);
    CHECK.due("another goes", broker.join(0, 0, false), false);
    CHECK.due("it goes", broker.join(0, 5, false), true);
    CHECK.due("again", broker.join(0, 5, false), false);
    broker.join(0, 5, true);
    CHECK.due("another group", broker.join(1, 5, true), false);
    CHECK.noIndex("group 2", broker, () -> broker.join(2, 0, true));
    CHECK.noIndex("group -1", broker, () -> broker.join(-1, 0, true));
    CHECK.noIndex("reader 6", broker, () -> broker.join(0, 6, true));
    CHECK.noIndex("reader -1", broker, () -> broker.join(0, -1, true));
  }

  private static void promise18Shares() {
    TailraceBroker broker = new TailraceBroker();
    broker.topic(4, false);
    broker.topic(3, false);
    broker.group(0);
    broker.group(1);
    broker.join(0, 4, true);
    dueReaders("one of 4", broker, 0, 4, 4, 4, 4);
    broker.join(0, 1, true);
    dueReaders("two of 4", broker, 0, 1, 1, 4, 4);
    broker.join(0, 5, true);
    dueReaders("three of 4", broker, 0, 1, 1, 4, 5);
    broker.join(0, 0, true);
    dueReaders("four of 4", broker, 0, 0, 1, 4, 5);
    broker.join(0, 2, true);
    dueReaders("five of 4", broker, 0, 0, 1, 2, 4);
    broker.join(0, 3, true);
    dueReaders("six of 4", broker, 0, 0, 1, 2, 3);
    broker.join(0, 0, false);
    dueReaders("one went", broker, 0, 1, 2, 3, 4);
    broker.join(1, 3, true);
    broker.join(1, 2, true);
    dueReaders("two of 3", broker, 1, 2, 2, 3);
    broker.join(1, 2, false);
    broker.join(1, 3, false);
    dueReaders("none of 3", broker, 1, -1, -1, -1);
  }

  private static void promise18Resets() {
    TailraceBroker broker = Brokers.oneReader(5);
    for (int times = 0; times < 4; times++) {
      broker.take(0, 0);
    }
    broker.nack(0, 0, 1);
    broker.ack(0, 0, 2);
    broker.join(0, 3, true);
    CHECK.dueStates("its reader stays", broker, 0, 0, "12310");
    CHECK.due("the cursor stays", broker.cursor(0, 0), 4);
    broker.join(0, 0, false);
    CHECK.dueStates("what is out is as never given", broker, 0, 0, "02300");
    CHECK.due("without tries", broker.tries(0, 0, 0), 0);
    CHECK.due("again keeps its tries", broker.tries(0, 0, 1), 1);
    CHECK.due("read keeps its tries", broker.tries(0, 0, 2), 1);
    CHECK.due("the cursor is at the mark", broker.cursor(0, 0), 0);
    CHECK.noState("not out", broker, () -> broker.ack(0, 0, 0));
    CHECK.due("given anew", broker.take(0, 3), 0);
    CHECK.due("the next one", broker.take(0, 3), 3);
    CHECK.due("tries from 0 on", broker.tries(0, 0, 3), 1);
  }

  private static void promise18KeepsWhatStays() {
    TailraceBroker broker = Brokers.keyedRows(3, false, 6);
    broker.group(0);
    broker.join(0, 1, true);
    for (int times = 0; times < 6; times++) {
      broker.take(0, 1);
    }
    broker.join(0, 4, true);
    CHECK.dueStates("partition 0 stays", broker, 0, 0, "11");
    CHECK.dueStates("partition 1 stays", broker, 0, 1, "11");
    CHECK.dueStates("partition 2 is another's", broker, 0, 2, "00");
    CHECK.due("cursor 1", broker.cursor(0, 1), 2);
    CHECK.due("cursor 2", broker.cursor(0, 2), 0);
    broker.join(0, 4, true);
    broker.join(0, 2, false);
    CHECK.dueStates("nothing changes", broker, 0, 0, "11");
    broker.join(0, 0, true);
    CHECK.dueStates("each one is another's", broker, 0, 0, "00");
    CHECK.dueStates("one stays", broker, 0, 1, "11");
  }

  private static void promise18NoneInBetween() {
    TailraceBroker broker = Brokers.oneReader(2);
    broker.take(0, 0);
    broker.join(0, 0, false);
    CHECK.dueStates("none in place of one", broker, 0, 0, "00");
    CHECK.due("the cursor", broker.cursor(0, 0), 0);
    broker.join(0, 0, true);
    broker.take(0, 0);
    broker.nack(0, 0, 0);
    broker.take(0, 0);
    broker.ack(0, 0, 1);
    CHECK.due("the cursor is ahead of the mark", broker.cursor(0, 0), 2);
    broker.join(0, 0, false);
    CHECK.due("none in place of one", broker.cursor(0, 0), 0);
    broker.join(0, 5, true);
    CHECK.due("one in place of none", broker.cursor(0, 0), 0);
    CHECK.dueStates("what is again and read stays", broker, 0, 0, "23");
    CHECK.due("the cursor may be behind what is read", broker.take(0, 5), -1);
  }

  private static void promise23Groups() {
    TailraceBroker broker = Brokers.oneRow(0);
    CHECK.due("none", broker.groups(), 0);
    broker.group(0);
    broker.group(0);
    CHECK.due("two", broker.groups(), 2);
  }

  private static void promise24Reader() {
    TailraceBroker broker = new TailraceBroker();
    broker.topic(2, false);
    broker.group(0);
    CHECK.due("without one", broker.reader(0, 1), -1);
    broker.join(0, 5, true);
    CHECK.due("with one", broker.reader(0, 1), 5);
    CHECK.noIndex("group 1", broker, () -> broker.reader(1, 0));
    CHECK.noIndex("group -1", broker, () -> broker.reader(-1, 0));
    CHECK.noIndex("partition 2", broker, () -> broker.reader(0, 2));
    CHECK.noIndex("partition -1", broker, () -> broker.reader(0, -1));
  }

  private static void promise25Mark() {
    TailraceBroker broker = Brokers.oneReader(3);
    broker.take(0, 0);
    broker.take(0, 0);
    CHECK.due("what is out holds it", broker.mark(0, 0), 0);
    broker.ack(0, 0, 1);
    CHECK.due("and yet", broker.mark(0, 0), 0);
    broker.ack(0, 0, 0);
    CHECK.due("over all that is read", broker.mark(0, 0), 2);
    CHECK.noIndex("group 1", broker, () -> broker.mark(1, 0));
    CHECK.noIndex("group -1", broker, () -> broker.mark(-1, 0));
    CHECK.noIndex("partition 1", broker, () -> broker.mark(0, 1));
    CHECK.noIndex("partition -1", broker, () -> broker.mark(0, -1));
  }

  private static void promise26Cursor() {
    TailraceBroker broker = Brokers.oneReader(3);
    CHECK.due("at first", broker.cursor(0, 0), 0);
    broker.take(0, 0);
    broker.take(0, 0);
    CHECK.due("behind what was given", broker.cursor(0, 0), 2);
    broker.nack(0, 0, 0);
    broker.setClock(5);
    broker.take(0, 0);
    CHECK.due("it stays for what is given again", broker.cursor(0, 0), 2);
    broker.setClock(50);
    CHECK.due("it stays for what is nacked", broker.cursor(0, 0), 2);
    CHECK.noIndex("group 1", broker, () -> broker.cursor(1, 0));
    CHECK.noIndex("group -1", broker, () -> broker.cursor(-1, 0));
    CHECK.noIndex("partition 1", broker, () -> broker.cursor(0, 1));
    CHECK.noIndex("partition -1", broker, () -> broker.cursor(0, -1));
  }

  private static void promise27State() {
    TailraceBroker broker = Brokers.oneReader(5);
    broker.group(0);
    Brokers.layAside(broker, 0, 0);
    for (int times = 0; times < 3; times++) {
      broker.take(0, 0);
    }
    broker.nack(0, 0, 2);
    broker.ack(0, 0, 3);
    CHECK.dueStates("each one", broker, 0, 0, "41230");
    CHECK.dueStates("another group", broker, 1, 0, "00000");
    CHECK.noIndex("group 2", broker, () -> broker.state(2, 0, 0));
    CHECK.noIndex("group -1", broker, () -> broker.state(-1, 0, 0));
    CHECK.noIndex("partition 1", broker, () -> broker.state(0, 1, 0));
    CHECK.noIndex("partition -1", broker, () -> broker.state(0, -1, 0));
    CHECK.noIndex("offset 5", broker, () -> broker.state(0, 0, 5));
    CHECK.noIndex("offset -1", broker, () -> broker.state(0, 0, -1));
    CHECK.noIndex("offset 80", broker, () -> broker.state(0, 0, 80));
    broker.setKeep(0, 1);
    broker.setClock(9999);
    CHECK.dueStates("of dropped ones, too", broker, 0, 0, "40030");
  }

  private static void promise28Tries() {
    TailraceBroker broker = Brokers.oneReader(2);
    CHECK.due("not given", broker.tries(0, 0, 0), 0);
    broker.take(0, 0);
    CHECK.due("given", broker.tries(0, 0, 0), 1);
    broker.nack(0, 0, 0);
    CHECK.due("nacked", broker.tries(0, 0, 0), 1);
    broker.setClock(2);
    broker.take(0, 0);
    CHECK.due("given again", broker.tries(0, 0, 0), 2);
    broker.ack(0, 0, 0);
    CHECK.due("read", broker.tries(0, 0, 0), 2);
    Brokers.layAside(broker, 0, 0);
    CHECK.due("laid aside", broker.tries(0, 0, 1), 3);
    CHECK.noIndex("group 1", broker, () -> broker.tries(1, 0, 0));
    CHECK.noIndex("group -1", broker, () -> broker.tries(-1, 0, 0));
    CHECK.noIndex("partition 1", broker, () -> broker.tries(0, 1, 0));
    CHECK.noIndex("partition -1", broker, () -> broker.tries(0, -1, 0));
    CHECK.noIndex("offset 2", broker, () -> broker.tries(0, 0, 2));
    CHECK.noIndex("offset -1", broker, () -> broker.tries(0, 0, -1));
  }

  private static void promise29Lag() {
    TailraceBroker broker = Brokers.keyedRows(1, true, 6);
    broker.group(0);
    broker.join(0, 0, true);
    CHECK.due("all", broker.lag(0, 0), 6);
    Brokers.layAside(broker, 0, 0);
    CHECK.due("without one laid aside, below the mark", broker.lag(0, 0), 5);
    broker.take(0, 0);
    broker.take(0, 0);
    broker.take(0, 0);
    broker.nack(0, 0, 2);
    CHECK.due("with what is out and again", broker.lag(0, 0), 5);
    broker.ack(0, 0, 3);
    CHECK.due("without a read one above the mark", broker.lag(0, 0), 4);
    broker.begin(1);
    broker.send(0, 1, 0, 2, 0);
    broker.send(0, 0, 6, 9, 0);
    CHECK.due("up to the stable end", broker.lag(0, 0), 4);
    broker.end(1, false);
    CHECK.due("without a hidden one", broker.lag(0, 0), 5);
    broker.send(0, 0, 7, 2, 0);
    broker.clean(0);
    CHECK.due("without a dropped one", broker.lag(0, 0), 5);
    broker.seek(0, 0, 5);
    CHECK.due("from the mark on", broker.lag(0, 0), 3);
    broker.seek(0, 0, 9);
    CHECK.due("none", broker.lag(0, 0), 0);
    broker.seek(0, 0, 0);
    CHECK.due("all as never given", broker.lag(0, 0), 7);
    CHECK.noIndex("group 1", broker, () -> broker.lag(1, 0));
    CHECK.noIndex("group -1", broker, () -> broker.lag(-1, 0));
    CHECK.noIndex("partition 1", broker, () -> broker.lag(0, 1));
    CHECK.noIndex("partition -1", broker, () -> broker.lag(0, -1));
  }

  private static void promise30Aside() {
    TailraceBroker broker = Brokers.keyedRows(2, false, 4);
    broker.group(0);
    broker.group(0);
    broker.join(0, 0, true);
    CHECK.due("none", broker.aside(0), 0);
    Brokers.layAside(broker, 0, 0);
    Brokers.layAside(broker, 0, 0);
    Brokers.layAside(broker, 0, 0);
    CHECK.due("of all partitions", broker.aside(0), 3);
    CHECK.due("of the other group", broker.aside(1), 0);
    broker.seek(0, 0, 1);
    CHECK.due("those that still are", broker.aside(0), 2);
    broker.setKeep(0, 1);
    broker.setClock(9999);
    CHECK.due("dropped ones too", broker.aside(0), 2);
    CHECK.noIndex("group 2", broker, () -> broker.aside(2));
    CHECK.noIndex("group -1", broker, () -> broker.aside(-1));
  }

  private static void promise31MeanTries() {
    TailraceBroker broker = Brokers.keyedRows(2, false, 4);
    broker.group(0);
    broker.join(0, 0, true);
    CHECK.dueDouble("without any", broker.meanTries(0), 0.0);
    broker.take(0, 0);
    CHECK.dueDouble("what is out does not count", broker.meanTries(0), 0.0);
    broker.ack(0, 0, 0);
    CHECK.dueDouble("one", broker.meanTries(0), 1.0);
    broker.take(0, 0);
    broker.nack(0, 0, 1);
    broker.setClock(2);
    broker.take(0, 0);
    broker.ack(0, 0, 1);
    CHECK.dueDouble("not cut", broker.meanTries(0), 1.5);
    broker.take(0, 0);
    broker.ack(0, 1, 0);
    CHECK.dueDouble("of all partitions", broker.meanTries(0), 4.0 / 3);
    Brokers.layAside(broker, 0, 0);
    CHECK.dueDouble("without those laid aside", broker.meanTries(0), 4.0 / 3);
    broker.setKeep(0, 1);
    broker.setClock(9999);
    CHECK.dueDouble("dropped or not", broker.meanTries(0), 4.0 / 3);
    CHECK.noIndex("group 1", broker, () -> broker.meanTries(1));
    CHECK.noIndex("group -1", broker, () -> broker.meanTries(-1));
  }

  /** All 80 MESSAGES in one PARTITION: the last OFFSET is as good as each other one. */
  private static void fullPartition() {
    TailraceBroker broker = Brokers.oneReader(80);
    CHECK.due("the mark before", broker.seek(0, 0, 79), 0);
    CHECK.due("the last one", broker.take(0, 0), 79);
    CHECK.due("a digest", broker.digest() == broker.digest(), true);
    CHECK.due("its time", broker.nextTime(0), 10);
    CHECK.due("nacked", broker.setClock(10), 1);
    CHECK.due("again", broker.state(0, 0, 79), 2);
    broker.setClock(12);
    broker.take(0, 0);
    broker.join(0, 0, false);
    CHECK.due("as never given", broker.tries(0, 0, 79), 0);
    broker.join(0, 0, true);
    broker.take(0, 0);
    CHECK.due("the end", broker.ack(0, 0, 79), 80);
    CHECK.dueDouble("its tries", broker.meanTries(0), 1.0);
    CHECK.due("none is left", broker.take(0, 0), -1);
    CHECK.noState("none is there", broker, () -> broker.ack(0, 0, 80));
    CHECK.due("to the end", broker.seek(0, 0, 80), 80);
    CHECK.due("from the first", broker.seek(0, 0, 0), 80);
    CHECK.due("all", broker.lag(0, 0), 80);
  }
}
