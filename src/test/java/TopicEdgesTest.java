/** The edges of "1. Topics" and of promises 1 to 3, and 10 to 16: a sentence each. */
public final class TopicEdgesTest {
  private static final Check CHECK = new Check("TopicEdgesTest");

  private TopicEdgesTest() {
  }

  public static void main(String[] arguments) {
    newObjectHasNothing();
    topicsAreFourAtMost();
    partitionsAreOneToFour();
    offsetsBeginAtZeroAndAreNeverUsedAgain();
    messagesAreEightyOverAll();
    messagesAreEightyWhateverBecameOfThem();
    messagesAreEightyInOnePartition();
    refusedMessagesDoNotCount();
    startIsZeroAtFirstAndReachesTheEnd();
    keysGoByTheRemainder();
    keylessGoToTheFirstOfTheFewest();
    keylessGoToTheFewestThatEverCame();
    fewestAreCountedByTopic();
    numbersBeginAtZeroForEachTopicAndProducer();
    numbersOfUndoneAndPendingAreTaken();
    numbersOfRefusedAreNotTaken();
    doublesDoNothing();
    doublesStayDoublesWhenFull();
    keysAndValuesAtTheirEdges();
    timesAtTheFirstAndTheLastClock();
    keptNoneAndAll();
    CHECK.end();
  }

  /** "Creates a broker without TOPICS." "The CLOCK is 0 at first." */
  private static void newObjectHasNothing() {
    TailraceBroker broker = new TailraceBroker();
    CHECK.due("clock", broker.clock(), 0);
    CHECK.due("topics", broker.topics(), 0);
    CHECK.due("groups", broker.groups(), 0);
    CHECK.due("ledger", broker.ledger(), 0);
    CHECK.due("digest", broker.digest(), 2683L * 31 * 31 * 31 * 31);
    CHECK.noIndex("its first topic", broker, () -> broker.kept(0));
    CHECK.noIndex("its first group", broker, () -> broker.aside(0));
    CHECK.noIndex("its first row", broker, () -> broker.row(0, 0));
    CHECK.due("nothing is out as the clock is set", broker.setClock(9999), 0);
    CHECK.due("the first transaction", broker.begin(0), 1);
  }

  /** "At most 4 TOPICS, numbered from 0" */
  private static void topicsAreFourAtMost() {
    TailraceBroker broker = new TailraceBroker();
    for (int topic = 0; topic < 4; topic++) {
      int next = topic;
      CHECK.noIndex("not there yet", broker, () -> broker.kept(next));
      CHECK.due("its number", broker.topic(1, topic == 3), topic);
      CHECK.due("there", broker.kept(topic), 0);
      CHECK.due("how many", broker.topics(), topic + 1);
    }
    CHECK.noState("a fifth", broker, () -> broker.topic(1, false));
    CHECK.noState("a fifth, compact", broker, () -> broker.topic(4, true));
    CHECK.noArgument("a fifth of no partition", broker, () -> broker.topic(0, false));
    CHECK.noIndex("it is not there", broker, () -> broker.kept(4));
    CHECK.due("how many yet", broker.topics(), 4);
    CHECK.due("the last one's first message", broker.send(3, 3, 0, 9, 999), 0);
  }

  /** "each has 1 to 4 PARTITIONS, numbered from 0" */
  private static void partitionsAreOneToFour() {
    TailraceBroker broker = new TailraceBroker();
    for (int count = 1; count <= 4; count++) {
      int topic = broker.topic(count, false);
      int group = broker.group(topic);
      int behind = count;
      CHECK.due("the first", broker.endOf(topic, 0), 0);
      CHECK.due("the last", broker.endOf(topic, count - 1), 0);
      CHECK.due("the last one's mark", broker.mark(group, count - 1), 0);
      CHECK.noIndex("behind the last", broker, () -> broker.endOf(topic, behind));
      CHECK.noIndex("before the first", broker, () -> broker.endOf(topic, -1));
      CHECK.noIndex("the mark behind the last", broker, () -> broker.mark(group, behind));
      CHECK.noIndex("the mark before the first", broker, () -> broker.mark(group, -1));
    }
  }

  /** "each with an OFFSET: 0, 1, 2 and so on as they come, never used again" */
  private static void offsetsBeginAtZeroAndAreNeverUsedAgain() {
    TailraceBroker broker = new TailraceBroker();
    broker.topic(1, true);
    CHECK.due("the first", broker.send(0, 0, 0, 1, 10), 0);
    CHECK.due("the second", broker.send(0, 0, 1, 1, 11), 1);
    broker.clean(0);
    CHECK.due("behind a cleaned one", broker.send(0, 0, 2, 1, 12), 2);
    broker.setKeep(0, 1);
    broker.setClock(1);
    CHECK.due("behind none but dropped ones", broker.send(0, 0, 3, 1, 13), 3);
    broker.begin(1);
    CHECK.due("one that will be hidden", broker.send(0, 1, 0, 1, 14), 4);
    broker.end(1, false);
    CHECK.due("behind a hidden one", broker.send(0, 0, 4, 1, 15), 5);
    for (int offset = 0; offset < 6; offset++) {
      CHECK.due("each stays where it was", broker.message(0, 0, offset, 1), 10 + offset);
    }
  }

  /** "There are at most 80 MESSAGES ever, over all" */
  private static void messagesAreEightyOverAll() {
    TailraceBroker broker = new TailraceBroker();
    for (int topic = 0; topic < 4; topic++) {
      broker.topic(4, false);
      for (int number = 0; number < 20; number++) {
        CHECK.due("of all producers", broker.send(topic, number % 4, number / 4, -1, 0),
            number / 4);
      }
    }
    for (int topic = 0; topic < 4; topic++) {
      int to = topic;
      int producer = 3 - topic;
      CHECK.noState("the 81st", broker, () -> broker.send(to, producer, 5, -1, 0));
      CHECK.noState("the 81st with a key", broker, () -> broker.send(to, producer, 5, 9, 0));
    }
    broker.begin(2);
    CHECK.noState("the 81st in a transaction", broker, () -> broker.send(0, 2, 5, -1, 0));
    CHECK.due("which has none then", broker.end(2, true), 0);
  }

  /** "ever": what is DROPPED, HIDDEN or PENDING counts. */
  private static void messagesAreEightyWhateverBecameOfThem() {
    TailraceBroker broker = Brokers.keyedRows(1, true, 2);
    broker.begin(1);
    for (int number = 0; number < 30; number++) {
      broker.send(0, 1, number, 1, 0);
    }
    broker.end(1, false);
    broker.begin(2);
    for (int number = 0; number < 30; number++) {
      broker.send(0, 2, number, 1, 0);
    }
    broker.setKeep(0, 1);
    broker.setClock(1);
    CHECK.due("dropped and hidden ones", broker.start(0, 0), 32);
    for (int number = 0; number < 18; number++) {
      CHECK.due("up to the 80th", broker.send(0, 3, number, 2, 0), 62 + number);
    }
    CHECK.noState("the 81st", broker, () -> broker.send(0, 3, 18, 2, 0));
    broker.end(2, true);
    broker.clean(0);
    broker.setClock(9999);
    CHECK.due("none is left", broker.kept(0), 0);
    CHECK.noState("the 81st yet", broker, () -> broker.send(0, 3, 18, 2, 0));
  }

  private static void messagesAreEightyInOnePartition() {
    TailraceBroker broker = Brokers.oneRow(79);
    broker.topic(1, false);
    CHECK.due("the 80th", broker.send(0, 0, 79, -1, 979), 79);
    CHECK.due("the end", broker.endOf(0, 0), 80);
    CHECK.due("the stable end", broker.stable(0, 0), 80);
    CHECK.due("how many are kept", broker.kept(0), 80);
    CHECK.due("the last one", broker.message(0, 0, 79, 1), 979);
    CHECK.noIndex("behind the last", broker, () -> broker.message(0, 0, 80, 1));
    CHECK.noState("the 81st", broker, () -> broker.send(0, 0, 80, -1, 0));
    CHECK.noState("of another topic", broker, () -> broker.send(1, 0, 0, -1, 0));
  }

  /** "A method that throws an exception changes nothing", and of a DOUBLE "nothing happens". */
  private static void refusedMessagesDoNotCount() {
    TailraceBroker broker = Brokers.oneRow(1);
    for (int times = 0; times < 8; times++) {
      CHECK.noState("a gap", broker, () -> broker.send(0, 1, 1, -1, 0));
      CHECK.noArgument("a key", broker, () -> broker.send(0, 1, 0, 10, 0));
      CHECK.noIndex("a topic", broker, () -> broker.send(1, 1, 0, 0, 0));
      CHECK.due("a double", broker.send(0, 0, 0, -1, 0), -2);
    }
    Brokers.sendPlain(broker, 0, 1, 78);
    CHECK.due("the 80th", broker.send(0, 0, 79, -1, 0), 79);
    CHECK.noState("the 81st", broker, () -> broker.send(0, 0, 80, -1, 0));
  }

  /** "The END ... is the OFFSET that the next one will have; its START is 0 at first." */
  private static void startIsZeroAtFirstAndReachesTheEnd() {
    TailraceBroker broker = new TailraceBroker();
    broker.topic(2, false);
    dueRange("an empty one", broker, 0, 0, 0, 0);
    broker.setKeep(0, 1);
    broker.setClock(1);
    dueRange("an empty one, later", broker, 0, 0, 0, 0);
    broker.send(0, 0, 0, 0, 5);
    broker.send(0, 0, 1, 0, 6);
    dueRange("with two", broker, 0, 0, 2, 2);
    dueRange("the other one", broker, 1, 0, 0, 0);
    broker.setClock(2);
    dueRange("both dropped", broker, 0, 2, 2, 2);
    CHECK.due("a dropped one is told yet", broker.message(0, 0, 1, 1), 6);
    CHECK.due("as dropped", broker.message(0, 0, 1, 4), 1);
    CHECK.noIndex("none at the end", broker, () -> broker.message(0, 0, 2, 1));
    broker.setClock(9999);
    dueRange("nothing more to drop", broker, 0, 2, 2, 2);
    CHECK.due("the next one has the end", broker.send(0, 0, 2, 0, 7), 2);
    dueRange("with the next one", broker, 0, 2, 3, 3);
  }

  private static void dueRange(
      String what, TailraceBroker broker, int partition, int start, int stable, int end) {
    CHECK.due(what + ", start", broker.start(0, partition), start);
    CHECK.due(what + ", stable", broker.stable(0, partition), stable);
    CHECK.due(what + ", end", broker.endOf(0, partition), end);
  }

  /** "A MESSAGE with a KEY goes to the PARTITION KEY % how many there are" */
  private static void keysGoByTheRemainder() {
    for (int count = 1; count <= 4; count++) {
      TailraceBroker broker = new TailraceBroker();
      broker.topic(count, false);
      int[] ends = new int[count];
      for (int key = 9; key >= 0; key--) {
        int partition = key % count;
        CHECK.due("its offset", broker.send(0, 0, 9 - key, key, 0), ends[partition]);
        CHECK.due("key " + key + " of " + count,
            broker.message(0, partition, ends[partition], 0), key);
        ends[partition]++;
      }
    }
  }

  /** "one without to the PARTITION to which the fewest MESSAGES ever came, of several the first" */
  private static void keylessGoToTheFirstOfTheFewest() {
    for (int count = 1; count <= 4; count++) {
      TailraceBroker broker = new TailraceBroker();
      broker.topic(count, false);
      for (int number = 0; number < 3 * count; number++) {
        CHECK.due("its offset", broker.send(0, 0, number, -1, number), number / count);
        CHECK.due("one after the other",
            broker.message(0, number % count, number / count, 1), number);
      }
    }
  }

  private static void keylessGoToTheFewestThatEverCame() {
    TailraceBroker broker = new TailraceBroker();
    broker.topic(4, true);
    int[] keys = {0, 4, 8, 0, 1, 5, 9, 2, 6, 3, 3, 3};
    for (int number = 0; number < keys.length; number++) {
      broker.send(0, 0, number, keys[number], 0);
    }
    // They hold 4, 3, 2 and 3.
    dueKeyless("the fewest is not the first", broker, 0, 12, 2);
    dueKeyless("of three the first", broker, 0, 13, 1);
    broker.clean(0);
    dueKeyless("cleaned ones count", broker, 0, 14, 2);
    broker.setKeep(0, 1);
    broker.setClock(1);
    dueKeyless("dropped ones count", broker, 0, 15, 3);
    broker.begin(1);
    dueKeyless("one that is pending", broker, 1, 0, 0);
    dueKeyless("a pending one counts", broker, 0, 16, 1);
    broker.end(1, false);
    dueKeyless("a hidden one counts", broker, 0, 17, 2);
  }

  private static void dueKeyless(
      String what, TailraceBroker broker, int producer, int number, int partition) {
    int end = broker.endOf(0, partition);
    CHECK.due(what + ", offset", broker.send(0, producer, number, -1, 0), end);
    CHECK.due(what + ", end", broker.endOf(0, partition), end + 1);
  }

  private static void fewestAreCountedByTopic() {
    TailraceBroker broker = new TailraceBroker();
    broker.topic(2, false);
    broker.topic(2, false);
    broker.send(0, 0, 0, 0, 0);
    broker.send(1, 0, 0, -1, 0);
    CHECK.due("the other topic's own first one", broker.endOf(1, 0), 1);
    CHECK.due("not its second", broker.endOf(1, 1), 0);
  }

  /** "for each TOPIC its first one is 0, each other one 1 more than the latest one" */
  private static void numbersBeginAtZeroForEachTopicAndProducer() {
    TailraceBroker broker = new TailraceBroker();
    broker.topic(1, false);
    broker.topic(1, false);
    for (int place = 0; place < 8; place++) {
      int topic = place / 4;
      int producer = place % 4;
      CHECK.noArgument("below the first", broker, () -> broker.send(topic, producer, -1, -1, 0));
      CHECK.noState("above the first", broker, () -> broker.send(topic, producer, 1, -1, 0));
      CHECK.due("the first", broker.send(topic, producer, 0, -1, 0), 2 * producer);
      CHECK.due("the first anew", broker.send(topic, producer, 0, -1, 0), -2);
      CHECK.noState("above the second", broker, () -> broker.send(topic, producer, 2, -1, 0));
      CHECK.due("the second", broker.send(topic, producer, 1, -1, 0), 2 * producer + 1);
      CHECK.due("the second anew", broker.send(topic, producer, 1, -1, 0), -2);
      CHECK.due("the first yet", broker.send(topic, producer, 0, -1, 0), -2);
      CHECK.noState("the greatest there is", broker,
          () -> broker.send(topic, producer, Integer.MAX_VALUE, -1, 0));
    }
  }

  /** "the latest one that was taken from it there (of an UNDONE TRANSACTION, too)" */
  private static void numbersOfUndoneAndPendingAreTaken() {
    TailraceBroker broker = new TailraceBroker();
    broker.topic(1, false);
    broker.begin(3);
    CHECK.due("the first", broker.send(0, 3, 0, -1, 0), 0);
    CHECK.due("a double while it is pending", broker.send(0, 3, 0, -1, 0), -2);
    CHECK.noState("a gap while it is pending", broker, () -> broker.send(0, 3, 2, -1, 0));
    broker.end(3, false);
    CHECK.due("a double as it is undone", broker.send(0, 3, 0, -1, 0), -2);
    CHECK.noState("a gap as it is undone", broker, () -> broker.send(0, 3, 2, -1, 0));
    CHECK.due("the next one", broker.send(0, 3, 1, -1, 0), 1);
  }

  private static void numbersOfRefusedAreNotTaken() {
    TailraceBroker broker = new TailraceBroker();
    broker.topic(1, false);
    CHECK.noArgument("a key", broker, () -> broker.send(0, 0, 0, 10, 0));
    CHECK.noArgument("a value", broker, () -> broker.send(0, 0, 0, -1, 1000));
    CHECK.noIndex("a topic", broker, () -> broker.send(1, 0, 0, -1, 0));
    CHECK.noState("a gap", broker, () -> broker.send(0, 0, 1, -1, 0));
    CHECK.due("0 is due yet", broker.send(0, 0, 0, -1, 0), 0);
    CHECK.due("then 1", broker.send(0, 0, 1, -1, 0), 1);
    Brokers.sendPlain(broker, 1, 0, 78);
    CHECK.noState("the 81st", broker, () -> broker.send(0, 1, 78, -1, 0));
    CHECK.noState("it is no double then", broker, () -> broker.send(0, 1, 78, -1, 0));
  }

  /** "A NUMBER that was taken is a DOUBLE: nothing happens" */
  private static void doublesDoNothing() {
    TailraceBroker broker = Brokers.some();
    CHECK.dueUnchanged("the first", broker, () -> broker.send(0, 0, 0, 9, 999), -2);
    CHECK.dueUnchanged("the latest", broker, () -> broker.send(0, 0, 5, -1, 0), -2);
    CHECK.dueUnchanged("of a transaction", broker, () -> broker.send(0, 1, 0, 3, 3), -2);
    broker.begin(0);
    CHECK.dueUnchanged("in a transaction", broker, () -> broker.send(0, 0, 5, 1, 1), -2);
    CHECK.due("it does not belong to it", broker.end(0, false), 0);
    CHECK.noArgument("a wrong key before it", broker, () -> broker.send(0, 0, 0, -2, 0));
    CHECK.noArgument("a wrong value before it", broker, () -> broker.send(0, 0, 0, 0, -1));
  }

  /** "if it is a GAP, or, if it is no DOUBLE, there were 80" */
  private static void doublesStayDoublesWhenFull() {
    TailraceBroker broker = Brokers.oneRow(80);
    CHECK.dueUnchanged("the first", broker, () -> broker.send(0, 0, 0, -1, 0), -2);
    CHECK.dueUnchanged("the latest", broker, () -> broker.send(0, 0, 79, -1, 0), -2);
    CHECK.noState("the one that is due", broker, () -> broker.send(0, 0, 80, -1, 0));
    CHECK.noState("a gap", broker, () -> broker.send(0, 0, 81, -1, 0));
    CHECK.noState("a first one", broker, () -> broker.send(0, 1, 0, -1, 0));
    CHECK.noArgument("a wrong number", broker, () -> broker.send(0, 0, -1, -1, 0));
  }

  /** "a KEY, 0 to 9, or NOTHING; a VALUE, 0 to 999" */
  private static void keysAndValuesAtTheirEdges() {
    TailraceBroker broker = new TailraceBroker();
    broker.topic(1, false);
    int[][] sent = {{-1, 0}, {0, 999}, {9, 1}, {8, 998}};
    for (int number = 0; number < sent.length; number++) {
      broker.send(0, 0, number, sent[number][0], sent[number][1]);
      CHECK.due("the key", broker.message(0, 0, number, 0), sent[number][0]);
      CHECK.due("the value", broker.message(0, 0, number, 1), sent[number][1]);
    }
    CHECK.noArgument("key -2", broker, () -> broker.send(0, 0, 4, -2, 0));
    CHECK.noArgument("key 10", broker, () -> broker.send(0, 0, 4, 10, 0));
    CHECK.noArgument("value -1", broker, () -> broker.send(0, 0, 4, -1, -1));
    CHECK.noArgument("value 1000", broker, () -> broker.send(0, 0, 4, -1, 1000));
  }

  /** "the time (the CLOCK) at which it came" */
  private static void timesAtTheFirstAndTheLastClock() {
    TailraceBroker broker = Brokers.oneRow(1);
    broker.setClock(9999);
    Brokers.sendPlain(broker, 0, 1, 1);
    CHECK.due("at first", broker.message(0, 0, 0, 2), 0);
    CHECK.due("at last", broker.message(0, 0, 1, 2), 9999);
  }

  /** "how many MESSAGES of it are SEEN and not DROPPED" */
  private static void keptNoneAndAll() {
    TailraceBroker broker = new TailraceBroker();
    broker.topic(4, false);
    CHECK.due("of none", broker.kept(0), 0);
    broker.begin(0);
    for (int number = 0; number < 80; number++) {
      broker.send(0, 0, number, -1, 0);
    }
    CHECK.due("none of 80 pending ones", broker.kept(0), 0);
    broker.end(0, true);
    CHECK.due("all 80", broker.kept(0), 80);
    broker.setKeep(0, 200);
    broker.setClock(200);
    CHECK.due("none of 80 dropped ones", broker.kept(0), 0);
    TailraceBroker hidden = new TailraceBroker();
    hidden.topic(1, false);
    hidden.begin(0);
    hidden.send(0, 0, 0, -1, 0);
    hidden.end(0, false);
    CHECK.due("none of the hidden ones", hidden.kept(0), 0);
  }
}
