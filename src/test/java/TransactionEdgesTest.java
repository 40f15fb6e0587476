/** The edges of "2. Transactions" and of promises 4, 5 and 14: a sentence each. */
public final class TransactionEdgesTest {
  private static final Check CHECK = new Check("TransactionEdgesTest");

  private TransactionEdgesTest() {
  }

  public static void main(String[] arguments) {
    producersAreFour();
    oneOpenForEachProducer();
    noneToEnd();
    endOfNone();
    endOfAll();
    belongsFromItsBeginToItsEnd();
    beginsBeforeThereIsATopic();
    onesThatAreEndedStay();
    twoProducersInOnePartition();
    stableWithoutAny();
    stableAtTheFirstAndTheLast();
    stableAtTheFirstOfTwo();
    hiddenKeepTheirOffsets();
    pendingHoldsTheReader();
    CHECK.end();
  }

  private static TailraceBroker oneTopic(int partitions) {
    TailraceBroker broker = new TailraceBroker();
    broker.topic(partitions, false);
    return broker;
  }

  private static void dueStandings(String what, TailraceBroker broker, String want) {
    StringBuilder got = new StringBuilder();
    for (int offset = 0; offset < broker.endOf(0, 0); offset++) {
      got.append(broker.message(0, 0, offset, 3));
    }
    CHECK.dueText(what, got.toString(), want);
  }

  /** "There are 4 PRODUCERS, 0 to 3." */
  private static void producersAreFour() {
    TailraceBroker broker = oneTopic(1);
    for (int wrong : new int[] {-1, 4, Integer.MIN_VALUE, Integer.MAX_VALUE}) {
      CHECK.noIndex("sends", broker, () -> broker.send(0, wrong, 0, -1, 0));
      CHECK.noIndex("begins", broker, () -> broker.begin(wrong));
      CHECK.noIndex("ends", broker, () -> broker.end(wrong, true));
    }
    for (int producer = 0; producer < 4; producer++) {
      CHECK.due("begins", broker.begin(producer), producer + 1);
      CHECK.due("sends", broker.send(0, producer, 0, -1, 0), producer);
    }
    for (int producer = 0; producer < 4; producer++) {
      CHECK.due("ends", broker.end(producer, true), 1);
    }
  }

  /** "if it has one that is not ended"; "how many were begun by all PRODUCERS, with this one" */
  private static void oneOpenForEachProducer() {
    TailraceBroker broker = new TailraceBroker();
    for (int producer = 0; producer < 4; producer++) {
      int own = producer;
      CHECK.due("begun", broker.begin(producer), producer + 1);
      CHECK.noState("begun anew", broker, () -> broker.begin(own));
    }
    broker.end(3, false);
    CHECK.noState("another one's is open yet", broker, () -> broker.begin(2));
    CHECK.due("undone ones count, refused ones don't", broker.begin(3), 5);
    broker.end(0, true);
    CHECK.due("done ones count", broker.begin(0), 6);
  }

  /** "if it has none that is not ended" */
  private static void noneToEnd() {
    TailraceBroker broker = oneTopic(1);
    for (int producer = 0; producer < 4; producer++) {
      int own = producer;
      CHECK.noState("never begun", broker, () -> broker.end(own, true));
      broker.begin(producer);
      broker.end(producer, producer % 2 == 0);
      CHECK.noState("ended, then done", broker, () -> broker.end(own, true));
      CHECK.noState("ended, then undone", broker, () -> broker.end(own, false));
    }
  }

  /** "how many MESSAGES belong to it": none. */
  private static void endOfNone() {
    TailraceBroker broker = Brokers.oneRow(2);
    broker.begin(0);
    CHECK.due("done", broker.end(0, true), 0);
    broker.begin(0);
    CHECK.due("undone", broker.end(0, false), 0);
    dueStandings("what was there is seen", broker, "00");
  }

  /** "how many MESSAGES belong to it": all 80, of each TOPIC and PARTITION. */
  private static void endOfAll() {
    for (int isDone = 0; isDone < 2; isDone++) {
      TailraceBroker broker = new TailraceBroker();
      broker.begin(3);
      for (int topic = 0; topic < 4; topic++) {
        broker.topic(topic + 1, false);
        broker.group(topic);
        for (int number = 0; number < 20; number++) {
          broker.send(topic, 3, number, -1, 0);
        }
      }
      CHECK.due("how many", broker.end(3, isDone == 1), 80);
      for (int topic = 0; topic < 4; topic++) {
        CHECK.due("kept", broker.kept(topic), 20 * isDone);
        CHECK.due("the mark", broker.mark(topic, topic),
            isDone == 1 ? 0 : broker.endOf(topic, topic));
        CHECK.due("the stable end", broker.stable(topic, topic), broker.endOf(topic, topic));
      }
    }
  }

  /** "what it sends then belongs to that, till it is ended" */
  private static void belongsFromItsBeginToItsEnd() {
    TailraceBroker broker = Brokers.oneRow(1);
    broker.begin(0);
    Brokers.sendPlain(broker, 0, 1, 1);
    dueStandings("before and in it", broker, "02");
    CHECK.due("how many", broker.end(0, false), 1);
    Brokers.sendPlain(broker, 0, 2, 1);
    dueStandings("before, in and behind it", broker, "010");
  }

  private static void beginsBeforeThereIsATopic() {
    TailraceBroker broker = new TailraceBroker();
    broker.begin(2);
    broker.topic(1, false);
    broker.send(0, 2, 0, -1, 0);
    dueStandings("it is pending", broker, "2");
    CHECK.due("how many", broker.end(2, true), 1);
    dueStandings("it is seen", broker, "0");
  }

  /** What is DONE or UNDONE stays so, whatever its PRODUCER does next. */
  private static void onesThatAreEndedStay() {
    TailraceBroker broker = oneTopic(1);
    boolean[] isDone = {false, true, false, true};
    for (int number = 0; number < isDone.length; number++) {
      broker.begin(0);
      broker.send(0, 0, number, -1, 0);
      CHECK.due("of this one alone", broker.end(0, isDone[number]), 1);
    }
    dueStandings("by turns", broker, "1010");
  }

  private static void twoProducersInOnePartition() {
    TailraceBroker broker = oneTopic(1);
    broker.begin(0);
    broker.begin(3);
    for (int number = 0; number < 2; number++) {
      broker.send(0, 0, number, -1, 0);
      broker.send(0, 3, number, -1, 0);
    }
    dueStandings("both open", broker, "2222");
    CHECK.due("one is ended", broker.end(3, false), 2);
    dueStandings("one is ended", broker, "2121");
    CHECK.due("the other one too", broker.end(0, true), 2);
    dueStandings("the other one too", broker, "0101");
  }

  /** "its END without any" */
  private static void stableWithoutAny() {
    TailraceBroker broker = oneTopic(2);
    CHECK.due("of an empty one", broker.stable(0, 0), 0);
    broker.begin(0);
    CHECK.due("as one has begun", broker.stable(0, 0), 0);
    broker.send(0, 1, 0, 0, 0);
    CHECK.due("of another producer's", broker.stable(0, 0), 1);
    broker.send(0, 0, 0, 1, 0);
    CHECK.due("of another partition", broker.stable(0, 0), 1);
    CHECK.due("of that", broker.stable(0, 1), 0);
  }

  /** "the OFFSET of its first PENDING MESSAGE" */
  private static void stableAtTheFirstAndTheLast() {
    TailraceBroker broker = oneTopic(1);
    broker.begin(0);
    broker.send(0, 0, 0, -1, 0);
    CHECK.due("the only one", broker.stable(0, 0), 0);
    broker.send(0, 1, 0, -1, 0);
    CHECK.due("the first of two", broker.stable(0, 0), 0);
    broker.end(0, false);
    CHECK.due("a hidden one is not pending", broker.stable(0, 0), 2);
    broker.begin(0);
    broker.send(0, 0, 1, -1, 0);
    CHECK.due("the last of three", broker.stable(0, 0), 2);
    CHECK.due("not the end", broker.endOf(0, 0), 3);
    broker.end(0, true);
    CHECK.due("the end", broker.stable(0, 0), 3);
  }

  private static void stableAtTheFirstOfTwo() {
    TailraceBroker broker = Brokers.oneRow(1);
    broker.begin(1);
    broker.begin(2);
    broker.send(0, 1, 0, -1, 0);
    broker.send(0, 2, 0, -1, 0);
    broker.send(0, 1, 1, -1, 0);
    broker.send(0, 3, 0, -1, 0);
    CHECK.due("at the first", broker.stable(0, 0), 1);
    broker.end(1, true);
    CHECK.due("at the other one's", broker.stable(0, 0), 2);
    broker.end(2, false);
    CHECK.due("at the end", broker.stable(0, 0), 5);
  }

  /** "HIDDEN, if that is UNDONE (it keeps its OFFSET)" */
  private static void hiddenKeepTheirOffsets() {
    TailraceBroker broker = oneTopic(1);
    broker.begin(0);
    broker.send(0, 0, 0, 3, 33);
    broker.end(0, false);
    CHECK.due("the end", broker.endOf(0, 0), 1);
    CHECK.due("the start", broker.start(0, 0), 0);
    CHECK.due("its key", broker.message(0, 0, 0, 0), 3);
    CHECK.due("its value", broker.message(0, 0, 0, 1), 33);
    CHECK.due("hidden", broker.message(0, 0, 0, 3), 1);
    CHECK.due("not dropped", broker.message(0, 0, 0, 4), 0);
    CHECK.due("the next one", broker.send(0, 0, 1, 3, 34), 1);
    CHECK.due("a group begins behind it", broker.mark(broker.group(0), 0), 1);
  }

  /** "below the STABLE end": at it nothing is given, and the MARK stays at what is PENDING. */
  private static void pendingHoldsTheReader() {
    TailraceBroker broker = Brokers.oneReader(1);
    broker.begin(1);
    broker.send(0, 1, 0, -1, 0);
    Brokers.sendPlain(broker, 0, 1, 1);
    CHECK.due("the last below it", broker.take(0, 0), 0);
    CHECK.due("not at it", broker.take(0, 0), -1);
    CHECK.due("the cursor", broker.cursor(0, 0), 1);
    CHECK.due("the mark is at it", broker.ack(0, 0, 0), 1);
    CHECK.due("no lag", broker.lag(0, 0), 0);
    broker.end(1, false);
    CHECK.due("the mark goes on", broker.mark(0, 0), 2);
    CHECK.due("the cursor too", broker.cursor(0, 0), 2);
    CHECK.due("the lag", broker.lag(0, 0), 1);
    CHECK.due("behind it", broker.take(0, 0), 2);
  }
}
