/** Promises 32 to 36, and 38: the LEDGER, what would be, and the digest. */
public final class AskingTest {
  private static final Check CHECK = new Check("AskingTest");

  private AskingTest() {
  }

  public static void main(String[] arguments) {
    promise32Ledger();
    promise32TwoHundredRows();
    promise32LaidAsideAtTheLastRow();
    promise33Row();
    promise33WrongInputs();
    promise34WouldTake();
    promise34WrongInputs();
    promise35WouldRead();
    promise35WrongInputs();
    promise36NextTime();
    promise36LeastOfAll();
    promise36Latest();
    promise38Digest();
    promise38ChangesNothing();
    CHECK.end();
  }

  private static void promise32Ledger() {
    TailraceBroker broker = Brokers.oneReader(2);
    CHECK.due("none", broker.ledger(), 0);
    broker.take(0, 0);
    CHECK.due("given", broker.ledger(), 1);
    broker.take(0, 0);
    broker.take(0, 0);
    CHECK.due("nothing given", broker.ledger(), 2);
    broker.ack(0, 0, 1);
    broker.nack(0, 0, 0);
    CHECK.due("acked and nacked", broker.ledger(), 4);
    broker.seek(0, 0, 2);
    broker.join(0, 0, false);
    CHECK.due("no other", broker.ledger(), 4);
  }

  private static void promise32TwoHundredRows() {
    TailraceBroker broker = Brokers.oneReader(1);
    for (int times = 0; times < 99; times++) {
      broker.take(0, 0);
      broker.seek(0, 0, 0);
      broker.take(0, 0);
      broker.seek(0, 0, 0);
    }
    CHECK.due("198", broker.ledger(), 198);
    broker.take(0, 0);
    broker.nack(0, 0, 0);
    CHECK.due("200", broker.ledger(), 200);
    broker.setClock(2);
    CHECK.due("it is given", broker.take(0, 0), 0);
    CHECK.due("no more are written", broker.ledger(), 200);
    CHECK.due("acked", broker.ack(0, 0, 0), 1);
    CHECK.due("the last row", broker.row(199, 0), 2);
    CHECK.noIndex("row 200", broker, () -> broker.row(200, 0));
  }

  private static void promise32LaidAsideAtTheLastRow() {
    TailraceBroker broker = Brokers.oneReader(1);
    for (int times = 0; times < 194; times++) {
      broker.take(0, 0);
      broker.seek(0, 0, 0);
    }
    Brokers.layAside(broker, 0, 0);
    CHECK.due("200", broker.ledger(), 200);
    CHECK.due("its nacking", broker.row(199, 0), 2);
    CHECK.due("it is laid aside", broker.aside(0), 1);
  }

  private static void promise33Row() {
    TailraceBroker broker = new TailraceBroker();
    broker.topic(1, false);
    broker.topic(3, false);
    broker.send(1, 0, 0, 2, 0);
    broker.send(1, 0, 1, 2, 0);
    broker.group(0);
    broker.group(1);
    broker.join(1, 5, true);
    broker.setClock(3);
    broker.take(1, 5);
    broker.setClock(4);
    broker.take(1, 5);
    broker.setClock(5);
    broker.nack(1, 2, 1);
    broker.setClock(7);
    broker.take(1, 5);
    broker.setClock(9);
    broker.nack(1, 2, 1);
    // By that the MESSAGE 0 is nacked by itself.
    broker.setClock(13);
    broker.take(1, 5);
    broker.nack(1, 2, 1);
    broker.setClock(19);
    broker.take(1, 5);
    broker.ack(1, 2, 0);
    int[][] want = {
      {0, 1, 2, 0, 3}, {0, 1, 2, 1, 4}, {2, 1, 2, 1, 5}, {0, 1, 2, 1, 7}, {2, 1, 2, 1, 9},
      {2, 1, 2, 0, 13}, {0, 1, 2, 1, 13}, {2, 1, 2, 1, 13}, {3, 1, 2, 1, 13},
      {0, 1, 2, 0, 19}, {1, 1, 2, 0, 19}
    };
    CHECK.due("rows", broker.ledger(), want.length);
    for (int row = 0; row < Math.min(want.length, broker.ledger()); row++) {
      for (int what = 0; what <= 4; what++) {
        CHECK.due("row " + row + ", " + what, broker.row(row, what), want[row][what]);
      }
    }
  }

  private static void promise33WrongInputs() {
    TailraceBroker broker = Brokers.oneReader(1);
    CHECK.noIndex("row 0 of none", broker, () -> broker.row(0, 0));
    broker.take(0, 0);
    CHECK.due("row 0", broker.row(0, 0), 0);
    CHECK.noIndex("row 1, before what", broker, () -> broker.row(1, 5));
    CHECK.noIndex("row -1", broker, () -> broker.row(-1, 0));
    CHECK.noArgument("what 5", broker, () -> broker.row(0, 5));
    CHECK.noArgument("what -1", broker, () -> broker.row(0, -1));
  }

  private static void promise34WouldTake() {
    TailraceBroker broker = new TailraceBroker();
    broker.topic(3, false);
    broker.send(0, 0, 0, 2, 0);
    broker.send(0, 0, 1, 2, 0);
    broker.group(0);
    CHECK.due("not in it", broker.wouldTake(0, 4), -1);
    broker.join(0, 4, true);
    long before = broker.digest();
    CHECK.due("in it", broker.wouldTake(0, 4), 200);
    CHECK.due("anew", broker.wouldTake(0, 4), 200);
    CHECK.due("nothing is changed", broker.digest(), before);
    broker.take(0, 4);
    CHECK.due("the next", broker.wouldTake(0, 4), 201);
    broker.nack(0, 2, 0);
    broker.setClock(2);
    CHECK.due("again", broker.wouldTake(0, 4), 200);
    broker.take(0, 4);
    broker.take(0, 4);
    CHECK.due("nothing", broker.wouldTake(0, 4), -1);
    broker.join(0, 4, false);
    CHECK.due("it went", broker.wouldTake(0, 4), -1);
  }

  private static void promise34WrongInputs() {
    TailraceBroker broker = Brokers.oneReader(1);
    CHECK.noIndex("group 1", broker, () -> broker.wouldTake(1, 0));
    CHECK.noIndex("group -1", broker, () -> broker.wouldTake(-1, 0));
    CHECK.noIndex("reader 6", broker, () -> broker.wouldTake(0, 6));
    CHECK.noIndex("reader -1", broker, () -> broker.wouldTake(0, -1));
  }

  private static void promise35WouldRead() {
    for (int partitions = 1; partitions <= 4; partitions++) {
      for (int readers = 0; readers < 64; readers++) {
        dueWouldRead(partitions, readers);
      }
    }
    TailraceBroker broker = Brokers.oneReader(1);
    broker.take(0, 0);
    long before = broker.digest();
    CHECK.due("it went", broker.wouldRead(0, 0, 0), -1);
    CHECK.due("one behind it came", broker.wouldRead(0, 3, 0), 0);
    CHECK.due("nothing is changed", broker.digest(), before);
  }

  /** What it says is what reader() says when the READER came or went. */
  private static void dueWouldRead(int partitions, int readers) {
    for (int changed = 0; changed < 6; changed++) {
      TailraceBroker broker = new TailraceBroker();
      broker.topic(partitions, false);
      broker.group(0);
      for (int reader = 0; reader < 6; reader++) {
        broker.join(0, reader, (readers >> reader & 1) == 1);
      }
      int[] would = new int[partitions];
      for (int partition = 0; partition < partitions; partition++) {
        would[partition] = broker.wouldRead(0, changed, partition);
      }
      broker.join(0, changed, (readers >> changed & 1) == 0);
      for (int partition = 0; partition < partitions; partition++) {
        CHECK.due("would read", would[partition], broker.reader(0, partition));
      }
    }
  }

  private static void promise35WrongInputs() {
    TailraceBroker broker = Brokers.oneReader(1);
    CHECK.noIndex("group 1", broker, () -> broker.wouldRead(1, 0, 0));
    CHECK.noIndex("group -1", broker, () -> broker.wouldRead(-1, 0, 0));
    CHECK.noIndex("partition 1", broker, () -> broker.wouldRead(0, 0, 1));
    CHECK.noIndex("partition -1", broker, () -> broker.wouldRead(0, 0, -1));
    CHECK.noIndex("reader 6", broker, () -> broker.wouldRead(0, 6, 0));
    CHECK.noIndex("reader -1", broker, () -> broker.wouldRead(0, -1, 0));
  }

  private static void promise36NextTime() {
    TailraceBroker broker = Brokers.oneReader(2);
    CHECK.due("without any", broker.nextTime(0), -1);
    broker.setClock(5);
    broker.take(0, 0);
    CHECK.due("out", broker.nextTime(0), 15);
    broker.setClock(8);
    CHECK.due("out, later", broker.nextTime(0), 15);
    broker.nack(0, 0, 0);
    CHECK.due("again", broker.nextTime(0), 10);
    broker.setClock(12);
    CHECK.due("again, its time is over", broker.nextTime(0), 12);
    broker.take(0, 0);
    broker.ack(0, 0, 0);
    CHECK.due("none that is read", broker.nextTime(0), -1);
    CHECK.noIndex("group 1", broker, () -> broker.nextTime(1));
    CHECK.noIndex("group -1", broker, () -> broker.nextTime(-1));
  }

  private static void promise36LeastOfAll() {
    TailraceBroker broker = Brokers.keyedRows(2, false, 4);
    broker.group(0);
    broker.group(0);
    broker.join(0, 0, true);
    broker.setPatience(20, 50);
    for (int times = 0; times < 4; times++) {
      broker.take(0, 0);
    }
    broker.nack(0, 0, 1);
    CHECK.due("again in the first partition", broker.nextTime(0), 20);
    broker.setPatience(5, 50);
    broker.nack(0, 1, 0);
    CHECK.due("again in the second", broker.nextTime(0), 5);
    broker.setPatience(5, 3);
    CHECK.due("out, by the patience of now", broker.nextTime(0), 3);
    CHECK.due("of the other group", broker.nextTime(1), -1);
  }

  private static void promise36Latest() {
    TailraceBroker broker = Brokers.oneReader(1);
    broker.take(0, 0);
    broker.setClock(9);
    broker.setPatience(2, 1);
    CHECK.due("out for too long: as the clock is set next", broker.nextTime(0), 10);
    broker.setPatience(2, 9);
    CHECK.due("out for just as long", broker.nextTime(0), 10);
    broker.setPatience(2, 11);
    CHECK.due("out", broker.nextTime(0), 11);
  }

  private static void promise38Digest() {
    CHECK.due("a new one", new TailraceBroker().digest(), 2477806843L);
    String[] with = {"messages", "given ones", "dropped ones", "a later clock"};
    for (int steps = 0; steps < with.length; steps++) {
      int gone = steps;
      CHECK.due("with " + with[steps], afterSteps(gone).digest(),
          Digest.told(() -> afterSteps(gone), 3, 1));
    }
  }

  private static TailraceBroker afterSteps(int steps) {
    TailraceBroker broker = withMessages();
    if (steps >= 1) {
      for (int times = 0; times < 5; times++) {
        broker.take(0, 1);
      }
      broker.nack(0, 0, 1);
      broker.ack(0, 0, 0);
    }
    if (steps >= 2) {
      broker.clean(0);
      broker.setKeep(0, 4);
    }
    if (steps >= 3) {
      broker.setClock(30);
    }
    return broker;
  }

  private static TailraceBroker withMessages() {
    TailraceBroker broker = new TailraceBroker();
    broker.topic(3, true);
    broker.topic(1, false);
    for (int number = 0; number < 9; number++) {
      broker.send(0, 0, number, number % 5 - 1, number * 100);
    }
    broker.begin(1);
    broker.send(0, 1, 0, 3, 7);
    broker.send(1, 1, 0, -1, 8);
    broker.end(1, false);
    broker.begin(2);
    broker.send(0, 2, 0, 1, 9);
    broker.group(0);
    broker.group(1);
    broker.join(0, 1, true);
    broker.join(0, 3, true);
    return broker;
  }

  private static void promise38ChangesNothing() {
    TailraceBroker broker = Brokers.oneReader(3);
    broker.take(0, 0);
    long before = broker.digest();
    CHECK.due("the same anew", broker.digest(), before);
    broker.take(0, 0);
    CHECK.due("another then", broker.digest() != before, true);
  }
}
