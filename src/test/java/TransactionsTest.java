/** Promises 4 and 5: TRANSACTIONS. */
public final class TransactionsTest {
  private static final Check CHECK = new Check("TransactionsTest");

  private TransactionsTest() {
  }

  public static void main(String[] arguments) {
    promise4Begin();
    promise5EndCounts();
    promise5Done();
    promise5Undone();
    promise5WrongInputs();
    CHECK.end();
  }

  private static void promise4Begin() {
    TailraceBroker broker = Brokers.oneRow(0);
    CHECK.due("the first", broker.begin(3), 1);
    CHECK.due("of another", broker.begin(0), 2);
    CHECK.noState("while it has one", broker, () -> broker.begin(3));
    CHECK.noIndex("producer 4", broker, () -> broker.begin(4));
    CHECK.noIndex("producer -1", broker, () -> broker.begin(-1));
    broker.end(3, false);
    CHECK.due("anew, refused ones not counted", broker.begin(3), 3);
    broker.send(0, 3, 0, -1, 0);
    broker.send(0, 1, 0, -1, 0);
    CHECK.due("what it sends is pending", broker.message(0, 0, 0, 3), 2);
    CHECK.due("what another sends is not", broker.message(0, 0, 1, 3), 0);
  }

  private static void promise5EndCounts() {
    TailraceBroker broker = new TailraceBroker();
    broker.topic(2, false);
    broker.topic(1, false);
    broker.send(0, 0, 0, 0, 0);
    broker.begin(0);
    broker.begin(1);
    broker.send(0, 0, 1, 0, 0);
    broker.send(0, 0, 2, 1, 0);
    broker.send(1, 0, 0, 0, 0);
    broker.send(0, 0, 2, 1, 0);
    broker.send(0, 1, 0, 1, 0);
    CHECK.due("of all topics, no double", broker.end(0, true), 3);
    broker.begin(0);
    broker.send(0, 0, 3, 0, 0);
    CHECK.due("of this one alone", broker.end(0, false), 1);
    broker.begin(0);
    CHECK.due("of none", broker.end(0, true), 0);
    CHECK.due("of the other", broker.end(1, true), 1);
  }

  private static void promise5Done() {
    TailraceBroker broker = Brokers.oneReader(0);
    broker.begin(0);
    broker.begin(1);
    broker.send(0, 0, 0, -1, 0);
    broker.send(0, 1, 0, -1, 0);
    broker.send(0, 2, 0, -1, 0);
    CHECK.due("nothing is given at first", broker.take(0, 0), -1);
    broker.end(1, true);
    CHECK.due("the other one is seen", broker.message(0, 0, 1, 3), 0);
    CHECK.due("this one is pending yet", broker.message(0, 0, 0, 3), 2);
    CHECK.due("nothing behind a pending one is given", broker.take(0, 0), -1);
    broker.end(0, true);
    CHECK.due("given then", broker.take(0, 0), 0);
    CHECK.due("given then", broker.take(0, 0), 1);
    CHECK.due("given then", broker.take(0, 0), 2);
    broker.send(0, 0, 1, -1, 0);
    CHECK.due("what is sent later is seen", broker.message(0, 0, 3, 3), 0);
  }

  private static void promise5Undone() {
    TailraceBroker broker = Brokers.oneReader(0);
    broker.group(0);
    broker.begin(0);
    broker.send(0, 0, 0, -1, 0);
    broker.send(0, 0, 1, -1, 0);
    broker.send(0, 1, 0, -1, 0);
    broker.send(0, 0, 2, -1, 0);
    broker.end(0, false);
    CHECK.due("it keeps its offset", broker.endOf(0, 0), 4);
    CHECK.due("it is hidden", broker.message(0, 0, 0, 3), 1);
    CHECK.due("the mark goes on", broker.mark(0, 0), 2);
    CHECK.due("the cursor too", broker.cursor(0, 0), 2);
    CHECK.due("of each group", broker.mark(1, 0), 2);
    CHECK.due("it is not given", broker.take(0, 0), 2);
    CHECK.due("it is not given", broker.take(0, 0), -1);
    CHECK.due("the mark goes on over it", broker.ack(0, 0, 2), 4);
  }

  private static void promise5WrongInputs() {
    TailraceBroker broker = Brokers.oneRow(1);
    CHECK.noState("none begun", broker, () -> broker.end(0, true));
    broker.begin(1);
    CHECK.noState("begun by another", broker, () -> broker.end(0, false));
    CHECK.noIndex("producer 4", broker, () -> broker.end(4, true));
    CHECK.noIndex("producer -1", broker, () -> broker.end(-1, true));
    broker.end(1, true);
    CHECK.noState("ended already", broker, () -> broker.end(1, true));
  }
}
