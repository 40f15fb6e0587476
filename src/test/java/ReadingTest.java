/** Promises 19 to 22: what READERS take, and how a GROUP goes on. */
public final class ReadingTest {
  private static final Check CHECK = new Check("ReadingTest");

  private ReadingTest() {
  }

  public static void main(String[] arguments) {
    promise19TakesInOrder();
    promise19FirstPartition();
    promise19AgainFirst();
    promise19AgainAboveTheCursor();
    promise19SkipsWhatIsNotSeen();
    promise19WrongInputs();
    promise20Ack();
    promise20WrongInputs();
    promise21Nack();
    promise21LaidAside();
    promise21WrongInputs();
    promise22SeekBack();
    promise22SeekOn();
    promise22SeekToWhatIsNotKept();
    promise22SeekAboveTheStableEnd();
    promise22WrongInputs();
    CHECK.end();
  }

  private static void promise19TakesInOrder() {
    TailraceBroker broker = Brokers.oneReader(2);
    broker.group(0);
    broker.join(1, 4, true);
    broker.setClock(3);
    CHECK.due("the first", broker.take(0, 0), 0);
    CHECK.due("it is out", broker.state(0, 0, 0), 1);
    CHECK.due("its tries", broker.tries(0, 0, 0), 1);
    CHECK.due("since now", broker.nextTime(0), 13);
    CHECK.due("the second", broker.take(0, 0), 1);
    CHECK.due("nothing", broker.take(0, 0), -1);
    CHECK.due("rows", broker.ledger(), 2);
    CHECK.due("the other group has its own", broker.take(1, 4), 0);
    Brokers.sendPlain(broker, 0, 2, 1);
    CHECK.due("what came since", broker.take(0, 0), 2);
  }

  private static void promise19FirstPartition() {
    TailraceBroker broker = Brokers.keyedRows(4, false, 6);
    broker.group(0);
    broker.join(0, 1, true);
    broker.join(0, 4, true);
    CHECK.due("of its partitions", broker.take(0, 4), 200);
    CHECK.due("the first that has one", broker.take(0, 1), 0);
    CHECK.due("and again", broker.take(0, 1), 1);
    CHECK.due("then the next one", broker.take(0, 1), 100);
    CHECK.due("the other's", broker.take(0, 4), 300);
    CHECK.due("nothing left", broker.take(0, 4), -1);
    broker.nack(0, 0, 1);
    broker.setClock(2);
    CHECK.due("the first partition before a new one", broker.take(0, 1), 1);
  }

  private static void promise19AgainFirst() {
    TailraceBroker broker = Brokers.oneReader(5);
    for (int times = 0; times < 4; times++) {
      broker.take(0, 0);
    }
    broker.setPatience(4, 50);
    broker.nack(0, 0, 3);
    broker.setPatience(2, 50);
    broker.setClock(1);
    broker.nack(0, 0, 2);
    broker.nack(0, 0, 1);
    broker.setClock(2);
    CHECK.due("none has its time yet", broker.wouldTake(0, 0), 4);
    broker.setClock(3);
    CHECK.due("the smallest offset at its time", broker.take(0, 0), 1);
    broker.setClock(4);
    CHECK.due("not that with the smallest time", broker.take(0, 0), 2);
    CHECK.due("then that", broker.take(0, 0), 3);
    CHECK.due("its tries", broker.tries(0, 0, 3), 2);
    CHECK.due("the cursor stays", broker.cursor(0, 0), 4);
    CHECK.due("then a new one", broker.take(0, 0), 4);
  }

  private static void promise19AgainAboveTheCursor() {
    TailraceBroker broker = Brokers.oneReader(3);
    broker.take(0, 0);
    broker.take(0, 0);
    broker.nack(0, 0, 1);
    broker.join(0, 0, false);
    broker.join(0, 2, true);
    broker.setClock(2);
    CHECK.due("again, above the cursor", broker.take(0, 2), 1);
    CHECK.due("the cursor stays", broker.cursor(0, 0), 0);
    CHECK.due("then from the cursor on", broker.take(0, 2), 0);
    CHECK.due("the cursor is behind that", broker.cursor(0, 0), 1);
    CHECK.due("what is out is passed over", broker.take(0, 2), 2);
    CHECK.due("the cursor is behind that", broker.cursor(0, 0), 3);
  }

  private static void promise19SkipsWhatIsNotSeen() {
    TailraceBroker broker = new TailraceBroker();
    broker.topic(1, true);
    broker.send(0, 0, 0, -1, 0);
    broker.send(0, 0, 1, 5, 0);
    broker.begin(1);
    broker.send(0, 1, 0, 5, 0);
    broker.end(1, false);
    broker.send(0, 0, 2, 5, 0);
    broker.begin(2);
    broker.send(0, 2, 0, 5, 0);
    broker.send(0, 0, 3, -1, 0);
    broker.clean(0);
    broker.group(0);
    broker.join(0, 0, true);
    CHECK.due("the first", broker.take(0, 0), 0);
    CHECK.due("no dropped or hidden one", broker.take(0, 0), 3);
    CHECK.due("none from the stable end on", broker.take(0, 0), -1);
    broker.end(2, true);
    CHECK.due("the pending one then", broker.take(0, 0), 4);
    CHECK.due("and that behind it", broker.take(0, 0), 5);
  }

  private static void promise19WrongInputs() {
    TailraceBroker broker = Brokers.oneReader(1);
    CHECK.noState("reader 1 is not in it", broker, () -> broker.take(0, 1));
    CHECK.noIndex("reader 6", broker, () -> broker.take(0, 6));
    CHECK.noIndex("reader -1", broker, () -> broker.take(0, -1));
    CHECK.noIndex("group 1", broker, () -> broker.take(1, 0));
    CHECK.noIndex("group -1", broker, () -> broker.take(-1, 0));
    broker.join(0, 0, false);
    CHECK.noState("it went", broker, () -> broker.take(0, 0));
    broker.join(0, 1, true);
    broker.join(0, 0, true);
    CHECK.due("in it, without a partition", broker.take(0, 1), -1);
  }

  private static void promise20Ack() {
    TailraceBroker broker = Brokers.oneReader(4);
    broker.take(0, 0);
    broker.take(0, 0);
    broker.take(0, 0);
    CHECK.due("behind the mark", broker.ack(0, 0, 1), 0);
    CHECK.due("it is read", broker.state(0, 0, 1), 3);
    CHECK.due("at the mark", broker.ack(0, 0, 0), 2);
    CHECK.due("the last that is out", broker.ack(0, 0, 2), 3);
    CHECK.due("a row of it", broker.row(5, 0), 1);
    CHECK.due("a row of it, offset", broker.row(5, 3), 2);
    broker.take(0, 0);
    broker.join(0, 0, false);
    broker.join(0, 0, true);
    broker.take(0, 0);
    CHECK.due("the end", broker.ack(0, 0, 3), 4);
    CHECK.due("the cursor is not below the mark", broker.cursor(0, 0), 4);
  }

  private static void promise20WrongInputs() {
    TailraceBroker broker = Brokers.oneReader(2);
    CHECK.noState("never given", broker, () -> broker.ack(0, 0, 0));
    broker.take(0, 0);
    CHECK.noState("no such message", broker, () -> broker.ack(0, 0, 2));
    CHECK.noState("offset -1", broker, () -> broker.ack(0, 0, -1));
    CHECK.noState("offset 80", broker, () -> broker.ack(0, 0, 80));
    CHECK.noState("the greatest offset", broker, () -> broker.ack(0, 0, Integer.MAX_VALUE));
    CHECK.noIndex("group 1", broker, () -> broker.ack(1, 0, 0));
    CHECK.noIndex("group -1", broker, () -> broker.ack(-1, 0, 0));
    CHECK.noIndex("partition 1", broker, () -> broker.ack(0, 1, 0));
    CHECK.noIndex("partition -1, before the offset", broker, () -> broker.ack(0, -1, 9));
    broker.nack(0, 0, 0);
    CHECK.noState("to be given again", broker, () -> broker.ack(0, 0, 0));
    broker.setClock(2);
    broker.take(0, 0);
    broker.ack(0, 0, 0);
    CHECK.noState("read already", broker, () -> broker.ack(0, 0, 0));
  }

  private static void promise21Nack() {
    TailraceBroker broker = Brokers.oneReader(2);
    broker.setPatience(20, 50);
    broker.setClock(7);
    broker.take(0, 0);
    CHECK.due("after one try", broker.nack(0, 0, 0), 27);
    CHECK.due("it is again", broker.state(0, 0, 0), 2);
    CHECK.due("the mark stays", broker.mark(0, 0), 0);
    broker.setClock(26);
    CHECK.due("not before its time", broker.take(0, 0), 1);
    broker.setClock(27);
    broker.take(0, 0);
    broker.setPatience(3, 50);
    broker.setClock(28);
    CHECK.due("after two tries", broker.nack(0, 0, 0), 34);
    CHECK.due("a row of it", broker.row(4, 0), 2);
    CHECK.due("a row of it, when", broker.row(4, 4), 28);
    CHECK.due("no other row", broker.ledger(), 5);
  }

  private static void promise21LaidAside() {
    TailraceBroker broker = Brokers.oneReader(3);
    int clock = 0;
    for (int times = 0; times < 2; times++) {
      broker.take(0, 0);
      broker.nack(0, 0, 0);
      clock += 5;
      broker.setClock(clock);
    }
    broker.take(0, 0);
    broker.take(0, 0);
    broker.ack(0, 0, 1);
    CHECK.due("after three tries", broker.nack(0, 0, 0), -1);
    CHECK.due("laid aside", broker.state(0, 0, 0), 4);
    CHECK.due("its tries", broker.tries(0, 0, 0), 3);
    CHECK.due("the mark goes on", broker.mark(0, 0), 2);
    CHECK.due("rows", broker.ledger(), 9);
    CHECK.due("a row of its nacking", broker.row(7, 0), 2);
    CHECK.due("a row behind that", broker.row(8, 0), 3);
    CHECK.due("never given again", broker.take(0, 0), 2);
    CHECK.due("never given again", broker.take(0, 0), -1);
  }

  private static void promise21WrongInputs() {
    TailraceBroker broker = Brokers.oneReader(2);
    CHECK.noState("never given", broker, () -> broker.nack(0, 0, 0));
    broker.take(0, 0);
    CHECK.noState("no such message", broker, () -> broker.nack(0, 0, 2));
    CHECK.noState("offset -1", broker, () -> broker.nack(0, 0, -1));
    CHECK.noState("offset 80", broker, () -> broker.nack(0, 0, 80));
    CHECK.noIndex("group 1", broker, () -> broker.nack(1, 0, 0));
    CHECK.noIndex("group -1", broker, () -> broker.nack(-1, 0, 0));
    CHECK.noIndex("partition 1, before the offset", broker, () -> broker.nack(0, 1, 9));
    CHECK.noIndex("partition -1", broker, () -> broker.nack(0, -1, 0));
    broker.nack(0, 0, 0);
    CHECK.noState("nacked already", broker, () -> broker.nack(0, 0, 0));
  }

  private static void promise22SeekBack() {
    TailraceBroker broker = Brokers.oneReader(6);
    Brokers.layAside(broker, 0, 0);
    for (int times = 0; times < 4; times++) {
      broker.take(0, 0);
    }
    broker.ack(0, 0, 1);
    broker.ack(0, 0, 4);
    broker.nack(0, 0, 3);
    CHECK.dueStates("before", broker, 0, 0, "431230");
    CHECK.due("the mark before", broker.seek(0, 0, 1), 2);
    CHECK.dueStates("from there on as never given", broker, 0, 0, "400000");
    CHECK.due("without tries", broker.tries(0, 0, 4), 0);
    CHECK.due("below it laid aside stays", broker.tries(0, 0, 0), 3);
    CHECK.due("the mark", broker.mark(0, 0), 1);
    CHECK.due("the cursor", broker.cursor(0, 0), 1);
    CHECK.due("given from there on", broker.take(0, 0), 1);
    CHECK.due("back to the first", broker.seek(0, 0, 0), 1);
    CHECK.due("the laid aside one", broker.take(0, 0), 0);
    CHECK.due("the reader stays", broker.reader(0, 0), 0);
  }

  private static void promise22SeekOn() {
    TailraceBroker broker = Brokers.oneReader(6);
    for (int times = 0; times < 5; times++) {
      broker.take(0, 0);
    }
    broker.nack(0, 0, 1);
    broker.ack(0, 0, 2);
    CHECK.dueStates("before", broker, 0, 0, "123110");
    CHECK.due("the mark before", broker.seek(0, 0, 4), 0);
    CHECK.dueStates("out and again as never given", broker, 0, 0, "003000");
    CHECK.due("without tries", broker.tries(0, 0, 0), 0);
    CHECK.due("without tries", broker.tries(0, 0, 1), 0);
    CHECK.due("the mark", broker.mark(0, 0), 4);
    CHECK.due("the cursor", broker.cursor(0, 0), 4);
    broker.setClock(50);
    CHECK.due("none below it", broker.take(0, 0), 4);
    CHECK.due("to the end", broker.seek(0, 0, 6), 4);
    CHECK.due("nothing there", broker.take(0, 0), -1);
    broker.seek(0, 0, 1);
    CHECK.dueStates("all behind it", broker, 0, 0, "000000");
    CHECK.due("to the same", broker.seek(0, 0, 1), 1);
  }

  private static void promise22SeekToWhatIsNotKept() {
    TailraceBroker broker = new TailraceBroker();
    broker.topic(1, true);
    broker.send(0, 0, 0, 1, 0);
    broker.begin(1);
    broker.send(0, 1, 0, 1, 0);
    broker.end(1, false);
    broker.send(0, 0, 1, 1, 0);
    broker.clean(0);
    broker.group(0);
    broker.join(0, 0, true);
    broker.take(0, 0);
    broker.ack(0, 0, 2);
    CHECK.due("back", broker.seek(0, 0, 0), 3);
    CHECK.due("the mark goes on at once", broker.mark(0, 0), 2);
    CHECK.due("the cursor is not below it", broker.cursor(0, 0), 2);
  }

  private static void promise22SeekAboveTheStableEnd() {
    TailraceBroker broker = Brokers.oneReader(1);
    broker.begin(1);
    broker.send(0, 1, 0, -1, 0);
    broker.send(0, 0, 1, -1, 0);
    broker.send(0, 1, 1, -1, 0);
    broker.seek(0, 0, 3);
    CHECK.due("the mark", broker.mark(0, 0), 3);
    CHECK.due("nothing", broker.take(0, 0), -1);
    CHECK.due("no lag", broker.lag(0, 0), 0);
    broker.end(1, false);
    CHECK.due("over what is hidden", broker.mark(0, 0), 4);
    broker.send(0, 0, 2, -1, 0);
    CHECK.due("what comes then", broker.take(0, 0), 4);
  }

  private static void promise22WrongInputs() {
    TailraceBroker broker = Brokers.oneReader(3);
    broker.setKeep(0, 2);
    broker.setClock(2);
    Brokers.sendPlain(broker, 0, 3, 2);
    CHECK.noArgument("below the start", broker, () -> broker.seek(0, 0, 2));
    CHECK.noArgument("above the end", broker, () -> broker.seek(0, 0, 6));
    CHECK.noArgument("-1", broker, () -> broker.seek(0, 0, -1));
    CHECK.noIndex("group 1", broker, () -> broker.seek(1, 0, 3));
    CHECK.noIndex("group -1", broker, () -> broker.seek(-1, 0, 3));
    CHECK.noIndex("partition 1, before the offset", broker, () -> broker.seek(0, 1, 9));
    CHECK.noIndex("partition -1", broker, () -> broker.seek(0, -1, 3));
    CHECK.due("the start", broker.seek(0, 0, 3), 3);
    CHECK.due("the end", broker.seek(0, 0, 5), 3);
  }
}
