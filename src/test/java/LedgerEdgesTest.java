import java.math.BigInteger;

/** The edges of the LEDGER, of wouldRead() and of digest(): a sentence each. */
public final class LedgerEdgesTest {
  private static final Check CHECK = new Check("LedgerEdgesTest");

  private LedgerEdgesTest() {
  }

  public static void main(String[] arguments) {
    rowsOfNone();
    rowsFromTheFirstToTheLast();
    rowsAreTwoHundredAtMost();
    twoRowsWhereOneFits();
    rowsByTheClockWhereSomeFit();
    whatHappensIsNotRefusedWhenFull();
    noRowOfOtherThings();
    wouldReadByEachCount();
    digestOfNone();
    digestOfAll();
    digestWrapsAround();
    fiveHundredAndTwelveCalls();
    CHECK.end();
  }

  private static void dueRow(TailraceBroker broker, int row, int... want) {
    for (int what = 0; what < want.length; what++) {
      CHECK.due("row " + row + ", " + what, broker.row(row, what), want[what]);
    }
  }

  /** The MESSAGE 0 is given, and by seeking as never given: a row each. */
  private static void giveAnew(TailraceBroker broker, int times) {
    for (int time = 0; time < times; time++) {
      broker.take(0, 0);
      broker.seek(0, 0, 0);
    }
  }

  /** "if there is no such row" */
  private static void rowsOfNone() {
    TailraceBroker broker = Brokers.oneReader(1);
    CHECK.due("none", broker.ledger(), 0);
    for (int wrong : new int[] {0, -1, 1, 200, Integer.MIN_VALUE, Integer.MAX_VALUE}) {
      CHECK.noIndex("row " + wrong, broker, () -> broker.row(wrong, 0));
      CHECK.noIndex("row " + wrong + " before what", broker, () -> broker.row(wrong, 5));
    }
  }

  /** "a row, from 0 on, as they came" */
  private static void rowsFromTheFirstToTheLast() {
    TailraceBroker broker = Brokers.oneReader(1);
    for (int row = 0; row < 3; row++) {
      int next = row;
      CHECK.noIndex("not there yet", broker, () -> broker.row(next, 0));
      broker.setClock(100 * (row + 1));
      giveAnew(broker, 1);
      CHECK.due("how many", broker.ledger(), row + 1);
      dueRow(broker, row, 0, 0, 0, 0, 100 * (row + 1));
      CHECK.noArgument("what -1", broker, () -> broker.row(next, -1));
      CHECK.noArgument("what 5", broker, () -> broker.row(next, 5));
    }
    dueRow(broker, 0, 0, 0, 0, 0, 100);
  }

  /** "at most 200 (then no more are written)" */
  private static void rowsAreTwoHundredAtMost() {
    TailraceBroker broker = Brokers.oneReader(1);
    giveAnew(broker, 198);
    CHECK.due("two are free", broker.ledger(), 198);
    broker.setClock(7);
    broker.take(0, 0);
    CHECK.due("one is free", broker.ledger(), 199);
    CHECK.noIndex("the last is not there yet", broker, () -> broker.row(199, 0));
    broker.ack(0, 0, 0);
    CHECK.due("none is free", broker.ledger(), 200);
    dueRow(broker, 198, 0, 0, 0, 0, 7);
    dueRow(broker, 199, 1, 0, 0, 0, 7);
    CHECK.noIndex("behind the last", broker, () -> broker.row(200, 0));
    broker.seek(0, 0, 0);
    broker.setClock(8);
    broker.take(0, 0);
    broker.nack(0, 0, 0);
    CHECK.due("no more are written", broker.ledger(), 200);
    dueRow(broker, 199, 1, 0, 0, 0, 7);
    dueRow(broker, 0, 0, 0, 0, 0, 0);
    CHECK.noIndex("behind the last yet", broker, () -> broker.row(200, 0));
  }

  /** Of a nacking and the laying aside behind it the first one fits. */
  private static void twoRowsWhereOneFits() {
    for (int free = 0; free <= 2; free++) {
      TailraceBroker broker = Brokers.oneReader(1);
      giveAnew(broker, 195 - free);
      for (int tries = 1; tries <= 2; tries++) {
        broker.take(0, 0);
        broker.nack(0, 0, 0);
        broker.setClock(5 * tries);
      }
      broker.take(0, 0);
      CHECK.due("before", broker.ledger(), 200 - free);
      CHECK.due("laid aside", broker.nack(0, 0, 0), -1);
      CHECK.due("full", broker.ledger(), 200);
      CHECK.due("the last row", broker.row(199, 0), free == 0 ? 0 : free == 1 ? 2 : 3);
      CHECK.due("it is laid aside", broker.aside(0), 1);
    }
  }

  /** As the CLOCK is set: all are NACKED and counted, of the rows the first ones are written. */
  private static void rowsByTheClockWhereSomeFit() {
    TailraceBroker broker = Brokers.oneReader(3);
    giveAnew(broker, 195);
    for (int times = 0; times < 3; times++) {
      broker.take(0, 0);
    }
    CHECK.due("two are free", broker.ledger(), 198);
    CHECK.due("all are nacked", broker.setClock(10), 3);
    CHECK.dueStates("all are again", broker, 0, 0, "222");
    CHECK.due("full", broker.ledger(), 200);
    dueRow(broker, 198, 2, 0, 0, 0, 10);
    dueRow(broker, 199, 2, 0, 0, 1, 10);
  }

  private static void whatHappensIsNotRefusedWhenFull() {
    TailraceBroker broker = Brokers.full();
    CHECK.due("full", broker.ledger(), 200);
    CHECK.due("one is out", broker.state(1, 0, 4), 1);
    CHECK.due("acked", broker.ack(1, 0, 4), 3);
    CHECK.due("one of another partition", broker.take(1, 1), 102);
    CHECK.due("nacked", broker.nack(1, 1, 2), 10000);
    CHECK.due("full yet", broker.ledger(), 200);
  }

  /** "for each giving, acking, nacking (by itself or not) and laying aside" */
  private static void noRowOfOtherThings() {
    TailraceBroker broker = Brokers.oneReader(2);
    CHECK.noState("nothing is out", broker, () -> broker.ack(0, 0, 0));
    CHECK.noState("nothing is out", broker, () -> broker.nack(0, 0, 0));
    CHECK.noState("not in it", broker, () -> broker.take(0, 1));
    broker.wouldTake(0, 0);
    broker.seek(0, 0, 1);
    broker.seek(0, 0, 0);
    broker.join(0, 1, true);
    broker.join(0, 1, false);
    broker.setKeep(0, 1);
    broker.setClock(9999);
    CHECK.due("nothing to give", broker.take(0, 0), -1);
    CHECK.due("none", broker.ledger(), 0);
  }

  /** "if the READER came (or went, if it is in it); NOTHING without one" */
  private static void wouldReadByEachCount() {
    String[] come = {"0000", "0011", "0012", "0123", "0123", "0123"};
    TailraceBroker broker = new TailraceBroker();
    broker.topic(4, false);
    broker.group(0);
    for (int reader = 0; reader < 6; reader++) {
      CHECK.dueText("it came", would(broker, reader), come[reader]);
      broker.join(0, reader, true);
      CHECK.dueText("it went", would(broker, reader), reader == 0 ? "----" : come[reader - 1]);
    }
    CHECK.dueText("the first went", would(broker, 0), "1234");
    CHECK.dueText("the last went", would(broker, 5), "0123");
  }

  private static String would(TailraceBroker broker, int reader) {
    StringBuilder would = new StringBuilder();
    for (int partition = 0; partition < 4; partition++) {
      int has = broker.wouldRead(0, reader, partition);
      would.append(has == -1 ? "-" : String.valueOf(has));
    }
    return would.toString();
  }

  /** "A number d starts with 2683" */
  private static void digestOfNone() {
    TailraceBroker broker = new TailraceBroker();
    CHECK.due("with nothing", broker.digest(), 2683L * 31 * 31 * 31 * 31);
    broker.setClock(9999);
    CHECK.due("with a clock", broker.digest(), (2683L * 31 + 9999) * 31 * 31 * 31);
    broker.topic(1, false);
    long topic = ((2683L * 31 + 9999) * 31 + 1) * 31 * 31;
    CHECK.due("with an empty topic", broker.digest(), topic * 31 * 31 * 31 * 31 * 31);
  }

  private static void digestOfAll() {
    CHECK.due("with all there may be", Brokers.full().digest(),
        Digest.told(Brokers::full, 4, 4, 4, 4));
    CHECK.due("with some of it", Brokers.some().digest(), Digest.told(Brokers::some, 3, 1));
  }

  /** "which wraps around as a 64-bit integer" */
  private static void digestWrapsAround() {
    TailraceBroker broker = new TailraceBroker();
    BigInteger whole = BigInteger.valueOf(2683);
    broker.topic(4, false);
    long[] values = {0, 1, 0, 0, 0, 0, 0, 0, 0, 0, 0, 0, 0, 0, 0, 0, 0, 0};
    for (long v : values) {
      whole = whole.multiply(BigInteger.valueOf(31)).add(BigInteger.valueOf(v));
    }
    CHECK.due("it is too great for that", whole.bitLength() > 64, true);
    CHECK.due("its last 64 bits", broker.digest(), whole.longValue());
  }

  /** "An object is used for at most 512 calls": the last of them is answered as the first. */
  private static void fiveHundredAndTwelveCalls() {
    TailraceBroker broker = Brokers.oneReader(1);
    // These were 4 calls.
    for (int call = 5; call <= 511; call += 3) {
      broker.take(0, 0);
      broker.seek(0, 0, 0);
      broker.setClock(call);
    }
    CHECK.due("the last", broker.take(0, 0), 0);
  }
}
