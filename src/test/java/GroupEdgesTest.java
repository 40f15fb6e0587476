/** The edges of the MARK, the CURSOR and the READERS in "3. Groups", and of what asks of them. */
public final class GroupEdgesTest {
  private static final Check CHECK = new Check("GroupEdgesTest");

  private GroupEdgesTest() {
  }

  public static void main(String[] arguments) {
    groupsAreFourAtMost();
    groupsOfOneTopicAreTheirOwn();
    groupBeginsAtTheStart();
    groupBeginsBehindWhatIsNotKept();
    markGoesOverEachSort();
    markStopsAtEachOther();
    markReachesTheEnd();
    cursorIsNeverBelowTheMark();
    readersAreSixInEachGroup();
    sharesOfEachCount();
    sharesGoByNumbersNotByComing();
    readersThatStayChangeNothing();
    noReaderAtAll();
    anotherReaderOrNone();
    statesAtTheFirstAndTheLastOffset();
    lagNoneAndAll();
    lagOfWhatIsKeptAlone();
    asideNoneAndAll();
    meanTriesWithoutAny();
    meanTriesAtItsEdges();
    meanTriesOfAllPartitions();
    CHECK.end();
  }

  /** "At most 4 GROUPS, numbered from 0, each of one TOPIC" */
  private static void groupsAreFourAtMost() {
    TailraceBroker broker = new TailraceBroker();
    CHECK.noIndex("without a topic", broker, () -> broker.group(0));
    broker.topic(2, false);
    broker.topic(3, false);
    for (int group = 0; group < 4; group++) {
      int next = group;
      CHECK.due("how many", broker.groups(), group);
      CHECK.noIndex("not there yet", broker, () -> broker.aside(next));
      CHECK.due("its number", broker.group(group % 2), group);
      CHECK.due("its last partition", broker.mark(group, 1 + group % 2), 0);
      CHECK.noIndex("behind it", broker, () -> broker.mark(next, 2 + next % 2));
    }
    CHECK.noState("a fifth", broker, () -> broker.group(0));
    CHECK.noState("a fifth, of the other topic", broker, () -> broker.group(1));
    CHECK.noIndex("a fifth, of no topic", broker, () -> broker.group(2));
    CHECK.noIndex("it is not there", broker, () -> broker.aside(4));
    CHECK.due("how many yet", broker.groups(), 4);
  }

  private static void groupsOfOneTopicAreTheirOwn() {
    TailraceBroker broker = Brokers.oneReader(2);
    for (int group = 1; group < 4; group++) {
      broker.group(0);
      broker.join(group, 0, true);
    }
    CHECK.due("the first group", broker.take(0, 0), 0);
    CHECK.due("its mark then", broker.ack(0, 0, 0), 1);
    CHECK.due("the last group", broker.take(3, 0), 0);
    CHECK.dueStates("read by one", broker, 0, 0, "30");
    CHECK.dueStates("never given to another", broker, 1, 0, "00");
    CHECK.dueStates("out of the last", broker, 3, 0, "10");
    CHECK.due("the others' marks", broker.mark(1, 0) + broker.mark(2, 0) + broker.mark(3, 0), 0);
  }

  /** "a MARK: how far it is (at first the START then), and a CURSOR (likewise)" */
  private static void groupBeginsAtTheStart() {
    TailraceBroker broker = Brokers.oneRow(0);
    broker.group(0);
    duePlace("without a message", broker, 0, 0, 0);
    Brokers.sendPlain(broker, 0, 0, 2);
    broker.group(0);
    duePlace("with two", broker, 1, 0, 0);
    broker.setKeep(0, 1);
    broker.setClock(1);
    Brokers.sendPlain(broker, 0, 2, 1);
    broker.group(0);
    duePlace("behind two that are dropped", broker, 2, 2, 2);
    broker.setClock(2);
    broker.group(0);
    duePlace("as the start is the end", broker, 3, 3, 3);
    duePlace("the first one, too", broker, 0, 3, 3);
  }

  private static void duePlace(
      String what, TailraceBroker broker, int group, int mark, int cursor) {
    CHECK.due(what + ", mark", broker.mark(group, 0), mark);
    CHECK.due(what + ", cursor", broker.cursor(group, 0), cursor);
  }

  /** "Whatever happens": a new GROUP's MARK is not at what is HIDDEN or DROPPED either. */
  private static void groupBeginsBehindWhatIsNotKept() {
    TailraceBroker broker = new TailraceBroker();
    broker.topic(1, true);
    broker.send(0, 0, 0, 7, 0);
    broker.begin(1);
    broker.send(0, 1, 0, 7, 0);
    broker.end(1, false);
    broker.send(0, 0, 1, 7, 0);
    broker.group(0);
    duePlace("nothing is cleaned yet", broker, 0, 0, 0);
    broker.clean(0);
    broker.group(0);
    CHECK.due("the start stays", broker.start(0, 0), 0);
    duePlace("behind both", broker, 0, 2, 2);
    duePlace("of the new one, too", broker, 1, 2, 2);
  }

  /**
   * "as long as the MESSAGE at a MARK is READ, LAID ASIDE (see below), HIDDEN or DROPPED": the MARK
   * goes over one of each at once.
   */
  private static void markGoesOverEachSort() {
    TailraceBroker broker = oneOfEachSort();
    CHECK.due("it is held", broker.mark(0, 0), 0);
    CHECK.dueStates("before", broker, 0, 0, "1004310");
    CHECK.due("over read, hidden, dropped, laid aside, read", broker.ack(0, 0, 0), 5);
    CHECK.due("the cursor is ahead", broker.cursor(0, 0), 6);
    CHECK.due("over the last that is out", broker.ack(0, 0, 5), 6);
  }

  /** OUT, HIDDEN, DROPPED, LAID ASIDE, READ, OUT, never given. */
  private static TailraceBroker oneOfEachSort() {
    TailraceBroker broker = new TailraceBroker();
    broker.topic(1, true);
    broker.send(0, 0, 0, -1, 0);
    broker.begin(1);
    broker.send(0, 1, 0, -1, 0);
    broker.end(1, false);
    int[] keys = {5, -1, 5, -1, -1};
    for (int number = 1; number <= keys.length; number++) {
      broker.send(0, 0, number, keys[number - 1], 0);
    }
    broker.clean(0);
    broker.setPatience(1, 50);
    broker.group(0);
    broker.join(0, 0, true);
    broker.take(0, 0);
    for (int clock = 1; clock <= 5; clock += 2) {
      CHECK.due("the one to lay aside", broker.take(0, 0), 3);
      broker.nack(0, 0, 3);
      broker.setClock(clock);
    }
    CHECK.due("the one to read", broker.take(0, 0), 4);
    broker.ack(0, 0, 4);
    CHECK.due("one behind it", broker.take(0, 0), 5);
    return broker;
  }

  /** It stays at what is OUT, to be given AGAIN, never given, as never given, or PENDING. */
  private static void markStopsAtEachOther() {
    TailraceBroker broker = Brokers.oneReader(2);
    CHECK.due("never given", broker.mark(0, 0), 0);
    broker.take(0, 0);
    broker.take(0, 0);
    CHECK.due("out", broker.ack(0, 0, 1), 0);
    broker.nack(0, 0, 0);
    CHECK.due("again", broker.mark(0, 0), 0);
    broker.setClock(2);
    broker.take(0, 0);
    broker.join(0, 0, false);
    CHECK.due("as never given", broker.mark(0, 0), 0);
    broker.join(0, 0, true);
    broker.take(0, 0);
    broker.begin(1);
    broker.send(0, 1, 0, -1, 0);
    CHECK.due("pending", broker.ack(0, 0, 0), 2);
    broker.end(1, true);
    CHECK.due("done", broker.mark(0, 0), 2);
  }

  private static void markReachesTheEnd() {
    TailraceBroker broker = Brokers.oneReader(1);
    broker.take(0, 0);
    CHECK.due("at the end", broker.ack(0, 0, 0), 1);
    broker.setClock(9999);
    CHECK.due("it stays there", broker.mark(0, 0), 1);
    Brokers.sendPlain(broker, 0, 1, 1);
    CHECK.due("at what came then", broker.mark(0, 0), 1);
    CHECK.due("which is given", broker.take(0, 0), 1);
    broker.setKeep(0, 1);
    broker.begin(1);
    broker.send(0, 1, 0, -1, 0);
    broker.send(0, 1, 1, -1, 0);
    CHECK.due("at what is pending", broker.ack(0, 0, 1), 2);
    broker.end(1, false);
    duePlace("over all that is hidden", broker, 0, 4, 4);
  }

  /** "and a CURSOR is never below its MARK" */
  private static void cursorIsNeverBelowTheMark() {
    TailraceBroker broker = Brokers.oneReader(4);
    broker.take(0, 0);
    broker.take(0, 0);
    broker.take(0, 0);
    broker.ack(0, 0, 1);
    broker.ack(0, 0, 2);
    broker.join(0, 0, false);
    broker.join(0, 1, true);
    duePlace("both at what is as never given", broker, 0, 0, 0);
    broker.take(0, 1);
    duePlace("the cursor is behind it", broker, 0, 0, 1);
    broker.ack(0, 0, 0);
    duePlace("the mark goes over what is read", broker, 0, 3, 3);
    broker.nack(0, 0, broker.take(0, 1));
    broker.join(0, 1, false);
    broker.join(0, 2, true);
    duePlace("again, at the cursor", broker, 0, 3, 3);
    broker.setClock(2);
    broker.take(0, 2);
    duePlace("the cursor stays for what is given again", broker, 0, 3, 3);
    broker.ack(0, 0, 3);
    duePlace("at the end", broker, 0, 4, 4);
    TailraceBroker untouched = Brokers.oneReader(2);
    untouched.setKeep(0, 200);
    untouched.setClock(200);
    duePlace("over what is dropped", untouched, 0, 2, 2);
  }

  /** "There are 6 READERS, 0 to 5; each can be in each GROUP." */
  private static void readersAreSixInEachGroup() {
    TailraceBroker broker = new TailraceBroker();
    broker.topic(4, false);
    for (int group = 0; group < 4; group++) {
      int of = broker.group(0);
      for (int reader = 5; reader >= 0; reader--) {
        CHECK.due("it comes", broker.join(group, reader, true), false);
        CHECK.due("it is in it", broker.join(group, reader, true), true);
        CHECK.due("it may ask", broker.take(group, reader), -1);
      }
      CHECK.noIndex("reader -1", broker, () -> broker.join(of, -1, true));
      CHECK.noIndex("reader 6", broker, () -> broker.join(of, 6, true));
      CHECK.noIndex("reader -1 goes", broker, () -> broker.join(of, -1, false));
      CHECK.noIndex("reader 6 goes", broker, () -> broker.join(of, 6, false));
    }
    CHECK.noIndex("no such group", broker, () -> broker.join(4, 0, true));
    CHECK.noIndex("no such group", broker, () -> broker.join(-1, 0, true));
  }

  /** "the first p % r READERS get p / r + 1 PARTITIONS, the others p / r, one behind the other" */
  private static void sharesOfEachCount() {
    String[][] want = {
      {"-", "0", "0", "0", "0", "0", "0"},
      {"--", "00", "01", "01", "01", "01", "01"},
      {"---", "000", "001", "012", "012", "012", "012"},
      {"----", "0000", "0011", "0012", "0123", "0123", "0123"}
    };
    for (int partitions = 1; partitions <= 4; partitions++) {
      TailraceBroker broker = new TailraceBroker();
      broker.topic(partitions, false);
      broker.group(0);
      for (int readers = 0; readers <= 6; readers++) {
        CHECK.dueText(readers + " of them", shared(broker, partitions),
            want[partitions - 1][readers]);
        if (readers < 6) {
          broker.join(0, readers, true);
        }
      }
      for (int readers = 5; readers >= 0; readers--) {
        broker.join(0, readers, false);
        CHECK.dueText("back to " + readers, shared(broker, partitions),
            want[partitions - 1][readers]);
      }
    }
  }

  private static String shared(TailraceBroker broker, int partitions) {
    StringBuilder shared = new StringBuilder();
    for (int partition = 0; partition < partitions; partition++) {
      int reader = broker.reader(0, partition);
      shared.append(reader == -1 ? "-" : String.valueOf(reader));
    }
    return shared.toString();
  }

  /** "with the READERS of the GROUP by their numbers" */
  private static void sharesGoByNumbersNotByComing() {
    TailraceBroker broker = new TailraceBroker();
    broker.topic(4, false);
    broker.group(0);
    int[] coming = {5, 0, 3, 4, 1, 2};
    String[] want = {"5555", "0055", "0035", "0345", "0134", "0123"};
    for (int i = 0; i < coming.length; i++) {
      broker.join(0, coming[i], true);
      CHECK.dueText("as " + coming[i] + " came", shared(broker, 4), want[i]);
    }
    broker.join(0, 0, false);
    CHECK.dueText("as the first went", shared(broker, 4), "1234");
    broker.join(0, 5, false);
    CHECK.dueText("as the last went, that had none", shared(broker, 4), "1234");
  }

  /** One that comes and is in it, or goes and is not, changes nothing. */
  private static void readersThatStayChangeNothing() {
    TailraceBroker broker = Brokers.some();
    CHECK.dueUnchanged("comes", broker, () -> broker.join(0, 1, true) ? 1 : 0, 1);
    CHECK.dueUnchanged("comes", broker, () -> broker.join(0, 4, true) ? 1 : 0, 1);
    CHECK.dueUnchanged("comes", broker, () -> broker.join(1, 5, true) ? 1 : 0, 1);
    CHECK.dueUnchanged("goes", broker, () -> broker.join(0, 0, false) ? 1 : 0, 0);
    CHECK.dueUnchanged("goes", broker, () -> broker.join(0, 5, false) ? 1 : 0, 0);
    CHECK.dueUnchanged("goes", broker, () -> broker.join(1, 1, false) ? 1 : 0, 0);
  }

  /** "NOTHING without one" */
  private static void noReaderAtAll() {
    TailraceBroker broker = Brokers.keyedRows(4, false, 4);
    broker.group(0);
    CHECK.dueText("at first", shared(broker, 4), "----");
    for (int reader = 0; reader < 6; reader++) {
      int own = reader;
      CHECK.noState("it is not in it", broker, () -> broker.take(0, own));
      CHECK.due("it would take", broker.wouldTake(0, reader), -1);
      CHECK.due("it would read", broker.wouldRead(0, reader, 3), reader);
    }
    broker.join(0, 3, true);
    CHECK.due("the only one would go", broker.wouldRead(0, 3, 3), -1);
    broker.join(0, 3, false);
    CHECK.dueText("as it went", shared(broker, 4), "----");
  }

  /** "another READER than before (also one in place of none, or none in place of one)" */
  private static void anotherReaderOrNone() {
    TailraceBroker broker = Brokers.keyedRows(2, false, 6);
    broker.group(0);
    broker.join(0, 0, true);
    for (int times = 0; times < 6; times++) {
      broker.take(0, 0);
    }
    broker.ack(0, 0, 1);
    broker.nack(0, 0, 2);
    broker.join(0, 1, true);
    CHECK.dueStates("that which has the same", broker, 0, 0, "132");
    CHECK.dueStates("that which has another", broker, 0, 1, "000");
    CHECK.due("the cursor of the same", broker.cursor(0, 0), 3);
    CHECK.due("the cursor of another", broker.cursor(0, 1), 0);
    broker.take(0, 1);
    broker.join(0, 0, false);
    CHECK.dueStates("another", broker, 0, 0, "032");
    CHECK.dueStates("the same", broker, 0, 1, "100");
    CHECK.due("the cursor of another", broker.cursor(0, 0), 0);
    CHECK.due("the cursor of the same", broker.cursor(0, 1), 1);
    broker.join(0, 1, false);
    CHECK.dueStates("none in place of one", broker, 0, 1, "000");
    CHECK.due("its cursor", broker.cursor(0, 1), 0);
    CHECK.due("its tries", broker.tries(0, 1, 0), 0);
    broker.join(0, 1, true);
    CHECK.due("one in place of none", broker.take(0, 1), 0);
  }

  /** "or MESSAGE": each OFFSET from 0 to below the END has one, a DROPPED or HIDDEN one, too. */
  private static void statesAtTheFirstAndTheLastOffset() {
    TailraceBroker broker = Brokers.oneReader(0);
    CHECK.noIndex("a state of none", broker, () -> broker.state(0, 0, 0));
    CHECK.noIndex("tries of none", broker, () -> broker.tries(0, 0, 0));
    Brokers.sendPlain(broker, 0, 0, 79);
    CHECK.noIndex("the 80th is not there", broker, () -> broker.state(0, 0, 79));
    broker.begin(0);
    Brokers.sendPlain(broker, 0, 79, 1);
    broker.end(0, false);
    CHECK.due("the last one, hidden", broker.state(0, 0, 79), 0);
    CHECK.due("its tries", broker.tries(0, 0, 79), 0);
    CHECK.noIndex("behind it", broker, () -> broker.state(0, 0, 80));
    CHECK.noIndex("behind it", broker, () -> broker.tries(0, 0, 80));
    CHECK.noIndex("before the first", broker, () -> broker.state(0, 0, -1));
    CHECK.noIndex("before the first", broker, () -> broker.tries(0, 0, -1));
    broker.take(0, 0);
    CHECK.due("the first one", broker.state(0, 0, 0), 1);
    CHECK.due("its tries", broker.tries(0, 0, 0), 1);
    broker.setKeep(0, 1);
    broker.setClock(1);
    CHECK.due("the first one, dropped", broker.state(0, 0, 0), 0);
    CHECK.due("its tries", broker.tries(0, 0, 0), 0);
  }

  /** "The LAG": from the MARK on, up to the STABLE end. */
  private static void lagNoneAndAll() {
    TailraceBroker broker = Brokers.oneReader(0);
    CHECK.due("of none", broker.lag(0, 0), 0);
    Brokers.sendPlain(broker, 0, 0, 79);
    broker.begin(1);
    broker.send(0, 1, 0, -1, 0);
    CHECK.due("without the pending one", broker.lag(0, 0), 79);
    broker.end(1, true);
    CHECK.due("of all", broker.lag(0, 0), 80);
    broker.seek(0, 0, 79);
    CHECK.due("of the last", broker.lag(0, 0), 1);
    broker.take(0, 0);
    CHECK.due("with what is out", broker.lag(0, 0), 1);
    broker.nack(0, 0, 79);
    CHECK.due("with what is again", broker.lag(0, 0), 1);
    broker.setClock(2);
    broker.take(0, 0);
    broker.ack(0, 0, 79);
    CHECK.due("at the end", broker.lag(0, 0), 0);
    broker.seek(0, 0, 0);
    broker.setKeep(0, 2);
    broker.setClock(3);
    CHECK.due("of none but dropped ones", broker.lag(0, 0), 0);
  }

  /** "SEEN MESSAGES that are not DROPPED", "neither READ nor LAID ASIDE" */
  private static void lagOfWhatIsKeptAlone() {
    TailraceBroker broker = oneOfEachSort();
    CHECK.due("two that are out, one never given", broker.lag(0, 0), 3);
    broker.seek(0, 0, 0);
    CHECK.due("all but the hidden and the dropped one", broker.lag(0, 0), 5);
    broker.begin(2);
    broker.send(0, 2, 0, -1, 0);
    CHECK.due("without a pending one", broker.lag(0, 0), 5);
    broker.end(2, false);
    CHECK.due("without a hidden one", broker.lag(0, 0), 5);
    broker.send(0, 0, 6, -1, 0);
    CHECK.due("with one behind it", broker.lag(0, 0), 6);
  }

  /** "how many MESSAGES were LAID ASIDE by it, and still are" */
  private static void asideNoneAndAll() {
    TailraceBroker broker = Brokers.keyedRows(4, false, 4);
    broker.group(0);
    broker.group(0);
    broker.join(0, 5, true);
    CHECK.due("none", broker.aside(0), 0);
    for (int times = 1; times <= 4; times++) {
      CHECK.due("none of the others", broker.aside(0), times - 1);
      Brokers.layAside(broker, 0, 5);
    }
    CHECK.due("all", broker.aside(0), 4);
    CHECK.due("none of the other group", broker.aside(1), 0);
    CHECK.due("nothing is left", broker.take(0, 5), -1);
    broker.seek(0, 3, 1);
    CHECK.due("below where it seeks they are yet", broker.aside(0), 4);
    broker.seek(0, 3, 0);
    CHECK.due("from where it seeks they are not", broker.aside(0), 3);
  }

  /** "0 without any" */
  private static void meanTriesWithoutAny() {
    TailraceBroker broker = Brokers.oneReader(0);
    CHECK.dueDouble("without a message", broker.meanTries(0), 0.0);
    Brokers.sendPlain(broker, 0, 0, 3);
    CHECK.dueDouble("never given", broker.meanTries(0), 0.0);
    broker.take(0, 0);
    CHECK.dueDouble("out", broker.meanTries(0), 0.0);
    broker.nack(0, 0, 0);
    CHECK.dueDouble("again", broker.meanTries(0), 0.0);
    broker.seek(0, 0, 1);
    Brokers.layAside(broker, 0, 0);
    CHECK.dueDouble("laid aside", broker.meanTries(0), 0.0);
    broker.take(0, 0);
    broker.ack(0, 0, 2);
    CHECK.dueDouble("read", broker.meanTries(0), 1.0);
    broker.seek(0, 0, 2);
    CHECK.dueDouble("as never given", broker.meanTries(0), 0.0);
  }

  /** "the mean of the TRIES of all MESSAGES that are READ by it now, DROPPED or not, not cut" */
  private static void meanTriesAtItsEdges() {
    TailraceBroker broker = Brokers.oneReader(80);
    for (int tries = 1; tries <= 3; tries++) {
      broker.take(0, 0);
      if (tries < 3) {
        broker.nack(0, 0, 0);
        broker.setClock(20 * tries);
      }
    }
    broker.ack(0, 0, 0);
    CHECK.dueDouble("the greatest", broker.meanTries(0), 3.0);
    broker.ack(0, 0, broker.take(0, 0));
    CHECK.dueDouble("a whole one", broker.meanTries(0), 2.0);
    broker.ack(0, 0, broker.take(0, 0));
    CHECK.dueDouble("not cut", broker.meanTries(0), 5.0 / 3);
    for (int offset = 3; offset < 80; offset++) {
      broker.ack(0, 0, broker.take(0, 0));
    }
    CHECK.dueDouble("of all", broker.meanTries(0), 82.0 / 80);
    broker.setKeep(0, 1);
    broker.setClock(9999);
    CHECK.dueDouble("of all that are dropped", broker.meanTries(0), 82.0 / 80);
  }

  private static void meanTriesOfAllPartitions() {
    TailraceBroker broker = Brokers.keyedRows(4, false, 4);
    broker.group(0);
    broker.join(0, 0, true);
    broker.nack(0, 0, broker.take(0, 0));
    broker.setClock(2);
    for (int partition = 0; partition < 4; partition++) {
      CHECK.due("one of each", broker.take(0, 0), 100 * partition);
      broker.ack(0, partition, 0);
    }
    CHECK.dueDouble("2, 1, 1 and 1", broker.meanTries(0), 1.25);
  }
}
