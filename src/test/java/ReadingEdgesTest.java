/** The edges of giving, acking, nacking and seeking in "3. Groups": a sentence each. */
public final class ReadingEdgesTest {
  private static final Check CHECK = new Check("ReadingEdgesTest");

  private ReadingEdgesTest() {
  }

  public static void main(String[] arguments) {
    nothingToGive();
    firstPartitionThatHasOne();
    lastOffsetOfTheLastPartition();
    readerWithoutAPartition();
    timeNotAboveTheClock();
    againBeforeNever();
    againHasTheSmallestOffset();
    cursorPassesWhatWasGiven();
    triesCountFromZero();
    ackOnlyWhatIsOut();
    ackOfWhatIsNoLongerOut();
    nackTimesGrow();
    nackAtTheEdgesOfTheDelay();
    nackAtTheLastClock();
    nackLaysAsideAtThree();
    seekFromTheStartToTheEnd();
    seekInAnEmptyPartition();
    seekWhereTheStartIsTheEnd();
    seekForgets();
    seekOnForgetsTheFirst();
    seekToWhatIsNotKept();
    nextTimeWithoutAny();
    nextTimeOfAgain();
    nextTimeOfOut();
    nextTimeIsTheLeast();
    wouldTakeIsWhatTakeReturns();
    CHECK.end();
  }

  /** "NOTHING if nothing is": no row is written, and nothing else happens. */
  private static void nothingToGive() {
    TailraceBroker broker = Brokers.oneReader(0);
    CHECK.dueUnchanged("without a message", broker, () -> broker.take(0, 0), -1);
    broker.begin(0);
    Brokers.sendPlain(broker, 0, 0, 1);
    CHECK.dueUnchanged("pending alone", broker, () -> broker.take(0, 0), -1);
    broker.end(0, false);
    CHECK.dueUnchanged("hidden alone", broker, () -> broker.take(0, 0), -1);
    Brokers.sendPlain(broker, 0, 1, 1);
    CHECK.due("one", broker.take(0, 0), 1);
    CHECK.dueUnchanged("out alone", broker, () -> broker.take(0, 0), -1);
    broker.nack(0, 0, 1);
    CHECK.dueUnchanged("again alone, before its time", broker, () -> broker.take(0, 0), -1);
    broker.setClock(2);
    broker.take(0, 0);
    broker.ack(0, 0, 1);
    CHECK.dueUnchanged("read alone", broker, () -> broker.take(0, 0), -1);
    broker.setKeep(0, 1);
    Brokers.sendPlain(broker, 0, 2, 1);
    broker.setClock(3);
    CHECK.dueUnchanged("dropped alone", broker, () -> broker.take(0, 0), -1);
    Brokers.sendPlain(broker, 0, 3, 1);
    broker.setKeep(0, 0);
    Brokers.layAside(broker, 0, 0);
    CHECK.due("one is laid aside", broker.state(0, 0, 3), 4);
    CHECK.dueUnchanged("laid aside alone", broker, () -> broker.take(0, 0), -1);
  }

  /** "of its PARTITIONS in the GROUP the first one that has one to GIVE is taken" */
  private static void firstPartitionThatHasOne() {
    TailraceBroker broker = new TailraceBroker();
    broker.topic(4, false);
    broker.group(0);
    broker.join(0, 2, true);
    broker.send(0, 0, 0, 3, 0);
    CHECK.due("the last one alone", broker.wouldTake(0, 2), 300);
    broker.send(0, 0, 1, 2, 0);
    CHECK.due("the one before it", broker.wouldTake(0, 2), 200);
    broker.send(0, 0, 2, 0, 0);
    CHECK.due("the first", broker.wouldTake(0, 2), 0);
    broker.join(0, 1, true);
    CHECK.due("of those that it has", broker.take(0, 2), 200);
    CHECK.due("the other one's", broker.take(0, 1), 0);
    CHECK.due("none of another's", broker.take(0, 1), -1);
    CHECK.due("the last one", broker.take(0, 2), 300);
  }

  /** "100 * PARTITION + OFFSET" */
  private static void lastOffsetOfTheLastPartition() {
    TailraceBroker broker = new TailraceBroker();
    broker.topic(4, false);
    for (int number = 0; number < 80; number++) {
      broker.send(0, 0, number, 3, 0);
    }
    broker.group(0);
    broker.join(0, 5, true);
    CHECK.due("the first", broker.wouldTake(0, 5), 300);
    broker.seek(0, 3, 79);
    CHECK.due("the last", broker.take(0, 5), 379);
    CHECK.due("the cursor is at the end", broker.cursor(0, 3), 80);
    CHECK.due("the row's partition", broker.row(0, 2), 3);
    CHECK.due("the row's offset", broker.row(0, 3), 79);
    CHECK.due("the mark is at the end", broker.ack(0, 3, 79), 80);
    CHECK.due("nothing behind it", broker.take(0, 5), -1);
  }

  /** One that is in the GROUP but has no PARTITION: p / r is 0. */
  private static void readerWithoutAPartition() {
    TailraceBroker broker = Brokers.oneReader(1);
    broker.join(0, 1, true);
    CHECK.dueUnchanged("in it, without one", broker, () -> broker.take(0, 1), -1);
    CHECK.due("it would take", broker.wouldTake(0, 1), -1);
    CHECK.noState("not in it", broker, () -> broker.take(0, 2));
    CHECK.due("it would take nothing", broker.wouldTake(0, 2), -1);
    CHECK.due("that which has it", broker.take(0, 0), 0);
  }

  /** "whose TIME is not above the CLOCK" */
  private static void timeNotAboveTheClock() {
    TailraceBroker broker = Brokers.oneReader(1);
    broker.setPatience(20, 50);
    broker.take(0, 0);
    CHECK.due("its time", broker.nack(0, 0, 0), 20);
    CHECK.due("long before", broker.take(0, 0), -1);
    broker.setClock(19);
    CHECK.due("1 tick before", broker.take(0, 0), -1);
    broker.setClock(20);
    CHECK.due("at its time", broker.wouldTake(0, 0), 0);
    broker.setClock(21);
    CHECK.due("1 tick behind", broker.take(0, 0), 0);
  }

  /** "first of those ... that are to be given AGAIN (the CURSOR stays then); otherwise" */
  private static void againBeforeNever() {
    TailraceBroker broker = Brokers.oneReader(3);
    broker.take(0, 0);
    broker.take(0, 0);
    broker.nack(0, 0, 1);
    CHECK.due("before its time the next one", broker.wouldTake(0, 0), 2);
    broker.setClock(2);
    CHECK.due("at its time", broker.take(0, 0), 1);
    CHECK.due("the cursor stays", broker.cursor(0, 0), 2);
    CHECK.due("then the next one", broker.take(0, 0), 2);
    CHECK.due("the cursor goes on", broker.cursor(0, 0), 3);
  }

  private static void againHasTheSmallestOffset() {
    TailraceBroker broker = Brokers.oneReader(3);
    for (int times = 0; times < 3; times++) {
      broker.take(0, 0);
    }
    for (int offset = 2; offset >= 0; offset--) {
      broker.setPatience(offset + 1, 50);
      CHECK.due("its time", broker.nack(0, 0, offset), offset + 1);
    }
    broker.setClock(3);
    for (int offset = 0; offset < 3; offset++) {
      CHECK.due("by offsets", broker.take(0, 0), offset);
    }
    broker.nack(0, 0, 2);
    broker.setPatience(20, 50);
    broker.nack(0, 0, 0);
    broker.setClock(9);
    CHECK.due("of those at their time", broker.take(0, 0), 2);
  }

  /** "never given to the GROUP (or is as never given); the CURSOR is behind that then" */
  private static void cursorPassesWhatWasGiven() {
    TailraceBroker broker = Brokers.oneReader(5);
    for (int times = 0; times < 4; times++) {
      broker.take(0, 0);
    }
    broker.ack(0, 0, 1);
    broker.nack(0, 0, 2);
    broker.join(0, 0, false);
    broker.join(0, 0, true);
    CHECK.dueStates("before", broker, 0, 0, "03200");
    CHECK.due("at the mark", broker.take(0, 0), 0);
    CHECK.due("behind it", broker.cursor(0, 0), 1);
    CHECK.due("over read and again", broker.take(0, 0), 3);
    CHECK.due("behind that", broker.cursor(0, 0), 4);
    CHECK.due("the last", broker.take(0, 0), 4);
    CHECK.due("at the end", broker.cursor(0, 0), 5);
  }

  /** "its TRIES are 1 more (0 of what is as never given)" */
  private static void triesCountFromZero() {
    TailraceBroker broker = Brokers.oneReader(1);
    CHECK.due("never given", broker.tries(0, 0, 0), 0);
    for (int tries = 1; tries <= 3; tries++) {
      broker.take(0, 0);
      CHECK.due("given", broker.tries(0, 0, 0), tries);
      if (tries < 3) {
        broker.nack(0, 0, 0);
        CHECK.due("nacked", broker.tries(0, 0, 0), tries);
        broker.setClock(5 * tries);
      }
    }
    broker.seek(0, 0, 0);
    CHECK.due("as never given", broker.tries(0, 0, 0), 0);
    broker.take(0, 0);
    CHECK.due("given anew", broker.tries(0, 0, 0), 1);
    CHECK.due("not laid aside", broker.nack(0, 0, 0), 12);
  }

  /** "if the OFFSET is not OUT": of each other state, and where there is no MESSAGE. */
  private static void ackOnlyWhatIsOut() {
    TailraceBroker broker = Brokers.some();
    CHECK.dueStates("of group 0", broker, 0, 0, "130");
    CHECK.dueStates("again and never given", broker, 0, 1, "20");
    CHECK.dueStates("of group 1", broker, 1, 0, "4100");
    int[][] wrong = {{0, 0, 1}, {0, 0, 2}, {0, 0, 3}, {0, 0, -1}, {0, 1, 0}, {0, 1, 1}, {0, 1, 2},
      {0, 2, 0}, {1, 0, 0}, {1, 0, 2}, {1, 0, 4}, {1, 0, 80}, {1, 0, Integer.MAX_VALUE}};
    for (int[] at : wrong) {
      CHECK.noState("ack", broker, () -> broker.ack(at[0], at[1], at[2]));
      CHECK.noState("nack", broker, () -> broker.nack(at[0], at[1], at[2]));
    }
    int[][] nowhere = {{0, 3, 0}, {0, -1, 0}, {1, 1, 0}, {2, 0, 0}, {-1, 0, 0}, {2, 9, -1}};
    for (int[] at : nowhere) {
      CHECK.noIndex("ack", broker, () -> broker.ack(at[0], at[1], at[2]));
      CHECK.noIndex("nack", broker, () -> broker.nack(at[0], at[1], at[2]));
    }
    CHECK.due("one that is out", broker.ack(0, 0, 0), 2);
    CHECK.due("another one", broker.ack(1, 0, 1), 2);
  }

  /** "as never given": by seeking, another READER, cleaning, and dropping. */
  private static void ackOfWhatIsNoLongerOut() {
    TailraceBroker broker = new TailraceBroker();
    broker.topic(1, true);
    broker.send(0, 0, 0, 4, 0);
    broker.send(0, 0, 1, 4, 0);
    broker.group(0);
    broker.join(0, 0, true);
    broker.take(0, 0);
    broker.seek(0, 0, 0);
    dueNotOut("it sought", broker, 0);
    broker.take(0, 0);
    broker.join(0, 0, false);
    dueNotOut("its reader went", broker, 0);
    broker.join(0, 0, true);
    broker.take(0, 0);
    broker.clean(0);
    dueNotOut("it was cleaned", broker, 0);
    broker.take(0, 0);
    broker.setKeep(0, 1);
    broker.setClock(1);
    dueNotOut("it was dropped", broker, 1);
  }

  private static void dueNotOut(String what, TailraceBroker broker, int offset) {
    CHECK.due(what + ", state", broker.state(0, 0, offset), 0);
    CHECK.noState(what + ", ack", broker, () -> broker.ack(0, 0, offset));
    CHECK.noState(what + ", nack", broker, () -> broker.nack(0, 0, offset));
  }

  /** "with the TIME CLOCK + DELAY * 2^(TRIES - 1)" */
  private static void nackTimesGrow() {
    TailraceBroker broker = Brokers.oneReader(1);
    broker.setClock(1);
    broker.take(0, 0);
    CHECK.due("after 1 try", broker.nack(0, 0, 0), 1 + 2);
    broker.setClock(3);
    broker.take(0, 0);
    CHECK.due("after 2 tries", broker.nack(0, 0, 0), 3 + 4);
    broker.setClock(7);
    broker.take(0, 0);
    CHECK.due("after 3 tries", broker.nack(0, 0, 0), -1);
  }

  /** "DELAY is 1 to 20" */
  private static void nackAtTheEdgesOfTheDelay() {
    for (int delay : new int[] {1, 20}) {
      TailraceBroker broker = Brokers.oneReader(1);
      broker.setPatience(delay, 50);
      broker.take(0, 0);
      CHECK.due("after 1 try", broker.nack(0, 0, 0), delay);
      broker.setClock(delay);
      broker.take(0, 0);
      CHECK.due("after 2 tries", broker.nack(0, 0, 0), 3 * delay);
    }
  }

  /** The TIME may be above the last CLOCK: then it is never given AGAIN. */
  private static void nackAtTheLastClock() {
    TailraceBroker broker = Brokers.oneReader(2);
    broker.setPatience(20, 50);
    broker.take(0, 0);
    broker.nack(0, 0, 0);
    broker.setClock(9999);
    broker.take(0, 0);
    CHECK.due("after 2 tries", broker.nack(0, 0, 0), 10039);
    CHECK.due("the next time", broker.nextTime(0), 10039);
    CHECK.due("the other one", broker.take(0, 0), 1);
    CHECK.due("after 1 try", broker.nack(0, 0, 1), 10019);
    CHECK.due("none any more", broker.take(0, 0), -1);
  }

  /** "but if it had 3 TRIES, it is LAID ASIDE" */
  private static void nackLaysAsideAtThree() {
    TailraceBroker broker = Brokers.oneReader(1);
    for (int tries = 1; tries <= 2; tries++) {
      broker.take(0, 0);
      broker.nack(0, 0, 0);
      CHECK.due("not yet", broker.state(0, 0, 0), 2);
      CHECK.due("none", broker.aside(0), 0);
      broker.setClock(5 * tries);
    }
    broker.take(0, 0);
    CHECK.due("-1 then", broker.nack(0, 0, 0), -1);
    CHECK.due("laid aside", broker.state(0, 0, 0), 4);
    CHECK.due("one", broker.aside(0), 1);
    CHECK.due("the mark", broker.mark(0, 0), 1);
    CHECK.noState("it is not out", broker, () -> broker.nack(0, 0, 0));
    broker.setClock(9999);
    CHECK.due("it stays so", broker.take(0, 0), -1);
  }

  /** "if offset is below the START, or above the END" */
  private static void seekFromTheStartToTheEnd() {
    TailraceBroker broker = Brokers.oneReader(3);
    CHECK.noArgument("below the start of 0", broker, () -> broker.seek(0, 0, -1));
    CHECK.noArgument("the least", broker, () -> broker.seek(0, 0, Integer.MIN_VALUE));
    CHECK.noArgument("above the end", broker, () -> broker.seek(0, 0, 4));
    CHECK.noArgument("the greatest", broker, () -> broker.seek(0, 0, Integer.MAX_VALUE));
    CHECK.due("the end", broker.seek(0, 0, 3), 0);
    CHECK.due("the start", broker.seek(0, 0, 0), 3);
    CHECK.due("the same", broker.seek(0, 0, 0), 0);
    broker.setKeep(0, 1);
    broker.setClock(1);
    Brokers.sendPlain(broker, 0, 3, 2);
    CHECK.noArgument("below a start of 3", broker, () -> broker.seek(0, 0, 2));
    CHECK.noArgument("the first of all", broker, () -> broker.seek(0, 0, 0));
    CHECK.noArgument("above an end of 5", broker, () -> broker.seek(0, 0, 6));
    CHECK.due("the end", broker.seek(0, 0, 5), 3);
    CHECK.due("the start", broker.seek(0, 0, 3), 5);
    CHECK.noIndex("a group before the offset", broker, () -> broker.seek(1, 0, 6));
    CHECK.noIndex("a partition before the offset", broker, () -> broker.seek(0, 1, -1));
  }

  private static void seekInAnEmptyPartition() {
    TailraceBroker broker = Brokers.oneReader(0);
    CHECK.due("its start and end", broker.seek(0, 0, 0), 0);
    CHECK.noArgument("below", broker, () -> broker.seek(0, 0, -1));
    CHECK.noArgument("above", broker, () -> broker.seek(0, 0, 1));
    Brokers.sendPlain(broker, 0, 0, 1);
    CHECK.due("what comes is given", broker.take(0, 0), 0);
  }

  private static void seekWhereTheStartIsTheEnd() {
    TailraceBroker broker = Brokers.oneReader(2);
    broker.setKeep(0, 1);
    broker.setClock(1);
    CHECK.due("there", broker.seek(0, 0, 2), 2);
    CHECK.noArgument("below", broker, () -> broker.seek(0, 0, 1));
    CHECK.noArgument("above", broker, () -> broker.seek(0, 0, 3));
  }

  /** "from there on all is as never given, and so is what is OUT or to be given AGAIN below it" */
  private static void seekForgets() {
    String[] want = {"0000000", "4000000", "4000000", "4030000", "4030000", "4030400", "4030400",
      "4030400"};
    for (int offset = 0; offset <= 7; offset++) {
      TailraceBroker broker = oneOfEach();
      CHECK.dueStates("before", broker, 0, 0, "4132410");
      CHECK.due("the mark before", broker.seek(0, 0, offset), 1);
      CHECK.dueStates("to " + offset, broker, 0, 0, want[offset]);
      CHECK.due("the mark", broker.mark(0, 0), offset);
      CHECK.due("the cursor", broker.cursor(0, 0), offset);
      for (int at = 0; at < 7; at++) {
        int tries = want[offset].charAt(at) == '0' ? 0 : at == 2 ? 1 : 3;
        CHECK.due("tries of " + at, broker.tries(0, 0, at), tries);
      }
    }
  }

  /** LAID ASIDE, OUT, READ, AGAIN, LAID ASIDE, OUT, never given. */
  private static TailraceBroker oneOfEach() {
    TailraceBroker broker = Brokers.oneReader(7);
    Brokers.layAside(broker, 0, 0);
    broker.setPatience(1, 50);
    for (int times = 0; times < 4; times++) {
      broker.take(0, 0);
    }
    broker.ack(0, 0, 2);
    for (int tries = 1; tries <= 2; tries++) {
      broker.nack(0, 0, 4);
      broker.setClock(100 + 3 * tries);
      broker.take(0, 0);
    }
    broker.nack(0, 0, 4);
    broker.nack(0, 0, 3);
    broker.take(0, 0);
    return broker;
  }

  /** "what is OUT or to be given AGAIN below it": from the OFFSET 0 on. */
  private static void seekOnForgetsTheFirst() {
    TailraceBroker broker = Brokers.oneReader(2);
    broker.take(0, 0);
    broker.seek(0, 0, 1);
    CHECK.dueStates("what was out", broker, 0, 0, "00");
    broker.seek(0, 0, 0);
    broker.take(0, 0);
    broker.nack(0, 0, 0);
    broker.seek(0, 0, 2);
    CHECK.dueStates("what was again", broker, 0, 0, "00");
    CHECK.due("no time", broker.nextTime(0), -1);
    CHECK.due("none is nacked", broker.setClock(9999), 0);
  }

  /** "Whatever happens": the MARK that is set goes on over what is DROPPED or HIDDEN. */
  private static void seekToWhatIsNotKept() {
    int[] want = {1, 1, 4, 4, 4, 6, 6};
    for (int offset = 0; offset <= 6; offset++) {
      TailraceBroker broker = new TailraceBroker();
      broker.topic(1, true);
      int[] keys = {7, 8, 7, -1, 7, -1};
      boolean[] isHidden = {false, false, false, true, false, true};
      for (int number = 0; number < keys.length; number++) {
        broker.begin(0);
        broker.send(0, 0, number, keys[number], 0);
        broker.end(0, !isHidden[number]);
      }
      broker.group(0);
      broker.clean(0);
      broker.seek(0, 0, offset);
      CHECK.due("the mark from " + offset, broker.mark(0, 0), want[offset]);
      CHECK.due("the cursor from " + offset, broker.cursor(0, 0), want[offset]);
      CHECK.due("the mark before", broker.seek(0, 0, 6), want[offset]);
    }
  }

  /** "-1 without any" */
  private static void nextTimeWithoutAny() {
    TailraceBroker broker = Brokers.oneReader(0);
    CHECK.due("without a message", broker.nextTime(0), -1);
    Brokers.sendPlain(broker, 0, 0, 3);
    CHECK.due("never given", broker.nextTime(0), -1);
    Brokers.layAside(broker, 0, 0);
    CHECK.due("laid aside", broker.nextTime(0), -1);
    broker.ack(0, 0, broker.take(0, 0));
    CHECK.due("read", broker.nextTime(0), -1);
    broker.take(0, 0);
    broker.join(0, 0, false);
    CHECK.due("as never given", broker.nextTime(0), -1);
    broker.join(0, 0, true);
    broker.take(0, 0);
    broker.setKeep(0, 1);
    broker.setClock(101);
    CHECK.due("dropped", broker.nextTime(0), -1);
  }

  /** "its TIME (the CLOCK, if that is greater)" */
  private static void nextTimeOfAgain() {
    TailraceBroker broker = Brokers.oneReader(1);
    broker.setPatience(5, 50);
    broker.take(0, 0);
    broker.nack(0, 0, 0);
    int[] clocks = {1, 4, 5, 6, 9999};
    int[] want = {5, 5, 5, 6, 9999};
    CHECK.due("at first", broker.nextTime(0), 5);
    for (int i = 0; i < clocks.length; i++) {
      broker.setClock(clocks[i]);
      CHECK.due("at " + clocks[i], broker.nextTime(0), want[i]);
    }
  }

  /** "when it was given, + PATIENCE (the CLOCK + 1, if that is greater)" */
  private static void nextTimeOfOut() {
    TailraceBroker broker = Brokers.oneReader(1);
    broker.setClock(9990);
    broker.take(0, 0);
    broker.setPatience(1, 50);
    CHECK.due("with the greatest patience", broker.nextTime(0), 10040);
    broker.setClock(9999);
    int[] patiences = {50, 11, 10, 9, 8, 1};
    int[] want = {10040, 10001, 10000, 10000, 10000, 10000};
    for (int i = 0; i < patiences.length; i++) {
      broker.setPatience(1, patiences[i]);
      CHECK.due("with " + patiences[i], broker.nextTime(0), want[i]);
    }
    TailraceBroker first = Brokers.oneReader(1);
    first.take(0, 0);
    CHECK.due("by the patience at first", first.nextTime(0), 10);
    first.setPatience(1, 1);
    CHECK.due("with the smallest patience", first.nextTime(0), 1);
  }

  /** "the least of these": of two in one PARTITION, and of two PARTITIONS. */
  private static void nextTimeIsTheLeast() {
    for (int first = 0; first < 4; first++) {
      TailraceBroker broker = Brokers.keyedRows(2, false, 4);
      broker.group(0);
      broker.join(0, 0, true);
      broker.setPatience(1, 50);
      for (int place = 0; place < 4; place++) {
        broker.setClock(place + 1);
        CHECK.due("out", broker.take(0, 0), place / 2 * 100 + place % 2);
        CHECK.due("the first that was given", broker.nextTime(0), 51);
      }
      for (int place = 0; place < 4; place++) {
        broker.setPatience(place == first ? 9 : 10 + place, 50);
        broker.nack(0, place / 2, place % 2);
      }
      CHECK.due("the least of all", broker.nextTime(0), 4 + 9);
    }
  }

  /** "what take() would return now, NOTHING also if it is not in it" */
  private static void wouldTakeIsWhatTakeReturns() {
    for (int group = 0; group < 2; group++) {
      for (int reader = 0; reader < 6; reader++) {
        TailraceBroker broker = Brokers.some();
        int would = broker.wouldTake(group, reader);
        boolean isIn = broker.join(group, reader, false);
        TailraceBroker other = Brokers.some();
        CHECK.due("take", isIn ? other.take(group, reader) : -1, would);
      }
    }
  }
}
