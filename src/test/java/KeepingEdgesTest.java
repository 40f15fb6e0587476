/** The edges of the CLOCK, PATIENCE and DELAY, of KEEP and of cleaning: a sentence each. */
public final class KeepingEdgesTest {
  private static final Check CHECK = new Check("KeepingEdgesTest");

  private KeepingEdgesTest() {
  }

  public static void main(String[] arguments) {
    clockGoesUpTo9999();
    patienceIsTenAtFirst();
    patienceAtItsEdges();
    patienceFromEachGiving();
    setPatienceAtItsEdges();
    setPatienceRefusedAsAWhole();
    nackedByItselfUpToThree();
    nackedNone();
    nackedAll();
    keepAtItsEdges();
    keepIsForEverAtFirst();
    keepDropsAsTheClockIsSet();
    keepDropsUpToWhatIsYounger();
    keepStopsAtPending();
    keepGoesOverHiddenAndCleaned();
    keepOfEachTopic();
    nackedBeforeDropped();
    droppedIsAsNeverGiven();
    cleanOfNone();
    cleanOfAll();
    cleanWithoutAKey();
    cleanBelowTheStableEnd();
    cleanBesideHidden();
    cleanTwice();
    cleanByPartitions();
    cleanGoesOnlyWhereItIsCompact();
    CHECK.end();
  }

  /** "if it is not above the CLOCK, or above 9999" */
  private static void clockGoesUpTo9999() {
    TailraceBroker broker = new TailraceBroker();
    for (int wrong : new int[] {0, -1, Integer.MIN_VALUE, 10000, Integer.MAX_VALUE}) {
      CHECK.noArgument("at first to " + wrong, broker, () -> broker.setClock(wrong));
    }
    CHECK.due("the first that is allowed", broker.setClock(1), 0);
    for (int wrong : new int[] {1, 0, -1, 10000}) {
      CHECK.noArgument("from 1 to " + wrong, broker, () -> broker.setClock(wrong));
    }
    CHECK.due("the next one", broker.setClock(2), 0);
    CHECK.due("the last but one", broker.setClock(9998), 0);
    CHECK.noArgument("back", broker, () -> broker.setClock(9997));
    CHECK.due("the last", broker.setClock(9999), 0);
    CHECK.due("the clock", broker.clock(), 9999);
    for (int wrong : new int[] {9999, 10000, 9998, 1, 0, Integer.MAX_VALUE}) {
      CHECK.noArgument("from the last to " + wrong, broker, () -> broker.setClock(wrong));
    }
    TailraceBroker other = new TailraceBroker();
    CHECK.due("at once to the last", other.setClock(9999), 0);
  }

  /** "PATIENCE 1 to 50 (10)" */
  private static void patienceIsTenAtFirst() {
    TailraceBroker broker = Brokers.oneReader(1);
    broker.take(0, 0);
    CHECK.due("for 9 ticks", broker.setClock(9), 0);
    CHECK.due("out yet", broker.state(0, 0, 0), 1);
    CHECK.due("for 10 ticks", broker.setClock(10), 1);
    CHECK.due("again", broker.state(0, 0, 0), 2);
  }

  /** "What is OUT for PATIENCE ticks or more, as the CLOCK is set, is NACKED by itself" */
  private static void patienceAtItsEdges() {
    for (int patience : new int[] {1, 2, 49, 50}) {
      TailraceBroker broker = Brokers.oneReader(1);
      broker.setPatience(1, patience);
      broker.setClock(100);
      broker.take(0, 0);
      if (patience > 1) {
        CHECK.due("1 tick less", broker.setClock(99 + patience), 0);
      }
      CHECK.due("just as long", broker.setClock(100 + patience), 1);
      CHECK.due("when", broker.row(1, 4), 100 + patience);
      CHECK.due("its time", broker.nextTime(0), 101 + patience);
      TailraceBroker late = Brokers.oneReader(1);
      late.setPatience(1, patience);
      late.take(0, 0);
      CHECK.due("1 tick more", late.setClock(patience + 1), 1);
      CHECK.due("by the new clock", late.nextTime(0), patience + 2);
    }
  }

  /** "OUT, at the CLOCK": what is given AGAIN is OUT from then on. */
  private static void patienceFromEachGiving() {
    TailraceBroker broker = Brokers.oneReader(2);
    broker.take(0, 0);
    broker.setClock(4);
    broker.take(0, 0);
    CHECK.due("the first alone", broker.setClock(10), 1);
    CHECK.due("the second alone", broker.setClock(14), 1);
    broker.take(0, 0);
    CHECK.due("the first, 9 ticks after it was given again", broker.setClock(23), 0);
    CHECK.due("10 ticks after", broker.setClock(24), 1);
  }

  /** "if delay is not 1 to 20, or patience is not 1 to 50"; "DELAY before" */
  private static void setPatienceAtItsEdges() {
    TailraceBroker broker = new TailraceBroker();
    CHECK.due("2 at first", broker.setPatience(1, 1), 2);
    CHECK.due("the smallest", broker.setPatience(20, 50), 1);
    CHECK.due("the greatest", broker.setPatience(20, 1), 20);
    CHECK.due("the same", broker.setPatience(1, 50), 20);
    int[][] wrong = {{0, 1}, {21, 1}, {1, 0}, {1, 51}, {-1, 50}, {20, -1}, {0, 0}, {21, 51},
      {Integer.MIN_VALUE, 1}, {Integer.MAX_VALUE, 1}, {1, Integer.MIN_VALUE},
      {1, Integer.MAX_VALUE}};
    for (int[] pair : wrong) {
      CHECK.noArgument("delay " + pair[0] + ", patience " + pair[1], broker,
          () -> broker.setPatience(pair[0], pair[1]));
    }
  }

  /** Of a right DELAY and a wrong PATIENCE (or the other way round) neither is set. */
  private static void setPatienceRefusedAsAWhole() {
    TailraceBroker broker = Brokers.oneReader(1);
    CHECK.noArgument("a right delay", broker, () -> broker.setPatience(20, 51));
    CHECK.noArgument("a right patience", broker, () -> broker.setPatience(21, 50));
    broker.take(0, 0);
    CHECK.due("patience is 10 yet", broker.setClock(10), 1);
    CHECK.due("delay is 2 yet", broker.nextTime(0), 12);
    CHECK.due("delay is 2 yet", broker.setPatience(1, 1), 2);
  }

  /** "NACKED by itself": as by nack(), with its TIME, and LAID ASIDE with 3 TRIES. */
  private static void nackedByItselfUpToThree() {
    TailraceBroker broker = Brokers.oneReader(1);
    broker.setPatience(3, 1);
    broker.take(0, 0);
    CHECK.due("the first time", broker.setClock(1), 1);
    CHECK.due("its time", broker.nextTime(0), 1 + 3);
    broker.setClock(4);
    broker.take(0, 0);
    CHECK.due("the second time", broker.setClock(5), 1);
    CHECK.due("its time", broker.nextTime(0), 5 + 6);
    broker.setClock(11);
    broker.take(0, 0);
    CHECK.due("the third time", broker.setClock(9999), 1);
    CHECK.due("laid aside", broker.state(0, 0, 0), 4);
    CHECK.due("no time", broker.nextTime(0), -1);
    CHECK.due("the mark", broker.mark(0, 0), 1);
    String sorts = "";
    for (int row = 0; row < broker.ledger(); row++) {
      sorts += broker.row(row, 0);
    }
    CHECK.dueText("the rows", sorts, "0202023");
  }

  /** "how many were NACKED by that": none of what is not OUT. */
  private static void nackedNone() {
    TailraceBroker broker = new TailraceBroker();
    CHECK.due("without a topic", broker.setClock(1), 0);
    broker.topic(4, false);
    CHECK.due("without a message", broker.setClock(2), 0);
    broker.group(0);
    broker.join(0, 0, true);
    CHECK.due("with a group", broker.setClock(3), 0);
    for (int number = 0; number < 4; number++) {
      broker.send(0, 0, number, -1, 0);
    }
    CHECK.due("never given", broker.setClock(100), 0);
    broker.ack(0, 0, broker.take(0, 0));
    broker.take(0, 0);
    broker.nack(0, 1, 0);
    CHECK.due("read and again", broker.setClock(9999), 0);
  }

  /** "by GROUPS, then PARTITIONS, then OFFSETS": of all GROUPS and PARTITIONS at once. */
  private static void nackedAll() {
    TailraceBroker broker = new TailraceBroker();
    broker.topic(4, false);
    for (int number = 0; number < 16; number++) {
      broker.send(0, 0, number, -1, 0);
    }
    for (int group = 0; group < 4; group++) {
      broker.group(0);
    }
    for (int group = 3; group >= 0; group--) {
      broker.join(group, 5 - group, true);
      for (int times = 0; times < 16; times++) {
        broker.take(group, 5 - group);
      }
    }
    CHECK.due("how many", broker.setClock(10), 64);
    CHECK.due("rows", broker.ledger(), 128);
    for (int row = 0; row < 64; row++) {
      CHECK.due("sort", broker.row(64 + row, 0), 2);
      CHECK.due("group", broker.row(64 + row, 1), row / 16);
      CHECK.due("partition", broker.row(64 + row, 2), row / 4 % 4);
      CHECK.due("offset", broker.row(64 + row, 3), row % 4);
    }
  }

  /** "1 to 200": "came KEEP ticks ago or earlier" */
  private static void keepAtItsEdges() {
    for (int keep : new int[] {1, 2, 199, 200}) {
      TailraceBroker broker = new TailraceBroker();
      broker.topic(1, false);
      broker.setKeep(0, keep);
      broker.setClock(50);
      Brokers.sendPlain(broker, 0, 0, 1);
      if (keep > 1) {
        broker.setClock(49 + keep);
        CHECK.due("1 tick less", broker.start(0, 0), 0);
        CHECK.due("not dropped", broker.message(0, 0, 0, 4), 0);
      }
      broker.setClock(50 + keep);
      CHECK.due("just as long", broker.start(0, 0), 1);
      CHECK.due("dropped", broker.message(0, 0, 0, 4), 1);
      Brokers.sendPlain(broker, 0, 1, 1);
      broker.setClock(51 + 2 * keep);
      CHECK.due("1 tick more", broker.start(0, 0), 2);
    }
    TailraceBroker broker = Brokers.oneRow(0);
    int[] keeps = {0, 1, 200, 199, 0};
    for (int i = 1; i < keeps.length; i++) {
      CHECK.due("keep before", broker.setKeep(0, keeps[i]), keeps[i - 1]);
    }
    for (int wrong : new int[] {-1, 201, Integer.MIN_VALUE, Integer.MAX_VALUE}) {
      CHECK.noArgument("keep " + wrong, broker, () -> broker.setKeep(0, wrong));
      CHECK.noIndex("a topic before keep " + wrong, broker, () -> broker.setKeep(1, wrong));
    }
  }

  /** "KEEP of a TOPIC is 0 (for ever, at first)" */
  private static void keepIsForEverAtFirst() {
    TailraceBroker broker = Brokers.oneRow(1);
    broker.setClock(9999);
    CHECK.due("at first", broker.start(0, 0), 0);
    CHECK.due("at first", broker.kept(0), 1);
    TailraceBroker other = Brokers.oneRow(1);
    other.setKeep(0, 1);
    CHECK.due("for ever anew", other.setKeep(0, 0), 1);
    other.setClock(9999);
    CHECK.due("for ever anew", other.start(0, 0), 0);
  }

  /** "as the CLOCK is set": not as KEEP is, nor by a refused call. */
  private static void keepDropsAsTheClockIsSet() {
    TailraceBroker broker = Brokers.oneRow(1);
    broker.setClock(500);
    broker.setKeep(0, 1);
    CHECK.due("not as keep is set", broker.start(0, 0), 0);
    CHECK.noArgument("the same clock", broker, () -> broker.setClock(500));
    CHECK.due("not by a refused call", broker.start(0, 0), 0);
    broker.setClock(501);
    CHECK.due("as the clock is set", broker.start(0, 0), 1);
  }

  private static void keepDropsUpToWhatIsYounger() {
    TailraceBroker broker = Brokers.oneRow(2);
    broker.setClock(1);
    Brokers.sendPlain(broker, 0, 2, 2);
    broker.setClock(2);
    Brokers.sendPlain(broker, 0, 4, 2);
    broker.setKeep(0, 10);
    int[] want = {0, 2, 4, 6, 6};
    for (int tick = 0; tick < want.length; tick++) {
      broker.setClock(9 + tick);
      CHECK.due("at " + (9 + tick), broker.start(0, 0), want[tick]);
      CHECK.due("kept at " + (9 + tick), broker.kept(0), 6 - want[tick]);
    }
  }

  /** "and is not PENDING" */
  private static void keepStopsAtPending() {
    TailraceBroker broker = new TailraceBroker();
    broker.topic(1, false);
    broker.setKeep(0, 1);
    broker.begin(1);
    broker.send(0, 1, 0, -1, 0);
    Brokers.sendPlain(broker, 0, 0, 1);
    broker.setClock(9998);
    CHECK.due("at the first", broker.start(0, 0), 0);
    CHECK.due("not what is behind it", broker.message(0, 0, 1, 4), 0);
    broker.end(1, true);
    CHECK.due("not as it is ended", broker.start(0, 0), 0);
    broker.setClock(9999);
    CHECK.due("as the clock is set then", broker.start(0, 0), 2);
  }

  private static void keepGoesOverHiddenAndCleaned() {
    TailraceBroker broker = Brokers.keyedRows(1, true, 1);
    broker.begin(1);
    broker.send(0, 1, 0, 3, 0);
    broker.end(1, false);
    broker.send(0, 0, 1, 0, 0);
    broker.clean(0);
    CHECK.due("cleaned", broker.message(0, 0, 0, 4), 1);
    broker.setKeep(0, 5);
    broker.setClock(4);
    CHECK.due("not what is cleaned, before its time", broker.start(0, 0), 0);
    broker.setClock(5);
    CHECK.due("all three", broker.start(0, 0), 3);
    CHECK.due("the hidden one is dropped", broker.message(0, 0, 1, 4), 1);
    CHECK.due("and hidden", broker.message(0, 0, 1, 3), 1);
  }

  private static void keepOfEachTopic() {
    TailraceBroker broker = new TailraceBroker();
    int[] keeps = {0, 1, 2, 200};
    for (int topic = 0; topic < 4; topic++) {
      broker.topic(2, false);
      broker.setKeep(topic, keeps[topic]);
      broker.send(topic, 0, 0, -1, 0);
      broker.send(topic, 0, 1, -1, 0);
    }
    int[][] want = {{1, 0, 1, 0, 0}, {2, 0, 1, 1, 0}, {199, 0, 1, 1, 0}, {200, 0, 1, 1, 1}};
    for (int[] row : want) {
      broker.setClock(row[0]);
      for (int topic = 0; topic < 4; topic++) {
        CHECK.due("at " + row[0], broker.start(topic, 0), row[1 + topic]);
        CHECK.due("each partition at " + row[0], broker.start(topic, 1), row[1 + topic]);
      }
    }
  }

  /** "first all that is OUT for too long is NACKED, then old MESSAGES are DROPPED" */
  private static void nackedBeforeDropped() {
    TailraceBroker broker = Brokers.oneReader(1);
    broker.setPatience(1, 1);
    broker.setKeep(0, 1);
    broker.take(0, 0);
    CHECK.due("nacked", broker.setClock(1), 1);
    CHECK.due("its row", broker.row(1, 0), 2);
    CHECK.due("dropped", broker.start(0, 0), 1);
    CHECK.due("as never given", broker.state(0, 0, 0), 0);
    CHECK.due("without tries", broker.tries(0, 0, 0), 0);
    CHECK.due("no time", broker.nextTime(0), -1);
  }

  /** "What is DROPPED, and is OUT or to be given AGAIN, is as never given." */
  private static void droppedIsAsNeverGiven() {
    TailraceBroker broker = Brokers.oneReader(4);
    broker.setPatience(1, 50);
    for (int times = 0; times < 3; times++) {
      broker.take(0, 0);
    }
    broker.nack(0, 0, 1);
    broker.ack(0, 0, 2);
    broker.setKeep(0, 49);
    CHECK.dueStates("before", broker, 0, 0, "1230");
    CHECK.due("none is nacked", broker.setClock(49), 0);
    CHECK.dueStates("what is read stays so", broker, 0, 0, "0030");
    CHECK.due("tries of what was out", broker.tries(0, 0, 0), 0);
    CHECK.due("tries of what was again", broker.tries(0, 0, 1), 0);
    CHECK.due("tries of what is read", broker.tries(0, 0, 2), 1);
    CHECK.due("the mark", broker.mark(0, 0), 4);
    CHECK.due("the cursor", broker.cursor(0, 0), 4);
  }

  /** "how many MESSAGES are DROPPED by that": none. */
  private static void cleanOfNone() {
    TailraceBroker broker = new TailraceBroker();
    broker.topic(2, true);
    CHECK.dueUnchanged("without a message", broker, () -> broker.wouldDrop(0), 0);
    CHECK.dueUnchanged("without a message", broker, () -> broker.clean(0), 0);
    for (int key = 0; key <= 9; key++) {
      broker.send(0, 0, key, key, 0);
    }
    CHECK.dueUnchanged("one of each key", broker, () -> broker.wouldDrop(0), 0);
    CHECK.dueUnchanged("one of each key", broker, () -> broker.clean(0), 0);
  }

  /** All but the latest of 80. */
  private static void cleanOfAll() {
    for (int key : new int[] {0, 9}) {
      TailraceBroker broker = new TailraceBroker();
      broker.topic(4, true);
      for (int number = 0; number < 80; number++) {
        broker.send(0, 0, number, key, 0);
      }
      CHECK.due("would", broker.wouldDrop(0), 79);
      CHECK.due("all but one", broker.clean(0), 79);
      CHECK.due("one is kept", broker.kept(0), 1);
      CHECK.due("the latest", broker.message(0, key % 4, 79, 4), 0);
      CHECK.due("not the one before it", broker.message(0, key % 4, 78, 4), 1);
      CHECK.due("the start stays", broker.start(0, key % 4), 0);
      CHECK.due("would anew", broker.wouldDrop(0), 0);
    }
  }

  /** "with a KEY" */
  private static void cleanWithoutAKey() {
    TailraceBroker broker = new TailraceBroker();
    broker.topic(1, true);
    Brokers.sendPlain(broker, 0, 0, 10);
    CHECK.due("would", broker.wouldDrop(0), 0);
    CHECK.due("none", broker.clean(0), 0);
    CHECK.due("all are kept", broker.kept(0), 10);
  }

  /** "below the STABLE end": both the one that is DROPPED and the later one. */
  private static void cleanBelowTheStableEnd() {
    TailraceBroker broker = new TailraceBroker();
    broker.topic(1, true);
    broker.send(0, 0, 0, 1, 0);
    broker.begin(1);
    broker.send(0, 1, 0, 1, 0);
    broker.send(0, 0, 1, 1, 0);
    broker.send(0, 0, 2, 1, 0);
    CHECK.due("would", broker.wouldDrop(0), 0);
    CHECK.due("none has a later one below it", broker.clean(0), 0);
    broker.end(1, true);
    CHECK.due("would then", broker.wouldDrop(0), 3);
    CHECK.due("all but the last", broker.clean(0), 3);
    CHECK.due("the last is kept", broker.message(0, 0, 3, 4), 0);
  }

  /** "of the SEEN MESSAGES", "a later one with the same KEY, which is SEEN" */
  private static void cleanBesideHidden() {
    TailraceBroker broker = new TailraceBroker();
    broker.topic(1, true);
    for (int number = 0; number < 2; number++) {
      broker.begin(1);
      broker.send(0, 1, number, 1, 0);
      broker.end(1, false);
      broker.send(0, 0, number, 1, 0);
    }
    broker.begin(1);
    broker.send(0, 1, 2, 1, 0);
    broker.end(1, false);
    CHECK.due("would", broker.wouldDrop(0), 1);
    CHECK.due("the first that is seen", broker.clean(0), 1);
    String dropped = "";
    for (int offset = 0; offset < 5; offset++) {
      dropped += broker.message(0, 0, offset, 4);
    }
    CHECK.dueText("that alone", dropped, "01000");
  }

  /** "if they are not yet" */
  private static void cleanTwice() {
    TailraceBroker broker = Brokers.keyedRows(1, true, 2);
    broker.send(0, 0, 2, 0, 0);
    CHECK.due("one", broker.clean(0), 1);
    CHECK.dueUnchanged("none then", broker, () -> broker.clean(0), 0);
    broker.send(0, 0, 3, 0, 0);
    CHECK.due("the next one", broker.clean(0), 1);
    broker.setKeep(0, 1);
    broker.setClock(1);
    broker.send(0, 0, 4, 0, 0);
    broker.send(0, 0, 5, 1, 0);
    CHECK.due("none of what is dropped by its age", broker.clean(0), 0);
    CHECK.due("two are kept", broker.kept(0), 2);
  }

  /** "in each PARTITION" */
  private static void cleanByPartitions() {
    TailraceBroker broker = new TailraceBroker();
    broker.topic(4, true);
    broker.begin(1);
    broker.send(0, 1, 0, 2, 0);
    for (int number = 0; number < 16; number++) {
      broker.send(0, 0, number, number % 4, 0);
    }
    CHECK.due("would, but for the partition with a pending one", broker.wouldDrop(0), 9);
    CHECK.due("but for that", broker.clean(0), 9);
    broker.end(1, false);
    CHECK.due("that then", broker.clean(0), 3);
    for (int partition = 0; partition < 4; partition++) {
      CHECK.due("each one's start", broker.start(0, partition), 0);
    }
    CHECK.due("one of each is kept", broker.kept(0), 4);
  }

  /** "if it is not COMPACT"; wouldDrop() tells it "also if it is not COMPACT". */
  private static void cleanGoesOnlyWhereItIsCompact() {
    TailraceBroker broker = new TailraceBroker();
    CHECK.noIndex("without a topic", broker, () -> broker.clean(0));
    for (int topic = 0; topic < 4; topic++) {
      broker.topic(1, topic % 2 == 1);
      for (int number = 0; number < 3; number++) {
        broker.send(topic, 0, number, 9, 0);
      }
    }
    for (int topic = 0; topic < 4; topic++) {
      int own = topic;
      CHECK.dueUnchanged("would", broker, () -> broker.wouldDrop(own), 2);
      if (topic % 2 == 1) {
        CHECK.due("compact", broker.clean(topic), 2);
      } else {
        CHECK.noState("not compact", broker, () -> broker.clean(own));
      }
      CHECK.due("kept", broker.kept(topic), topic % 2 == 1 ? 1 : 3);
    }
  }
}
