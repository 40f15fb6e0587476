/** Brokers that the tests begin with. */
final class Brokers {
  private Brokers() {
  }

  /** One TOPIC with one PARTITION, with that many MESSAGES without a KEY of PRODUCER 0. */
  static TailraceBroker oneRow(int messages) {
    TailraceBroker broker = new TailraceBroker();
    broker.topic(1, false);
    sendPlain(broker, 0, 0, messages);
    return broker;
  }

  /** The same, with the GROUP 0, and the READER 0 in it. */
  static TailraceBroker oneReader(int messages) {
    TailraceBroker broker = oneRow(messages);
    broker.group(0);
    broker.join(0, 0, true);
    return broker;
  }

  /** One TOPIC, with that many MESSAGES of PRODUCER 0; the KEY of each is its NUMBER. */
  static TailraceBroker keyedRows(int partitions, boolean isCompact, int messages) {
    TailraceBroker broker = new TailraceBroker();
    broker.topic(partitions, isCompact);
    for (int number = 0; number < messages; number++) {
      broker.send(0, 0, number, number, 0);
    }
    return broker;
  }

  /** The PRODUCER's NUMBERS go on from the given one; the VALUE is the NUMBER. */
  static void sendPlain(TailraceBroker broker, int producer, int from, int messages) {
    for (int number = from; number < from + messages; number++) {
      broker.send(0, producer, number, -1, number);
    }
  }

  /** The READER 0 takes and lays aside the MESSAGE that comes next; the CLOCK goes on by 100. */
  static void layAside(TailraceBroker broker, int group, int reader) {
    for (int tries = 1; tries <= 3; tries++) {
      int place = broker.take(group, reader);
      broker.nack(group, place / 100, place % 100);
      broker.setClock(broker.clock() + (tries < 3 ? 40 : 20));
    }
  }

  /**
   * Some of all there may be: the TOPICS 0 (3 PARTITIONS, COMPACT) and 1 (1, not), a GROUP of each,
   * and MESSAGES of each state. By the OFFSETS: of GROUP 0 in PARTITION 0 OUT, READ and PENDING, in
   * 1 AGAIN and never given, in 2 never given; of GROUP 1 LAID ASIDE, OUT and never given.
   */
  static TailraceBroker some() {
    TailraceBroker broker = new TailraceBroker();
    broker.topic(3, true);
    broker.topic(1, false);
    broker.setClock(5);
    for (int number = 0; number < 6; number++) {
      broker.send(0, 0, number, number, 10 + number);
    }
    broker.begin(1);
    broker.send(0, 1, 0, 0, 7);
    for (int number = 0; number < 4; number++) {
      broker.send(1, 2, number, -1, number);
    }
    broker.setPatience(3, 20);
    broker.setKeep(0, 100);
    broker.group(0);
    broker.group(1);
    broker.join(0, 1, true);
    broker.join(0, 4, true);
    broker.join(1, 5, true);
    broker.take(0, 1);
    broker.take(0, 1);
    broker.take(0, 1);
    broker.ack(0, 0, 1);
    broker.nack(0, 1, 0);
    for (int clock : new int[] {8, 14}) {
      broker.take(1, 5);
      broker.nack(1, 0, 0);
      broker.setClock(clock);
    }
    broker.take(1, 5);
    broker.nack(1, 0, 0);
    broker.take(1, 5);
    return broker;
  }

  /**
   * All there may be: 4 TOPICS with 4 PARTITIONS, 80 MESSAGES, 4 GROUPS with 6 READERS each, a full
   * LEDGER, the last CLOCK, a TRANSACTION of each PRODUCER. TOPIC 2 is dropped to its END.
   */
  static TailraceBroker full() {
    TailraceBroker broker = new TailraceBroker();
    for (int topic = 0; topic < 4; topic++) {
      broker.topic(4, topic % 2 == 0);
      sendTwenty(broker, topic);
    }
    for (int group = 0; group < 4; group++) {
      broker.group(group);
      for (int reader = 0; reader < 6; reader++) {
        broker.join(group, reader, true);
      }
    }
    broker.setPatience(1, 1);
    for (int round = 0; round < 3; round++) {
      takeTwoOfEach(broker);
      broker.setClock(broker.clock() + 2);
      broker.setClock(broker.clock() + 2);
    }
    broker.setKeep(2, 200);
    broker.setClock(9999);
    for (int group : new int[] {0, 1, 3}) {
      broker.take(group, 0);
      broker.take(group, 0);
      broker.take(group, 0);
      broker.ack(group, 0, 2);
      broker.nack(group, 0, 3);
    }
    broker.clean(0);
    for (int producer = 0; producer < 3; producer++) {
      broker.begin(producer);
    }
    return broker;
  }

  /** Five for each PARTITION, of the PRODUCER with the TOPIC's number; the last of all PENDING. */
  private static void sendTwenty(TailraceBroker broker, int topic) {
    for (int number = 0; number < 20; number++) {
      if (topic == 3 && number == 19) {
        broker.begin(3);
      }
      broker.send(topic, topic, number, number % 4, number);
    }
  }

  private static void takeTwoOfEach(TailraceBroker broker) {
    for (int group = 0; group < 4; group++) {
      for (int reader = 0; reader < 4; reader++) {
        broker.take(group, reader);
        broker.take(group, reader);
      }
    }
  }
}
