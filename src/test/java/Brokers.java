/** Brokers that the tests begin with. */
final class Brokers {
  private Brokers() {
  }

  /** One TOPIC with one PARTITION, with that many MESSAGES without a KEY of PRODUCER 0. */
  static TailraceBroker oneRow(int messages) {
    TailraceBroker broker = new TailraceBroker();
    broker.topic(1, false);
    sendPlain(broker, 0, 0, messages);
    return broker;
  }

  /** The same, with the GROUP 0, and the READER 0 in it. */
  static TailraceBroker oneReader(int messages) {
    TailraceBroker broker = oneRow(messages);
    broker.group(0);
    broker.join(0, 0, true);
    return broker;
  }

  /** One TOPIC, with that many MESSAGES of PRODUCER 0; the KEY of each is its NUMBER. */
  static TailraceBroker keyedRows(int partitions, boolean isCompact, int messages) {
    TailraceBroker broker = new TailraceBroker();
    broker.topic(partitions, isCompact);
    for (int number = 0; number < messages; number++) {
      broker.send(0, 0, number, number, 0);
    }
    return broker;
  }

  /** The PRODUCER's NUMBERS go on from the given one; the VALUE is the NUMBER. */
  static void sendPlain(TailraceBroker broker, int producer, int from, int messages) {
    for (int number = from; number < from + messages; number++) {
      broker.send(0, producer, number, -1, number);
    }
  }

  /** The READER 0 takes and lays aside the MESSAGE that comes next; the CLOCK goes on by 100. */
  static void layAside(TailraceBroker broker, int group, int reader) {
    for (int tries = 1; tries <= 3; tries++) {
      int place = broker.take(group, reader);
      broker.nack(group, place / 100, place % 100);
      broker.setClock(broker.clock() + (tries < 3 ? 40 : 20));
    }
  }
}
