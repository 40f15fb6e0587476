/** The checksum by the words of promise 38, from the answers of the other calls. */
final class Digest {
  private long d = 2683;

  private Digest() {
  }

  /** Each GROUP is of the TOPIC with its number; that has as many PARTITIONS as is given here. */
  static long told(TailraceBroker broker, int... partitions) {
    Digest digest = new Digest();
    digest.add(broker.clock(), broker.topics(), broker.groups(), broker.ledger());
    for (int topic = 0; topic < broker.topics(); topic++) {
      digest.addTopic(broker, topic, partitions[topic]);
    }
    for (int group = 0; group < broker.groups(); group++) {
      digest.addGroup(broker, group, partitions[group]);
    }
    for (int group = 0; group < broker.groups(); group++) {
      for (int reader = 0; reader < 6; reader++) {
        digest.add(broker.wouldTake(group, reader));
      }
    }
    for (int row = 0; row < broker.ledger(); row++) {
      for (int what = 0; what <= 4; what++) {
        digest.add(broker.row(row, what));
      }
    }
    return digest.d;
  }

  private void addTopic(TailraceBroker broker, int topic, int partitions) {
    add(broker.kept(topic), broker.wouldDrop(topic));
    for (int p = 0; p < partitions; p++) {
      add(broker.start(topic, p), broker.endOf(topic, p), broker.stable(topic, p));
      for (int offset = 0; offset < broker.endOf(topic, p); offset++) {
        for (int what = 0; what <= 4; what++) {
          add(broker.message(topic, p, offset, what));
        }
      }
    }
  }

  private void addGroup(TailraceBroker broker, int group, int partitions) {
    add(broker.aside(group), broker.nextTime(group));
    for (int p = 0; p < partitions; p++) {
      add(broker.reader(group, p), broker.mark(group, p), broker.cursor(group, p));
      add(broker.lag(group, p));
      for (int offset = 0; offset < broker.endOf(group, p); offset++) {
        add(broker.state(group, p, offset), broker.tries(group, p, offset));
      }
    }
  }

  private void add(long... values) {
    for (long v : values) {
      d = d * 31 + v;
    }
  }
}
