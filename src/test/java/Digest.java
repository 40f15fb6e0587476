import java.util.function.Supplier;

/**
 * The checksum by the words of promise 38, from the answers of the other calls. It takes more calls
 * than an object is good for: they are asked of several ones, made in the same way.
 */
final class Digest {
  private static final int ASKED_OF_ONE = 200;

  private final Supplier<TailraceBroker> maker;
  private TailraceBroker broker;
  private int asked = 0;
  private long d = 2683;

  private Digest(Supplier<TailraceBroker> maker) {
    this.maker = maker;
  }

  /** Each GROUP is of the TOPIC with its number; that has as many PARTITIONS as is given here. */
  static long told(Supplier<TailraceBroker> maker, int... partitions) {
    Digest digest = new Digest(maker);
    int topics = digest.on().topics();
    int groups = digest.on().groups();
    int rows = digest.on().ledger();
    digest.add(digest.on().clock(), topics, groups, rows);
    for (int topic = 0; topic < topics; topic++) {
      digest.addTopic(topic, partitions[topic]);
    }
    for (int group = 0; group < groups; group++) {
      digest.addGroup(group, partitions[group]);
    }
    for (int group = 0; group < groups; group++) {
      for (int reader = 0; reader < 6; reader++) {
        digest.add(digest.on().wouldTake(group, reader));
      }
    }
    for (int row = 0; row < rows; row++) {
      for (int what = 0; what <= 4; what++) {
        digest.add(digest.on().row(row, what));
      }
    }
    return digest.d;
  }

  private void addTopic(int topic, int partitions) {
    add(on().kept(topic), on().wouldDrop(topic));
    for (int p = 0; p < partitions; p++) {
      int end = on().endOf(topic, p);
      add(on().start(topic, p), end, on().stable(topic, p));
      for (int offset = 0; offset < end; offset++) {
        for (int what = 0; what <= 4; what++) {
          add(on().message(topic, p, offset, what));
        }
      }
    }
  }

  private void addGroup(int group, int partitions) {
    add(on().aside(group), on().nextTime(group));
    for (int p = 0; p < partitions; p++) {
      add(on().reader(group, p), on().mark(group, p), on().cursor(group, p));
      add(on().lag(group, p));
      int end = on().endOf(group, p);
      for (int offset = 0; offset < end; offset++) {
        add(on().state(group, p, offset), on().tries(group, p, offset));
      }
    }
  }

  /** The object to ask: a new one, if enough was asked of the last. */
  private TailraceBroker on() {
    if (asked % ASKED_OF_ONE == 0) {
      broker = maker.get();
    }
    asked++;
    return broker;
  }

  private void add(long... values) {
    for (long v : values) {
      d = d * 31 + v;
    }
  }
}
