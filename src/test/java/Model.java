import java.util.ArrayList;
import java.util.HashMap;
import java.util.List;
import java.util.Map;
import java.util.TreeSet;
import java.util.function.Predicate;

/**
 * The document written a second time, as plainly as it goes and with no thought of cost: MESSAGES
 * in one list, and what follows from them worked out anew each time it is asked.
 */
public final class Model {
  private static final class Transaction {
    private boolean isEnded;
    private boolean isDone;
  }

  private static final class Message {
    private int topic;
    private int partition;
    private int offset;
    private int key;
    private int value;
    private int time;
    private boolean isDropped;
    private Transaction transaction;

    boolean isPending() {
      return transaction != null && !transaction.isEnded;
    }

    boolean isHidden() {
      return transaction != null && transaction.isEnded && !transaction.isDone;
    }

    boolean isSeen() {
      return !isPending() && !isHidden();
    }
  }

  private static final class Topic {
    private int partitions;
    private boolean isCompact;
    private int keep;
    private final Map<Integer, Integer> latest = new HashMap<>();
    private final int[] starts = new int[4];
  }

  private static final class Giving {
    private int state;
    private int tries;
    private int since;
    private int again;
  }

  private static final class Group {
    private int topic;
    private final TreeSet<Integer> readers = new TreeSet<>();
    private final Map<Message, Giving> givings = new HashMap<>();
    private final int[] marks = new int[4];
    private final int[] cursors = new int[4];
    private final int[] shared = {-1, -1, -1, -1};

    /** Without one the MESSAGE is as never given. */
    int stateOf(Message message) {
      return givings.containsKey(message) ? givings.get(message).state : 0;
    }

    int triesOf(Message message) {
      return givings.containsKey(message) ? givings.get(message).tries : 0;
    }
  }

  private final List<Topic> topicList = new ArrayList<>();
  private final List<Message> messageList = new ArrayList<>();
  private final List<Group> groupList = new ArrayList<>();
  private final List<int[]> ledgerRows = new ArrayList<>();
  private final Map<Integer, Transaction> open = new HashMap<>();
  private int begun;
  private int time;
  private int delay = 2;
  private int patience = 10;

  public int topic(int partitions, boolean isCompact) {
    needArgument(partitions >= 1 && partitions <= 4);
    needState(topicList.size() < 4);
    Topic made = new Topic();
    made.partitions = partitions;
    made.isCompact = isCompact;
    topicList.add(made);
    return topicList.size() - 1;
  }

  public int send(int topic, int producer, int number, int key, int value) {
    needIndex(topic >= 0 && topic < topicList.size() && producer >= 0 && producer < 4);
    needArgument(number >= 0 && key >= -1 && key <= 9 && value >= 0 && value <= 999);
    Topic to = topicList.get(topic);
    int latest = to.latest.getOrDefault(producer, -1);
    if (number <= latest) {
      return -2;
    }
    needState(number == latest + 1);
    needState(messageList.size() < 80);
    Message sent = new Message();
    sent.topic = topic;
    sent.partition = key == -1 ? fewest(topic) : key % to.partitions;
    sent.offset = endOf(topic, sent.partition);
    sent.key = key;
    sent.value = value;
    sent.time = time;
    sent.transaction = open.get(producer);
    to.latest.put(producer, number);
    messageList.add(sent);
    settle();
    return sent.offset;
  }

  private int fewest(int topic) {
    int fewest = 0;
    for (int p = 0; p < topicList.get(topic).partitions; p++) {
      if (endOf(topic, p) < endOf(topic, fewest)) {
        fewest = p;
      }
    }
    return fewest;
  }

  public int begin(int producer) {
    needIndex(producer >= 0 && producer < 4);
    needState(!open.containsKey(producer));
    open.put(producer, new Transaction());
    return ++begun;
  }

  public int end(int producer, boolean isDone) {
    needIndex(producer >= 0 && producer < 4);
    needState(open.containsKey(producer));
    Transaction ended = open.remove(producer);
    ended.isEnded = true;
    ended.isDone = isDone;
    settle();
    return all(message -> message.transaction == ended).size();
  }

  public int setKeep(int topic, int keep) {
    needIndex(topic >= 0 && topic < topicList.size());
    needArgument(keep >= 0 && keep <= 200);
    int before = topicList.get(topic).keep;
    topicList.get(topic).keep = keep;
    return before;
  }

  public int clean(int topic) {
    needIndex(topic >= 0 && topic < topicList.size());
    needState(topicList.get(topic).isCompact);
    List<Message> outdated = outdated(topic);
    for (Message message : outdated) {
      drop(message);
    }
    settle();
    return outdated.size();
  }

  private List<Message> outdated(int topic) {
    return all(message -> message.topic == topic && !message.isDropped && canCount(message)
        && !all(later -> later.topic == topic && later.partition == message.partition
            && later.offset > message.offset && later.key == message.key && canCount(later))
            .isEmpty());
  }

  private boolean canCount(Message message) {
    return message.isSeen() && message.key != -1
        && message.offset < stable(message.topic, message.partition);
  }

  private void drop(Message message) {
    message.isDropped = true;
    for (Group group : groupList) {
      if (group.stateOf(message) == 1 || group.stateOf(message) == 2) {
        group.givings.remove(message);
      }
    }
  }

  public int setClock(int clock) {
    needArgument(clock > time && clock <= 9999);
    time = clock;
    int nacked = 0;
    for (int g = 0; g < groupList.size(); g++) {
      Group group = groupList.get(g);
      for (int p = 0; p < topicList.get(group.topic).partitions; p++) {
        for (Message message : lying(group, p)) {
          if (group.stateOf(message) == 1
              && clock - group.givings.get(message).since >= patience) {
            giveBack(g, message);
            nacked++;
          }
        }
      }
    }
    for (Message message : new ArrayList<>(messageList)) {
      Topic topic = topicList.get(message.topic);
      if (topic.keep > 0 && topic.starts[message.partition] == message.offset
          && message.time <= clock - topic.keep && !message.isPending()) {
        drop(message);
        topic.starts[message.partition]++;
      }
    }
    settle();
    return nacked;
  }

  public int setPatience(int delay, int patience) {
    needArgument(delay >= 1 && delay <= 20 && patience >= 1 && patience <= 50);
    int before = this.delay;
    this.delay = delay;
    this.patience = patience;
    return before;
  }

  public int clock() {
    return time;
  }

  public int topics() {
    return topicList.size();
  }

  public int start(int topic, int partition) {
    needPartition(topic, partition);
    return topicList.get(topic).starts[partition];
  }

  public int endOf(int topic, int partition) {
    needPartition(topic, partition);
    return lying(topic, partition).size();
  }

  public int stable(int topic, int partition) {
    needPartition(topic, partition);
    int stable = 0;
    for (Message message : lying(topic, partition)) {
      if (message.isPending()) {
        return stable;
      }
      stable++;
    }
    return stable;
  }

  public int message(int topic, int partition, int offset, int what) {
    needPartition(topic, partition);
    needIndex(offset >= 0 && offset < endOf(topic, partition));
    needArgument(what >= 0 && what <= 4);
    Message message = lying(topic, partition).get(offset);
    int standing = message.isPending() ? 2 : message.isHidden() ? 1 : 0;
    int[] told = {message.key, message.value, message.time, standing, message.isDropped ? 1 : 0};
    return told[what];
  }

  public int kept(int topic) {
    needIndex(topic >= 0 && topic < topicList.size());
    return all(message -> message.topic == topic && message.isSeen() && !message.isDropped)
        .size();
  }

  public int group(int topic) {
    needIndex(topic >= 0 && topic < topicList.size());
    needState(groupList.size() < 4);
    Group made = new Group();
    made.topic = topic;
    for (int p = 0; p < 4; p++) {
      made.marks[p] = topicList.get(topic).starts[p];
      made.cursors[p] = made.marks[p];
    }
    groupList.add(made);
    settle();
    return groupList.size() - 1;
  }

  public boolean join(int group, int reader, boolean isIn) {
    needIndex(group >= 0 && group < groupList.size() && reader >= 0 && reader < 6);
    Group of = groupList.get(group);
    boolean was = of.readers.contains(reader);
    if (isIn) {
      of.readers.add(reader);
    } else {
      of.readers.remove(reader);
    }
    List<Integer> shared = shares(topicList.get(of.topic).partitions, of.readers);
    for (int p = 0; p < shared.size(); p++) {
      if (shared.get(p) != of.shared[p]) {
        of.shared[p] = shared.get(p);
        for (Message message : lying(of, p)) {
          if (of.stateOf(message) == 1) {
            of.givings.remove(message);
          }
        }
        of.cursors[p] = of.marks[p];
      }
    }
    settle();
    return was;
  }

  /** One READER a PARTITION, in the order of the PARTITIONS. */
  private static List<Integer> shares(int partitions, TreeSet<Integer> readers) {
    List<Integer> shares = new ArrayList<>();
    int rank = 0;
    for (int reader : readers) {
      int size = partitions / readers.size();
      if (rank < partitions % readers.size()) {
        size++;
      }
      for (int i = 0; i < size; i++) {
        shares.add(reader);
      }
      rank++;
    }
    while (shares.size() < partitions) {
      shares.add(-1);
    }
    return shares;
  }

  public int take(int group, int reader) {
    needIndex(group >= 0 && group < groupList.size() && reader >= 0 && reader < 6);
    needState(groupList.get(group).readers.contains(reader));
    Message taken = next(group, reader);
    if (taken == null) {
      return -1;
    }
    Group of = groupList.get(group);
    if (of.stateOf(taken) == 0) {
      of.cursors[taken.partition] = taken.offset + 1;
    }
    Giving giving = of.givings.computeIfAbsent(taken, message -> new Giving());
    giving.state = 1;
    giving.tries++;
    giving.since = time;
    write(0, group, taken);
    settle();
    return 100 * taken.partition + taken.offset;
  }

  private Message next(int group, int reader) {
    Group of = groupList.get(group);
    for (int p = 0; p < topicList.get(of.topic).partitions; p++) {
      if (of.shared[p] != reader) {
        continue;
      }
      int stable = stable(of.topic, p);
      int mark = of.marks[p];
      int cursor = of.cursors[p];
      for (Message message : lying(of, p)) {
        if (message.offset >= mark && of.stateOf(message) == 2
            && of.givings.get(message).again <= time) {
          return message;
        }
      }
      for (Message message : lying(of, p)) {
        if (message.offset >= cursor && message.offset < stable && message.isSeen()
            && !message.isDropped && of.stateOf(message) == 0) {
          return message;
        }
      }
    }
    return null;
  }

  public int ack(int group, int partition, int offset) {
    Message acked = out(group, partition, offset);
    groupList.get(group).givings.get(acked).state = 3;
    write(1, group, acked);
    settle();
    return groupList.get(group).marks[partition];
  }

  public int nack(int group, int partition, int offset) {
    int again = giveBack(group, out(group, partition, offset));
    settle();
    return again;
  }

  private Message out(int group, int partition, int offset) {
    needProgress(group, partition);
    Group of = groupList.get(group);
    List<Message> lying = lying(of, partition);
    needState(offset >= 0 && offset < lying.size() && of.stateOf(lying.get(offset)) == 1);
    return lying.get(offset);
  }

  private int giveBack(int group, Message message) {
    Giving giving = groupList.get(group).givings.get(message);
    write(2, group, message);
    if (giving.tries == 3) {
      giving.state = 4;
      write(3, group, message);
      return -1;
    }
    giving.state = 2;
    giving.again = time + delay * (giving.tries == 1 ? 1 : 2);
    return giving.again;
  }

  public int seek(int group, int partition, int offset) {
    needProgress(group, partition);
    Group of = groupList.get(group);
    needArgument(offset >= start(of.topic, partition) && offset <= endOf(of.topic, partition));
    for (Message message : lying(of, partition)) {
      int state = of.stateOf(message);
      if (message.offset >= offset || state == 1 || state == 2) {
        of.givings.remove(message);
      }
    }
    int before = of.marks[partition];
    of.marks[partition] = offset;
    of.cursors[partition] = offset;
    settle();
    return before;
  }

  public int groups() {
    return groupList.size();
  }

  public int reader(int group, int partition) {
    needProgress(group, partition);
    return groupList.get(group).shared[partition];
  }

  public int mark(int group, int partition) {
    needProgress(group, partition);
    return groupList.get(group).marks[partition];
  }

  public int cursor(int group, int partition) {
    needProgress(group, partition);
    return groupList.get(group).cursors[partition];
  }

  public int state(int group, int partition, int offset) {
    Message asked = messageOf(group, partition, offset);
    return groupList.get(group).stateOf(asked);
  }

  public int tries(int group, int partition, int offset) {
    Message asked = messageOf(group, partition, offset);
    return groupList.get(group).triesOf(asked);
  }

  private Message messageOf(int group, int partition, int offset) {
    needProgress(group, partition);
    List<Message> lying = lying(groupList.get(group), partition);
    needIndex(offset >= 0 && offset < lying.size());
    return lying.get(offset);
  }

  public int lag(int group, int partition) {
    needProgress(group, partition);
    Group of = groupList.get(group);
    int stable = stable(of.topic, partition);
    int lag = 0;
    for (Message message : lying(of, partition)) {
      if (message.isSeen() && !message.isDropped && message.offset >= of.marks[partition]
          && message.offset < stable && of.stateOf(message) != 3 && of.stateOf(message) != 4) {
        lag++;
      }
    }
    return lag;
  }

  public int aside(int group) {
    needIndex(group >= 0 && group < groupList.size());
    return all(message -> groupList.get(group).stateOf(message) == 4).size();
  }

  public double meanTries(int group) {
    needIndex(group >= 0 && group < groupList.size());
    Group of = groupList.get(group);
    return all(message -> of.stateOf(message) == 3).stream()
        .mapToInt(of::triesOf).average().orElse(0);
  }

  public int ledger() {
    return ledgerRows.size();
  }

  public int row(int row, int what) {
    needIndex(row >= 0 && row < ledgerRows.size());
    needArgument(what >= 0 && what <= 4);
    return ledgerRows.get(row)[what];
  }

  private void write(int sort, int group, Message message) {
    if (ledgerRows.size() < 200) {
      ledgerRows.add(new int[] {sort, group, message.partition, message.offset, time});
    }
  }

  public int wouldTake(int group, int reader) {
    needIndex(group >= 0 && group < groupList.size() && reader >= 0 && reader < 6);
    Message next = next(group, reader);
    return next == null ? -1 : 100 * next.partition + next.offset;
  }

  public int wouldRead(int group, int reader, int partition) {
    needProgress(group, partition);
    needIndex(reader >= 0 && reader < 6);
    Group of = groupList.get(group);
    TreeSet<Integer> readers = new TreeSet<>(of.readers);
    if (!readers.remove(reader)) {
      readers.add(reader);
    }
    return shares(topicList.get(of.topic).partitions, readers).get(partition);
  }

  public int nextTime(int group) {
    needIndex(group >= 0 && group < groupList.size());
    Group of = groupList.get(group);
    TreeSet<Integer> times = new TreeSet<>();
    for (Message message : all(any -> any.topic == of.topic)) {
      if (message.offset >= of.marks[message.partition]) {
        if (of.stateOf(message) == 2) {
          times.add(Math.max(time, of.givings.get(message).again));
        }
        if (of.stateOf(message) == 1) {
          times.add(Math.max(time + 1, of.givings.get(message).since + patience));
        }
      }
    }
    return times.isEmpty() ? -1 : times.first();
  }

  public int wouldDrop(int topic) {
    needIndex(topic >= 0 && topic < topicList.size());
    return outdated(topic).size();
  }

  public long digest() {
    List<Long> values = new ArrayList<>();
    add(values, clock(), topics(), groups(), ledger());
    for (int t = 0; t < topics(); t++) {
      add(values, kept(t), wouldDrop(t));
      for (int p = 0; p < topicList.get(t).partitions; p++) {
        add(values, start(t, p), endOf(t, p), stable(t, p));
        for (int offset = 0; offset < endOf(t, p); offset++) {
          for (int what = 0; what <= 4; what++) {
            add(values, message(t, p, offset, what));
          }
        }
      }
    }
    for (int g = 0; g < groups(); g++) {
      add(values, aside(g), nextTime(g));
      for (int p = 0; p < topicList.get(groupList.get(g).topic).partitions; p++) {
        add(values, reader(g, p), mark(g, p), cursor(g, p), lag(g, p));
        for (int offset = 0; offset < endOf(groupList.get(g).topic, p); offset++) {
          add(values, state(g, p, offset), tries(g, p, offset));
        }
      }
    }
    for (int g = 0; g < groups(); g++) {
      for (int r = 0; r < 6; r++) {
        add(values, wouldTake(g, r));
      }
    }
    for (int[] row : ledgerRows) {
      add(values, row);
    }
    long d = 2683;
    for (long v : values) {
      d = d * 31 + v;
    }
    return d;
  }

  private static void add(List<Long> values, int... more) {
    for (int v : more) {
      values.add((long) v);
    }
  }

  /** What holds whatever happens. */
  private void settle() {
    for (Group group : groupList) {
      for (int p = 0; p < topicList.get(group.topic).partitions; p++) {
        for (Message message : lying(group, p)) {
          int state = group.stateOf(message);
          if (message.offset == group.marks[p]
              && (state == 3 || state == 4 || message.isHidden() || message.isDropped)) {
            group.marks[p]++;
          }
        }
        group.cursors[p] = Math.max(group.cursors[p], group.marks[p]);
      }
    }
  }

  private List<Message> all(Predicate<Message> those) {
    return messageList.stream().filter(those).toList();
  }

  private List<Message> lying(int topic, int partition) {
    return all(message -> message.topic == topic && message.partition == partition);
  }

  private List<Message> lying(Group group, int partition) {
    return lying(group.topic, partition);
  }

  private void needPartition(int topic, int partition) {
    needIndex(topic >= 0 && topic < topicList.size());
    needIndex(partition >= 0 && partition < topicList.get(topic).partitions);
  }

  private void needProgress(int group, int partition) {
    needIndex(group >= 0 && group < groupList.size());
    needPartition(groupList.get(group).topic, partition);
  }

  private static void needIndex(boolean isRight) {
    if (!isRight) {
      throw new IndexOutOfBoundsException();
    }
  }

  private static void needArgument(boolean isRight) {
    if (!isRight) {
      throw new IllegalArgumentException();
    }
  }

  private static void needState(boolean isRight) {
    if (!isRight) {
      throw new IllegalStateException();
    }
  }
}
