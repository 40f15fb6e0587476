import java.util.ArrayList;

/**
 * A broker of messages.
 *
 * <p>The words in capitals mean what the "Terms" of ../shared/DOC.md say.
 */
public final class TailraceBroker {
  private static final int NOTHING = -1;
  private static final int DOUBLE = -2;

  private static final int MOST_TOPICS = 4;
  private static final int MOST_PARTITIONS = 4;
  private static final int MOST_MESSAGES = 80;
  private static final int MOST_GROUPS = 4;
  private static final int MOST_TRIES = 3;
  private static final int MOST_ROWS = 200;
  private static final int PRODUCERS = 4;
  private static final int READERS = 6;

  private static final int GREATEST_KEY = 9;
  private static final int GREATEST_VALUE = 999;
  private static final int GREATEST_CLOCK = 9999;
  private static final int GREATEST_KEEP = 200;
  private static final int GREATEST_DELAY = 20;
  private static final int GREATEST_PATIENCE = 50;
  private static final int GREATEST_WHAT = 4;

  // What take() returns is 100 * PARTITION + OFFSET.
  private static final int PLACES = 100;

  // How a MESSAGE stands, by the numbers of message().
  private static final int SEEN = 0;
  private static final int HIDDEN = 1;
  private static final int PENDING = 2;

  // What became of a MESSAGE in a GROUP, by the numbers of state().
  private static final int NEVER_GIVEN = 0;
  private static final int OUT = 1;
  private static final int AGAIN = 2;
  private static final int READ = 3;
  private static final int LAID_ASIDE = 4;

  // The sorts of a row of the LEDGER, by the numbers of row().
  private static final int ROW_GIVEN = 0;
  private static final int ROW_ACKED = 1;
  private static final int ROW_NACKED = 2;
  private static final int ROW_LAID_ASIDE = 3;

  private final ArrayList<Topic> allTopics = new ArrayList<>();
  private final ArrayList<Group> allGroups = new ArrayList<>();
  private final Ledger rows = new Ledger();
  private final boolean[] isInTransaction = new boolean[PRODUCERS];
  private int begun = 0;
  private int sent = 0;
  private int now = 0;
  private int delay = 2;
  private int patience = 10;

  public TailraceBroker() {
  }

  // ---- topics, messages, transactions

  public int topic(int partitions, boolean isCompact)
      throws IllegalArgumentException, IllegalStateException {
    if (!isWithin(partitions, 1, MOST_PARTITIONS)) {
      throw new IllegalArgumentException("a topic has 1 to 4 partitions");
    }
    if (allTopics.size() >= MOST_TOPICS) {
      throw new IllegalStateException("there are 4 topics");
    }
    allTopics.add(new Topic(partitions, isCompact));
    return allTopics.size() - 1;
  }

  public int send(int topic, int producer, int number, int key, int value)
      throws IndexOutOfBoundsException, IllegalArgumentException, IllegalStateException {
    Topic to = topicAt(topic);
    refuseOtherProducers(producer);
    if (number < 0
        || !isWithin(key, NOTHING, GREATEST_KEY)
        || !isWithin(value, 0, GREATEST_VALUE)) {
      throw new IllegalArgumentException("a number, a key or a value is out of its range");
    }
    int due = to.nextNumbers[producer];
    if (number > due) {
      throw new IllegalStateException("a number was left out");
    }
    if (number < due) {
      return DOUBLE;
    }
    if (sent >= MOST_MESSAGES) {
      throw new IllegalStateException("there were 80 messages");
    }
    sent++;
    to.nextNumbers[producer]++;
    int standing = isInTransaction[producer] ? PENDING : SEEN;
    return to.partitionFor(key).add(new Message(key, value, now, producer, standing));
  }

  public int begin(int producer) throws IndexOutOfBoundsException, IllegalStateException {
    refuseOtherProducers(producer);
    if (isInTransaction[producer]) {
      throw new IllegalStateException("its transaction is not ended");
    }
    isInTransaction[producer] = true;
    begun++;
    return begun;
  }

  public int end(int producer, boolean isDone)
      throws IndexOutOfBoundsException, IllegalStateException {
    refuseOtherProducers(producer);
    if (!isInTransaction[producer]) {
      throw new IllegalStateException("it has no transaction");
    }
    isInTransaction[producer] = false;
    int messages = 0;
    for (int t = 0; t < allTopics.size(); t++) {
      messages += allTopics.get(t).settlePending(producer, isDone ? SEEN : HIDDEN);
    }
    keepUpGroups();
    return messages;
  }

  public int setKeep(int topic, int keep)
      throws IndexOutOfBoundsException, IllegalArgumentException {
    Topic of = topicAt(topic);
    if (!isWithin(keep, 0, GREATEST_KEEP)) {
      throw new IllegalArgumentException("keep is 0 to 200");
    }
    int before = of.keep;
    of.keep = keep;
    return before;
  }

  public int clean(int topic) throws IndexOutOfBoundsException, IllegalStateException {
    Topic of = topicAt(topic);
    if (!of.isCompact) {
      throw new IllegalStateException("the topic is not compact");
    }
    int dropped = of.dropOutdated();
    keepUpGroups();
    return dropped;
  }

  public int setClock(int clock) throws IllegalArgumentException {
    if (!isWithin(clock, now + 1, GREATEST_CLOCK)) {
      throw new IllegalArgumentException("the clock goes forward, up to 9999");
    }
    now = clock;
    int nacked = 0;
    for (int g = 0; g < allGroups.size(); g++) {
      nacked += nackOverdue(g, allGroups.get(g));
    }
    for (int t = 0; t < allTopics.size(); t++) {
      allTopics.get(t).dropOld(now);
    }
    keepUpGroups();
    return nacked;
  }

  public int setPatience(int delay, int patience) throws IllegalArgumentException {
    if (!isWithin(delay, 1, GREATEST_DELAY) || !isWithin(patience, 1, GREATEST_PATIENCE)) {
      throw new IllegalArgumentException("delay is 1 to 20, patience 1 to 50");
    }
    int before = this.delay;
    this.delay = delay;
    this.patience = patience;
    return before;
  }

  public int clock() {
    return now;
  }

  public int topics() {
    return allTopics.size();
  }

  public int start(int topic, int partition) throws IndexOutOfBoundsException {
    return partitionAt(topic, partition).start;
  }

  public int endOf(int topic, int partition) throws IndexOutOfBoundsException {
    return partitionAt(topic, partition).size();
  }

  public int stable(int topic, int partition) throws IndexOutOfBoundsException {
    return partitionAt(topic, partition).stableEnd();
  }

  public int message(int topic, int partition, int offset, int what)
      throws IndexOutOfBoundsException, IllegalArgumentException {
    Partition in = partitionAt(topic, partition);
    refuseOtherOffsets(in, offset);
    refuseOtherWhats(what);
    return in.at(offset).tell(what);
  }

  public int kept(int topic) throws IndexOutOfBoundsException {
    return topicAt(topic).countKept();
  }

  // ---- groups

  public int group(int topic) throws IndexOutOfBoundsException, IllegalStateException {
    Topic of = topicAt(topic);
    if (allGroups.size() >= MOST_GROUPS) {
      throw new IllegalStateException("there are 4 groups");
    }
    Group made = new Group(of);
    made.keepUp();
    allGroups.add(made);
    return allGroups.size() - 1;
  }

  public boolean join(int group, int reader, boolean isIn) throws IndexOutOfBoundsException {
    Group of = groupAt(group);
    refuseOtherReaders(reader);
    boolean was = of.isIn[reader];
    of.isIn[reader] = isIn;
    of.share();
    return was;
  }

  public int take(int group, int reader) throws IndexOutOfBoundsException, IllegalStateException {
    Group of = groupAt(group);
    refuseOtherReaders(reader);
    if (!of.isIn[reader]) {
      throw new IllegalStateException("the reader is not in the group");
    }
    int place = of.nextPlace(reader, now);
    if (place != NOTHING) {
      int partition = place / PLACES;
      int offset = place % PLACES;
      of.progress[partition].give(offset, now);
      rows.write(ROW_GIVEN, group, partition, offset, now);
    }
    return place;
  }

  public int ack(int group, int partition, int offset)
      throws IndexOutOfBoundsException, IllegalStateException {
    Progress progress = progressAt(group, partition);
    refuseUnlessOut(progress, offset);
    progress.finish(offset);
    progress.keepUp();
    rows.write(ROW_ACKED, group, partition, offset, now);
    return progress.mark;
  }

  public int nack(int group, int partition, int offset)
      throws IndexOutOfBoundsException, IllegalStateException {
    Progress progress = progressAt(group, partition);
    refuseUnlessOut(progress, offset);
    int time = giveBack(group, partition, progress, offset);
    progress.keepUp();
    return time;
  }

  public int seek(int group, int partition, int offset)
      throws IndexOutOfBoundsException, IllegalArgumentException {
    Progress progress = progressAt(group, partition);
    if (!isWithin(offset, progress.partition.start, progress.partition.size())) {
      throw new IllegalArgumentException("the offset is not from the start to the end");
    }
    int before = progress.mark;
    progress.moveTo(offset);
    progress.keepUp();
    return before;
  }

  public int groups() {
    return allGroups.size();
  }

  public int reader(int group, int partition) throws IndexOutOfBoundsException {
    return progressAt(group, partition).reader;
  }

  public int mark(int group, int partition) throws IndexOutOfBoundsException {
    return progressAt(group, partition).mark;
  }

  public int cursor(int group, int partition) throws IndexOutOfBoundsException {
    return progressAt(group, partition).cursor;
  }

  public int state(int group, int partition, int offset) throws IndexOutOfBoundsException {
    Progress progress = progressAt(group, partition);
    refuseOtherOffsets(progress.partition, offset);
    return progress.states[offset];
  }

  public int tries(int group, int partition, int offset) throws IndexOutOfBoundsException {
    Progress progress = progressAt(group, partition);
    refuseOtherOffsets(progress.partition, offset);
    return progress.timesGiven[offset];
  }

  public int lag(int group, int partition) throws IndexOutOfBoundsException {
    return progressAt(group, partition).countUnread();
  }

  public int aside(int group) throws IndexOutOfBoundsException {
    return groupAt(group).countOf(LAID_ASIDE);
  }

  public double meanTries(int group) throws IndexOutOfBoundsException {
    Group of = groupAt(group);
    int read = of.countOf(READ);
    return read == 0 ? 0.0 : (double) of.sumOfTriesOfRead() / read;
  }

  // ---- the ledger, and what would be (nothing is changed)

  public int ledger() {
    return rows.size;
  }

  public int row(int row, int what) throws IndexOutOfBoundsException, IllegalArgumentException {
    if (!isWithin(row, 0, rows.size - 1)) {
      throw new IndexOutOfBoundsException("no such row");
    }
    refuseOtherWhats(what);
    return rows.at(row, what);
  }

  public int wouldTake(int group, int reader) throws IndexOutOfBoundsException {
    Group of = groupAt(group);
    refuseOtherReaders(reader);
    return of.nextPlace(reader, now);
  }

  public int wouldRead(int group, int reader, int partition) throws IndexOutOfBoundsException {
    Group of = groupAt(group);
    refuseOtherPartitions(of, partition);
    refuseOtherReaders(reader);
    return of.sharer(partition, reader);
  }

  public int nextTime(int group) throws IndexOutOfBoundsException {
    return groupAt(group).nextTimeFrom(now, patience);
  }

  public int wouldDrop(int topic) throws IndexOutOfBoundsException {
    return topicAt(topic).countOutdated();
  }

  public long digest() {
    long d = 2683;
    d = mix(d, now);
    d = mix(d, allTopics.size());
    d = mix(d, allGroups.size());
    d = mix(d, rows.size);
    for (int t = 0; t < allTopics.size(); t++) {
      d = mixTopic(d, allTopics.get(t));
    }
    for (int g = 0; g < allGroups.size(); g++) {
      d = mixGroup(d, allGroups.get(g));
    }
    for (int g = 0; g < allGroups.size(); g++) {
      for (int r = 0; r < READERS; r++) {
        d = mix(d, allGroups.get(g).nextPlace(r, now));
      }
    }
    for (int row = 0; row < rows.size; row++) {
      for (int what = 0; what <= GREATEST_WHAT; what++) {
        d = mix(d, rows.at(row, what));
      }
    }
    return d;
  }

  private static long mix(long d, long v) {
    return d * 31 + v;
  }

  private static long mixTopic(long before, Topic topic) {
    long d = mix(before, topic.countKept());
    d = mix(d, topic.countOutdated());
    for (int p = 0; p < topic.partitions.length; p++) {
      d = mixPartition(d, topic.partitions[p]);
    }
    return d;
  }

  private static long mixPartition(long before, Partition partition) {
    long d = mix(before, partition.start);
    d = mix(d, partition.size());
    d = mix(d, partition.stableEnd());
    for (int offset = 0; offset < partition.size(); offset++) {
      for (int what = 0; what <= GREATEST_WHAT; what++) {
        d = mix(d, partition.at(offset).tell(what));
      }
    }
    return d;
  }

  private long mixGroup(long before, Group group) {
    long d = mix(before, group.countOf(LAID_ASIDE));
    d = mix(d, group.nextTimeFrom(now, patience));
    for (int p = 0; p < group.progress.length; p++) {
      d = mixProgress(d, group.progress[p]);
    }
    return d;
  }

  private static long mixProgress(long before, Progress progress) {
    long d = mix(before, progress.reader);
    d = mix(d, progress.mark);
    d = mix(d, progress.cursor);
    d = mix(d, progress.countUnread());
    for (int offset = 0; offset < progress.partition.size(); offset++) {
      d = mix(d, progress.states[offset]);
      d = mix(d, progress.timesGiven[offset]);
    }
    return d;
  }

  private int nackOverdue(int number, Group group) {
    int nacked = 0;
    for (int p = 0; p < group.progress.length; p++) {
      Progress progress = group.progress[p];
      for (int offset = 0; offset < progress.partition.size(); offset++) {
        if (progress.isOut(offset) && now - progress.times[offset] >= patience) {
          giveBack(number, p, progress, offset);
          nacked++;
        }
      }
    }
    return nacked;
  }

  private int giveBack(int group, int partition, Progress progress, int offset) {
    int time = progress.giveBack(offset, now, delay);
    rows.write(ROW_NACKED, group, partition, offset, now);
    if (time == NOTHING) {
      rows.write(ROW_LAID_ASIDE, group, partition, offset, now);
    }
    return time;
  }

  private void keepUpGroups() {
    for (int g = 0; g < allGroups.size(); g++) {
      allGroups.get(g).keepUp();
    }
  }

  private Topic topicAt(int topic) {
    if (!isWithin(topic, 0, allTopics.size() - 1)) {
      throw new IndexOutOfBoundsException("no such topic");
    }
    return allTopics.get(topic);
  }

  private Partition partitionAt(int topic, int partition) {
    Topic of = topicAt(topic);
    if (!isWithin(partition, 0, of.partitions.length - 1)) {
      throw new IndexOutOfBoundsException("no such partition");
    }
    return of.partitions[partition];
  }

  private Group groupAt(int group) {
    if (!isWithin(group, 0, allGroups.size() - 1)) {
      throw new IndexOutOfBoundsException("no such group");
    }
    return allGroups.get(group);
  }

  private Progress progressAt(int group, int partition) {
    Group of = groupAt(group);
    refuseOtherPartitions(of, partition);
    return of.progress[partition];
  }

  private static void refuseOtherPartitions(Group group, int partition) {
    if (!isWithin(partition, 0, group.progress.length - 1)) {
      throw new IndexOutOfBoundsException("no such partition of its topic");
    }
  }

  private static void refuseOtherProducers(int producer) {
    if (!isWithin(producer, 0, PRODUCERS - 1)) {
      throw new IndexOutOfBoundsException("no such producer");
    }
  }

  private static void refuseOtherReaders(int reader) {
    if (!isWithin(reader, 0, READERS - 1)) {
      throw new IndexOutOfBoundsException("no such reader");
    }
  }

  private static void refuseOtherOffsets(Partition partition, int offset) {
    if (!partition.has(offset)) {
      throw new IndexOutOfBoundsException("no such message");
    }
  }

  private static void refuseOtherWhats(int what) {
    if (!isWithin(what, 0, GREATEST_WHAT)) {
      throw new IllegalArgumentException("what is 0 to 4");
    }
  }

  private static void refuseUnlessOut(Progress progress, int offset) {
    if (!progress.isOut(offset)) {
      throw new IllegalStateException("the offset is not out");
    }
  }

  private static boolean isWithin(int number, int least, int greatest) {
    return number >= least && number <= greatest;
  }

  /** One MESSAGE of a PARTITION. */
  private static final class Message {
    private final int key;
    private final int value;
    private final int time;
    private final int producer;
    private int standing;
    private boolean isDropped = false;

    Message(int key, int value, int time, int producer, int standing) {
      this.key = key;
      this.value = value;
      this.time = time;
      this.producer = producer;
      this.standing = standing;
    }

    boolean isKept() {
      return standing == SEEN && !isDropped;
    }

    int tell(int what) {
      switch (what) {
        case 0:
          return key;
        case 1:
          return value;
        case 2:
          return time;
        case 3:
          return standing;
        default:
          return isDropped ? 1 : 0;
      }
    }
  }

  /** A PARTITION of a TOPIC: each MESSAGE stands at its OFFSET, a DROPPED one too. */
  private static final class Partition {
    private final ArrayList<Message> messages = new ArrayList<>();
    private int start = 0;

    int size() {
      return messages.size();
    }

    boolean has(int offset) {
      return isWithin(offset, 0, messages.size() - 1);
    }

    Message at(int offset) {
      return messages.get(offset);
    }

    int add(Message message) {
      messages.add(message);
      return messages.size() - 1;
    }

    int stableEnd() {
      for (int offset = 0; offset < size(); offset++) {
        if (at(offset).standing == PENDING) {
          return offset;
        }
      }
      return size();
    }

    /** A PRODUCER has one open TRANSACTION at most: all of its that is PENDING belongs to that. */
    int settlePending(int producer, int standing) {
      int settled = 0;
      for (int offset = 0; offset < size(); offset++) {
        Message message = at(offset);
        if (message.standing == PENDING && message.producer == producer) {
          message.standing = standing;
          settled++;
        }
      }
      return settled;
    }

    void dropOld(int clock, int keep) {
      while (start < size() && isOld(at(start), clock, keep)) {
        at(start).isDropped = true;
        start++;
      }
    }

    private static boolean isOld(Message message, int clock, int keep) {
      return message.standing != PENDING && clock - message.time >= keep;
    }

    int countKept() {
      int kept = 0;
      for (int offset = 0; offset < size(); offset++) {
        if (at(offset).isKept()) {
          kept++;
        }
      }
      return kept;
    }

    int countOutdated() {
      int stableEnd = stableEnd();
      int outdated = 0;
      for (int offset = 0; offset < stableEnd; offset++) {
        if (isOutdated(offset, stableEnd)) {
          outdated++;
        }
      }
      return outdated;
    }

    int dropOutdated() {
      int stableEnd = stableEnd();
      int dropped = 0;
      for (int offset = 0; offset < stableEnd; offset++) {
        if (isOutdated(offset, stableEnd)) {
          at(offset).isDropped = true;
          dropped++;
        }
      }
      return dropped;
    }

    private boolean isOutdated(int offset, int stableEnd) {
      Message message = at(offset);
      if (!message.isKept() || message.key == NOTHING) {
        return false;
      }
      for (int later = offset + 1; later < stableEnd; later++) {
        if (at(later).standing == SEEN && at(later).key == message.key) {
          return true;
        }
      }
      return false;
    }
  }

  /** A TOPIC with its PARTITIONS. */
  private static final class Topic {
    private final Partition[] partitions;
    private final boolean isCompact;
    private final int[] nextNumbers = new int[PRODUCERS];
    private int keep = 0;

    /** Its count of PARTITIONS is looked at by the caller: a constructor does not throw. */
    Topic(int count, boolean isCompact) {
      this.isCompact = isCompact;
      partitions = new Partition[count];
      for (int p = 0; p < count; p++) {
        partitions[p] = new Partition();
      }
    }

    Partition partitionFor(int key) {
      if (key != NOTHING) {
        return partitions[key % partitions.length];
      }
      Partition fewest = partitions[0];
      for (int p = 1; p < partitions.length; p++) {
        if (partitions[p].size() < fewest.size()) {
          fewest = partitions[p];
        }
      }
      return fewest;
    }

    int settlePending(int producer, int standing) {
      int settled = 0;
      for (int p = 0; p < partitions.length; p++) {
        settled += partitions[p].settlePending(producer, standing);
      }
      return settled;
    }

    void dropOld(int clock) {
      if (keep == 0) {
        return;
      }
      for (int p = 0; p < partitions.length; p++) {
        partitions[p].dropOld(clock, keep);
      }
    }

    int dropOutdated() {
      int dropped = 0;
      for (int p = 0; p < partitions.length; p++) {
        dropped += partitions[p].dropOutdated();
      }
      return dropped;
    }

    int countOutdated() {
      int outdated = 0;
      for (int p = 0; p < partitions.length; p++) {
        outdated += partitions[p].countOutdated();
      }
      return outdated;
    }

    int countKept() {
      int kept = 0;
      for (int p = 0; p < partitions.length; p++) {
        kept += partitions[p].countKept();
      }
      return kept;
    }
  }

  /** Where a GROUP stands in one PARTITION, and what became of each OFFSET there. */
  private static final class Progress {
    private final Partition partition;
    private final int[] states = new int[MOST_MESSAGES];
    private final int[] timesGiven = new int[MOST_MESSAGES];
    // Of what is OUT when it was given; of what is to be given AGAIN its TIME.
    private final int[] times = new int[MOST_MESSAGES];
    private int reader = NOTHING;
    private int mark;
    private int cursor;

    Progress(Partition partition) {
      this.partition = partition;
      mark = partition.start;
      cursor = partition.start;
    }

    boolean isOut(int offset) {
      return partition.has(offset) && states[offset] == OUT;
    }

    /** The OFFSET that the PARTITION GIVES. */
    int nextOffset(int clock) {
      for (int offset = mark; offset < partition.size(); offset++) {
        if (states[offset] == AGAIN && times[offset] <= clock) {
          return offset;
        }
      }
      int stableEnd = partition.stableEnd();
      for (int offset = cursor; offset < stableEnd; offset++) {
        if (states[offset] == NEVER_GIVEN && partition.at(offset).isKept()) {
          return offset;
        }
      }
      return NOTHING;
    }

    void give(int offset, int clock) {
      if (states[offset] == NEVER_GIVEN) {
        cursor = offset + 1;
      }
      states[offset] = OUT;
      timesGiven[offset]++;
      times[offset] = clock;
    }

    void finish(int offset) {
      states[offset] = READ;
    }

    /** NACKS: its TIME, or NOTHING if it is LAID ASIDE. */
    int giveBack(int offset, int clock, int delay) {
      if (timesGiven[offset] >= MOST_TRIES) {
        states[offset] = LAID_ASIDE;
        return NOTHING;
      }
      states[offset] = AGAIN;
      times[offset] = clock + (delay << (timesGiven[offset] - 1));
      return times[offset];
    }

    void moveTo(int offset) {
      for (int below = 0; below < offset; below++) {
        if (isUnderway(below)) {
          forget(below);
        }
      }
      for (int from = offset; from < partition.size(); from++) {
        forget(from);
      }
      mark = offset;
      cursor = offset;
    }

    void handTo(int newReader) {
      if (newReader == reader) {
        return;
      }
      reader = newReader;
      for (int offset = 0; offset < partition.size(); offset++) {
        if (states[offset] == OUT) {
          forget(offset);
        }
      }
      cursor = mark;
    }

    /** What holds whatever happens: the broker asks for it behind each change. */
    void keepUp() {
      for (int offset = 0; offset < partition.size(); offset++) {
        if (partition.at(offset).isDropped && isUnderway(offset)) {
          forget(offset);
        }
      }
      while (mark < partition.size() && isBehind(mark)) {
        mark++;
      }
      cursor = Math.max(cursor, mark);
    }

    private boolean isBehind(int offset) {
      Message message = partition.at(offset);
      return message.isDropped || message.standing == HIDDEN || isThrough(offset);
    }

    private boolean isThrough(int offset) {
      return states[offset] == READ || states[offset] == LAID_ASIDE;
    }

    private boolean isUnderway(int offset) {
      return states[offset] == OUT || states[offset] == AGAIN;
    }

    private void forget(int offset) {
      states[offset] = NEVER_GIVEN;
      timesGiven[offset] = 0;
    }

    int countUnread() {
      int stableEnd = partition.stableEnd();
      int unread = 0;
      for (int offset = mark; offset < stableEnd; offset++) {
        if (partition.at(offset).isKept() && !isThrough(offset)) {
          unread++;
        }
      }
      return unread;
    }

    int countOf(int state) {
      int count = 0;
      for (int offset = 0; offset < partition.size(); offset++) {
        if (states[offset] == state) {
          count++;
        }
      }
      return count;
    }

    int sumOfTriesOfRead() {
      int sum = 0;
      for (int offset = 0; offset < partition.size(); offset++) {
        if (states[offset] == READ) {
          sum += timesGiven[offset];
        }
      }
      return sum;
    }

    int nextTimeFrom(int clock, int patience) {
      int next = NOTHING;
      for (int offset = mark; offset < partition.size(); offset++) {
        if (states[offset] == AGAIN) {
          next = earlier(next, Math.max(times[offset], clock));
        } else if (states[offset] == OUT) {
          next = earlier(next, Math.max(times[offset] + patience, clock + 1));
        }
      }
      return next;
    }

    static int earlier(int time, int other) {
      if (time == NOTHING) {
        return other;
      }
      return other == NOTHING ? time : Math.min(time, other);
    }
  }

  /** A GROUP: its progress in each PARTITION of its TOPIC, and the READERS that share them. */
  private static final class Group {
    private final Progress[] progress;
    private final boolean[] isIn = new boolean[READERS];

    Group(Topic topic) {
      progress = new Progress[topic.partitions.length];
      for (int p = 0; p < progress.length; p++) {
        progress[p] = new Progress(topic.partitions[p]);
      }
    }

    void share() {
      for (int p = 0; p < progress.length; p++) {
        progress[p].handTo(sharer(p, NOTHING));
      }
    }

    /** Which READER has a PARTITION, if the changed one came or went; NOTHING if none changes. */
    int sharer(int partition, int changed) {
      int readers = countReaders(changed);
      if (readers == 0) {
        return NOTHING;
      }
      int share = progress.length / readers;
      int greaterShares = progress.length % readers;
      int shared = 0;
      int rank = 0;
      for (int reader = 0; reader < READERS; reader++) {
        if (isInWith(reader, changed)) {
          shared += rank < greaterShares ? share + 1 : share;
          rank++;
          if (partition < shared) {
            return reader;
          }
        }
      }
      return NOTHING;
    }

    private int countReaders(int changed) {
      int readers = 0;
      for (int reader = 0; reader < READERS; reader++) {
        if (isInWith(reader, changed)) {
          readers++;
        }
      }
      return readers;
    }

    private boolean isInWith(int reader, int changed) {
      return isIn[reader] != (reader == changed);
    }

    /** What take() would return. */
    int nextPlace(int reader, int clock) {
      for (int p = 0; p < progress.length; p++) {
        if (progress[p].reader == reader) {
          int offset = progress[p].nextOffset(clock);
          if (offset != NOTHING) {
            return PLACES * p + offset;
          }
        }
      }
      return NOTHING;
    }

    void keepUp() {
      for (int p = 0; p < progress.length; p++) {
        progress[p].keepUp();
      }
    }

    int countOf(int state) {
      int count = 0;
      for (int p = 0; p < progress.length; p++) {
        count += progress[p].countOf(state);
      }
      return count;
    }

    int sumOfTriesOfRead() {
      int sum = 0;
      for (int p = 0; p < progress.length; p++) {
        sum += progress[p].sumOfTriesOfRead();
      }
      return sum;
    }

    int nextTimeFrom(int clock, int patience) {
      int next = NOTHING;
      for (int p = 0; p < progress.length; p++) {
        next = Progress.earlier(next, progress[p].nextTimeFrom(clock, patience));
      }
      return next;
    }
  }

  /** The LEDGER; its rows stand one behind the other. */
  private static final class Ledger {
    private static final int WIDTH = 5;

    private final int[] cells = new int[WIDTH * MOST_ROWS];
    private int size = 0;

    void write(int sort, int group, int partition, int offset, int clock) {
      if (size >= MOST_ROWS) {
        return;
      }
      int from = WIDTH * size;
      cells[from] = sort;
      cells[from + 1] = group;
      cells[from + 2] = partition;
      cells[from + 3] = offset;
      cells[from + 4] = clock;
      size++;
    }

    int at(int row, int what) {
      return cells[WIDTH * row + what];
    }
  }
}
