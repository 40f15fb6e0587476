/** The run that README.md shows, call by call. */
public final class ReadmeTest {
  private static final Check CHECK = new Check("ReadmeTest");

  private ReadmeTest() {
  }

  public static void main(String[] arguments) {
    TailraceBroker broker = new TailraceBroker();
    int topic = broker.topic(3, false);
    broker.send(topic, 0, 0, 7, 42);
    broker.begin(1);
    broker.send(topic, 1, 0, -1, 43);
    broker.end(1, true);

    int group = broker.group(topic);
    broker.join(group, 2, true);
    int place = broker.take(group, 2);
    CHECK.due("the first place", place, 0);
    broker.ack(group, place / 100, place % 100);
    CHECK.due("it is read", broker.state(group, 0, 0), 3);
    place = broker.take(group, 2);
    CHECK.due("the second place", place, 100);
    CHECK.due("out for too long", broker.setClock(10), 1);
    CHECK.due("to be given again", broker.nextTime(group), 12);
    CHECK.noState("a reader that is not in the group", broker, () -> broker.take(group, 3));
    CHECK.end();
  }
}
