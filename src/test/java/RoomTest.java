import java.lang.management.ManagementFactory;

/** What a run of 512 calls makes stays far below the one room of 7.3 million elements, whatever it calls. */
public final class RoomTest {
  private static final long MOST_BYTES = 400_000;

  public static void main(String[] args) {
    com.sun.management.ThreadMXBean bean = (com.sun.management.ThreadMXBean) ManagementFactory.getThreadMXBean();
    run();
    long before = bean.getCurrentThreadAllocatedBytes();
    int calls = run();
    long made = bean.getCurrentThreadAllocatedBytes() - before;
    System.out.println("RoomTest: " + calls + " calls made " + made + " bytes");
    if (calls > 512 || made > MOST_BYTES) System.exit(1);
  }

  /** The dearest run: all ASKS are moved in each HOUR, so that most has to be kept. */
  private static int run() {
    BeamHall x = new BeamHall();
    int calls = 6;
    for (int i = 0; i < 6; i++) x.bench(255, 255);
    for (int i = 0; i < 30; i++) calls += 1 + (Due.ask(x, i % 10, 4) >= 0 ? 1 : 0);
    x.set(0, 0);
    x.plan(100, 199);
    x.mode(1, 99, 4);
    boolean late = true;
    for (calls += 3; calls + 4 <= 512; calls += 4) {
      x.mode(100, 149, late ? 4 : 0);
      x.mode(150, 199, late ? 0 : 4);
      if (x.again() != 30) throw new IllegalStateException("not all were moved");
      x.hours(1);
      late = !late;
    }
    return calls;
  }
}
