/** What the tests of the promises share: counts what is not as due, and tells objects what they want often. */
final class Due {
  private int wrong = 0;
  private int looked = 0;

  void is(String call, long got, long want) {
    looked++;
    if (got != want) {
      wrong++;
      System.out.println(call + " answered " + got + ", due is " + want);
    }
  }

  /** How many REFUSALS of each kind there were. */
  void refusals(String when, BeamHall x, int... want) {
    for (int i = 0; i < 6; i++) is(when + ": count(" + (11 + i) + ")", x.count(11 + i), want[i]);
  }

  void end(String what) {
    System.out.println(what + ": " + looked + " answers, " + wrong + " not as due");
    if (wrong != 0) System.exit(1);
  }

  static void feed(BeamHall x, String t) {
    for (int i = 0; i < t.length();) {
      int n = Math.min(8, t.length() - i);
      long bytes = 0;
      for (int j = 0; j < n; j++) bytes |= (long) t.charAt(i + j) << 8 * j;
      x.feed(n, bytes);
      i += n;
    }
  }

  static int text(BeamHall x, String t, int from) {
    feed(x, t);
    return x.text(from);
  }

  /** An ASK of KIND 0 of a GROUP, LAND 0, of some SHIFTS, that any BENCH and MODE would do. */
  static int ask(BeamHall x, int group, int length) {
    x.draft(group, 0, length, 0);
    return x.ask(0, 63, 15, -1, 0, 0, 0);
  }

  static int askOf(BeamHall x, int kind, int group, int length, int from, int to) {
    x.draft(group, 0, length, 0);
    return x.ask(kind, 63, 15, -1, 0, from, to);
  }

  /** Some BENCHES that can all and where all HOSTS stand, without REST. */
  static BeamHall hall(int benches) {
    BeamHall x = new BeamHall();
    for (int i = 0; i < benches; i++) x.bench(255, 255);
    x.set(0, 0);
    return x;
  }
}
