/**
 * Rule 7: no call ever throws or fails to end, for any arguments in any state, beyond the 512th
 * call too. What throws ends this program with an exit code of its own.
 */
public final class EndlessTest {
  private static final int[] ODD = {Integer.MIN_VALUE, Integer.MIN_VALUE + 1, -1000000, -200, -31, -10, -9, -6, -2, -1,
      0, 1, 2, 3, 4, 5, 6, 7, 8, 9, 10, 15, 19, 20, 21, 29, 30, 31, 32, 50, 51, 60, 61, 63, 64, 99, 100, 101, 196, 198, 199,
      200, 201, 255, 256, 1599, 1600, 1601, 1 << 29, 1 << 30, Integer.MAX_VALUE - 1, Integer.MAX_VALUE};
  private static final String SIGNS = "BWO:kglndmsbt0123456789+-*<=>!()&|/";
  private static long seed = 1;
  private static int answered = 0;
  private static int refused = 0;

  private static int next(int n) {
    seed = seed * 6364136223846793005L + 1442695040888963407L;
    return (int) ((seed >>> 33) % n);
  }

  private static int any() {
    int how = next(4);
    return how == 0 ? ODD[next(ODD.length)] : how == 1 ? next(200) : next(6);
  }

  public static void main(String[] args) {
    for (int run = 0; run < 400; run++) run(new BeamHall(), run % 40 == 0 ? 20000 : 1000, run % 3);
    System.out.println("EndlessTest: every call ended (" + answered + " answered, " + refused + " refused)");
  }

  private static void run(BeamHall x, int calls, int how) {
    if (how > 0) for (int i = 0; i < 6; i++) x.bench(255, how == 1 ? 255 : next(256));
    if (how > 0) for (int i = next(30); i > 0; i--) Due.ask(x, next(10), 1 + next(4));
    if (how > 1) x.set(0, next(4));
    if (how > 1) x.plan(0, 199);
    for (int i = 0; i < calls; i++) {
      int answer = call(x, next(37));
      if (answer < 0 && answer >= -6 || answer > 999999999) refused++;
      else answered++;
    }
  }

  private static int call(BeamHall x, int which) {
    int a = any(), b = any(), c = any(), d = any();
    switch (which) {
      case 0: return x.hours(next(60) > 0 ? next(4) : a);
      case 1: return x.mode(a, b, c);
      case 2: return x.trip(a, b);
      case 3: return x.shiftOf(a, b, c);
      case 4: return x.bench(a, b);
      case 5: return x.set(a, b);
      case 6: return x.draft(a, b, c, d);
      case 7: return x.ask(a, next(64), next(16), any(), d, b, c);
      case 8: return next(5) == 0 ? x.withdraw(a) : 0;
      case 9: return x.askOf(a, b);
      case 10: return feed(x);
      case 11: return x.text(a);
      case 12: return x.strike(a, b);
      case 13: return x.barred(a, b, c, d);
      case 14: return x.kin(a, b);
      case 15: return x.mark(a, b, c);
      case 16: return x.markOf(a);
      case 17: return x.habit(a, b);
      case 18: return x.fit(a, b, c);
      case 19: return x.give(a, b, c);
      case 20: return x.take(a);
      case 21: return x.plan(a, b);
      case 22: return x.passed(a);
      case 23: return x.why(a, b, c, d, any());
      case 24: return x.best(a, b, c, d);
      case 25: return x.hosts(a, b);
      case 26: return x.owe(a);
      case 27: return x.again();
      case 28: return x.danger(a, b);
      case 29: return x.wish(a, b, c > 0);
      case 30: return x.ring(a);
      case 31: return x.swap();
      case 32: return x.had(a, b, c);
      case 33: return x.lead(a, b);
      case 34: return x.put(a);
      case 35: return x.check(a, b, c);
      default: return x.count(a);
    }
  }

  private static int feed(BeamHall x) {
    if (next(3) == 0) return x.feed(any(), seed);
    if (next(3) == 0) Due.feed(x, "BWO".charAt(next(3)) + ":k=1");
    StringBuilder t = new StringBuilder();
    for (int i = next(8); i >= 0; i--) t.append(SIGNS.charAt(next(SIGNS.length())));
    Due.feed(x, t.toString());
    return 0;
  }
}
