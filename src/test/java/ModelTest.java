import java.util.ArrayList;
import java.util.List;

/** Many runs of calls, made by a row of numbers that is always the same, on BeamHall and on Model: all answers are alike. */
public final class ModelTest {
  private static final String[] NAMES = {"hours", "mode", "trip", "shiftOf", "bench", "set", "draft", "ask", "withdraw",
      "askOf", "feed", "text", "strike", "barred", "kin", "mark", "markOf", "habit", "fit", "give", "take", "plan",
      "passed", "why", "best", "hosts", "owe", "again", "danger", "wish", "ring", "swap", "had", "lead", "put",
      "check", "count"};
  // How often a call comes, in the order of NAMES.
  private static final int[] OFTEN = {5, 6, 3, 2, 1, 2, 6, 8, 1,
      6, 0, 5, 2, 6, 1, 8, 3, 3, 8, 8, 4, 5,
      3, 5, 3, 4, 3, 5, 3, 12, 6, 3, 4, 2, 2,
      2, 2};

  private long seed;
  private BeamHall hall;
  private Model model;
  private List<String> told;
  private int span;
  private int mostTexts;
  private int mostAsks;
  private boolean wild;
  private boolean wishful;
  private static final int[] RINGS = new int[6];
  private static final int[] BARS = new int[13];

  private int next(int n) {
    seed = seed * 6364136223846793005L + 1442695040888963407L;
    return (int) ((seed >>> 33) % n);
  }

  public static void main(String[] args) {
    int runs = args.length > 0 ? Integer.parseInt(args[0]) : 3000;
    long from = args.length > 1 ? Long.parseLong(args[1]) : 1;
    int[] answers = new int[NAMES.length];
    int[] refused = new int[NAMES.length];
    for (int run = 0; run < runs; run++) {
      ModelTest test = new ModelTest();
      test.seed = from * 1000003 + run * 7919L;
      if (!test.run(answers, refused)) {
        System.out.println("run " + run + ": BeamHall and Model differ");
        System.exit(1);
      }
    }
    StringBuilder line = new StringBuilder();
    for (int i = 0; i < NAMES.length; i++) {
      line.append(NAMES[i]).append(' ').append(answers[i]).append('/').append(refused[i]).append(' ');
    }
    System.out.println("ring(-1) answered " + java.util.Arrays.toString(RINGS));
    System.out.println("fit and why answered " + java.util.Arrays.toString(BARS));
    System.out.println(runs + " runs alike; answers/refusals: " + line);
  }

  private boolean run(int[] answers, int[] refused) {
    hall = new BeamHall();
    model = new Model();
    told = new ArrayList<>();
    span = 4 + next(30);
    wild = next(8) == 0;
    mostTexts = next(4) == 0 ? 20 : next(4);
    mostAsks = next(4) == 0 ? 30 : 4 + next(10);
    wishful = next(5) == 0;
    int setUp = 1 + next(3);
    boolean many = next(3) > 0;
    for (int i = 0; i < setUp; i++) {
      if (!same("bench", 255 - next(3) * next(60), many ? 255 : 1 + next(255), 0, 0, 0, 0, 0)) return false;
    }
    if (next(2) == 0 && !same("set", 0, many ? 0 : next(4), 0, 0, 0, 0, 0)) return false;
    int length = next(3) == 0 ? 1 : 4;
    for (int i = next(12); i > 0; i--) if (!newAsk(length)) return false;
    int total = 0;
    for (int n : OFTEN) total += n;
    while (told.size() < 500) {
      int pick = next(total), call = 0;
      while (pick >= OFTEN[call]) pick -= OFTEN[call++];
      if (wishful && next(2) == 0) call = 29 + next(12) / 11 * (1 + next(2));
      boolean fine = call == 7 ? newAsk(length) : call == 11 ? newText() : any(NAMES[call]);
      if (!fine) return false;
      if (last >= -6 && last < 0 && !NAMES[call].equals("count")) refused[call]++;
      else answers[call]++;
    }
    for (int i = 0; i <= 17; i++) if (!same("count", i, 0, 0, 0, 0, 0, 0)) return false;
    return true;
  }

  private boolean newAsk(int length) {
    if (model.asks.size() >= mostAsks && next(9) > 0) return true;
    if (!same("draft", next(10), next(5), 1 + next(length), next(3), 0, 0, 0)) return false;
    int kind = next(3) == 0 ? next(5) : 0;
    int x = kind == 1 ? next(model.asks.size() + 1) : shift();
    int y = kind == 1 ? next(4) : x + next(12);
    return same("ask", kind, next(4) == 0 ? next(64) : 63, next(4) == 0 ? next(16) : 15, next(3) - 1, next(10), x, y);
  }

  private boolean newText() {
    if (model.rules.size() >= mostTexts && next(30) > 0) return true;
    String t = next(5) == 0 ? "O:" + sum() : (next(2) == 0 ? "B:" : "W:") + (next(2) == 0 ? "s=" + shift() + "&" : "") + rule(0);
    if (t.length() > 50) t = t.substring(0, 50);
    if (next(6) == 0) {
      int at = next(t.length());
      t = t.substring(0, at) + "kd1+(!)&|/<=x09 B".charAt(next(17)) + t.substring(Math.min(t.length(), at + next(2)));
    }
    for (int i = 0; i < t.length();) {
      int n = Math.min(1 + next(8), t.length() - i);
      if (!feed(t.substring(i, i + n))) return false;
      i += n;
    }
    return same("text", next(3) == 0 ? shift() : next(3) * 2, 0, 0, 0, 0, 0, 0);
  }

  private boolean feed(String part) {
    long bytes = 0;
    for (int i = 0; i < part.length(); i++) bytes |= (long) part.charAt(i) << 8 * i;
    int got = hall.feed(part.length(), bytes), due = model.feed(part.length(), bytes);
    told.add("feed " + part + " = " + got);
    return compare(got, due);
  }

  private String rule(int depth) {
    StringBuilder t = new StringBuilder(part(depth));
    for (int i = next(3); i > 0; i--) t.append("/|&".charAt(next(3))).append(part(depth));
    return t.toString();
  }

  private String part(int depth) {
    int how = next(5);
    if (how == 0 && depth < 5) return "!" + part(depth + 1);
    if (how == 1 && depth < 5) return "(" + rule(depth + 1) + ")";
    return sum() + "<=>".charAt(next(3)) + sum();
  }

  private String sum() {
    StringBuilder t = new StringBuilder(unit());
    for (int i = next(3) - 1; i > 0; i--) t.append("+-*".charAt(next(3))).append(unit());
    return t.toString();
  }

  private String unit() {
    return next(2) == 0 ? "" + "kglndmsbt".charAt(next(9)) : "" + (next(4) == 0 ? next(1000) : next(10));
  }

  private int shift() { return Math.min(199, model.now / 8 + next(span)); }

  private int askNumber() { return model.asks.isEmpty() ? 0 : next(model.asks.size()); }

  private int benchNumber() { return model.benches.isEmpty() ? 0 : next(model.benches.size()); }

  private int hourNumber() { return model.now == 0 ? 0 : next(model.now + 1); }

  private boolean any(String name) {
    if (next(wild ? 6 : 60) == 0) return wildly(name);
    int a = askNumber(), b = benchNumber(), s = shift();
    switch (name) {
      case "hours": return same(name, next(8) == 0 ? next(40) : next(3) * next(6), 0, 0, 0, 0, 0, 0);
      case "mode": return same(name, s, Math.min(199, s + next(4)), next(2) == 0 ? 0 : next(5), 0, 0, 0, 0);
      case "trip": return same(name, Math.max(0, model.now - next(20)), 1 + next(next(2) == 0 ? 60 : 9), 0, 0, 0, 0, 0);
      case "shiftOf": return same(name, next(2) == 0 ? s : model.now / 8 % 200, next(2), hourNumber(), 0, 0, 0, 0);
      case "bench": return same(name, next(256), next(256), 0, 0, 0, 0, 0);
      case "set": return setting();
      case "draft": return same(name, next(10), next(5), 1 + next(4), next(8), 0, 0, 0);
      case "owe": return same(name, lossy(a), 0, 0, 0, 0, 0, 0);
      case "withdraw": case "markOf": return same(name, a, 0, 0, 0, 0, 0, 0);
      case "askOf": return same(name, a, next(10), 0, 0, 0, 0, 0);
      case "strike": return same(name, next(6), s, 0, 0, 0, 0, 0);
      case "barred": return same(name, a, b, s, next(5), 0, 0, 0);
      case "kin": return same(name, next(6), next(10), 0, 0, 0, 0, 0);
      case "mark": return same(name, next(6), a, next(101), 0, 0, 0, 0);
      case "habit": return same(name, next(6), next(2), 0, 0, 0, 0, 0);
      case "fit": return same(name, a, b, s, 0, 0, 0, 0);
      case "give": return give(a, b, s);
      case "take": return same(name, placed(a), 0, 0, 0, 0, 0, 0);
      case "danger": return same(name, placed(a), next(10), 0, 0, 0, 0, 0);
      case "plan": return same(name, s, Math.min(199, s + next(16)), 0, 0, 0, 0, 0);
      case "passed": return same(name, next(6) - 1, 0, 0, 0, 0, 0, 0);
      case "why": return same(name, a, b, s, Math.max(0, s - next(5)), Math.min(199, s + next(12)), 0, 0);
      case "best": return best();
      case "hosts": case "lead": return same(name, b, s, 0, 0, 0, 0, 0);
      case "had": return same(name, b, s, hourNumber(), 0, 0, 0, 0);
      case "wish":
        if (wishful && next(4) > 0) return wishesAround();
        return same(name, placed(a), placed(askNumber()), next(7) == 0 ? 0 : 1, 0, 0, 0, 0);
      case "ring": return same(name, next(7) - 1, 0, 0, 0, 0, 0, 0);
      case "put": return same(name, model.asks.isEmpty() ? -9 : next(3) == 0 ? -9 : a, 0, 0, 0, 0, 0, 0);
      case "check": return check();
      case "count": return same(name, next(18), 0, 0, 0, 0, 0, 0);
      default: return same(name, 0, 0, 0, 0, 0, 0, 0);
    }
  }

  private int lossy(int a) {
    for (int i = 0; i < 2 * model.asks.size() && model.owed(a) == 0; i++) a = askNumber();
    return a;
  }

  private int placed(int a) {
    for (int i = 0; i < model.asks.size() && model.asks.get(a).place == null; i++) a = askNumber();
    return a;
  }

  private boolean give(int a, int b, int s) {
    boolean none = model.asks.isEmpty() || model.benches.isEmpty();
    for (int i = 0; i < 40 && !none && (model.asks.get(a).place != null || model.fitOf(a, b, s) != 0); i++) {
      a = askNumber();
      b = benchNumber();
      s = shift();
    }
    return same("give", a, b, s, 0, 0, 0, 0);
  }

  /** Some ASKS with PLACES wish around; then the RING, and now and then all WISHES of one are taken back. */
  private boolean wishesAround() {
    int n = 3 + next(3), first = placed(askNumber()), from = first;
    for (int i = 0; i < model.asks.size() && next(3) > 0; i++) {
      if (model.wishes[from][i] && !same("wish", from, i, 0, 0, 0, 0, 0)) return false;
    }
    for (int i = 1; i < n; i++) {
      int to = placed(askNumber());
      if (!same("wish", from, to, 1, 0, 0, 0, 0)) return false;
      from = to;
    }
    return same("wish", from, first, 1, 0, 0, 0, 0) && same("ring", -1, 0, 0, 0, 0, 0, 0)
        && same("ring", 4, 0, 0, 0, 0, 0, 0);
  }

  private boolean setting() {
    int what = next(3);
    return same("set", what, what == 0 ? next(4) : what == 1 ? (next(2) == 0 ? 100 : next(101)) : next(2), 0, 0, 0, 0, 0);
  }

  private boolean best() {
    int set = 0, a = shift(), member = -1;
    int span = next(8);
    int spots = model.benches.size() * (span + 1);
    int most = spots > 16 ? 2 : spots > 8 ? 3 : 4;
    for (int i = 0; i < 12 && Integer.bitCount(set) < most; i++) {
      int n = askNumber();
      if (n < model.asks.size() && model.asks.get(n).place == null && !model.asks.get(n).withdrawn) { set |= 1 << n; member = n; }
    }
    int b = Math.min(199, a + span);
    return same("best", a, b, set, -1, 0, 0, 0) && (member < 0 || same("best", a, b, set, member, 0, 0, 0));
  }

  private boolean check() {
    int b = benchNumber(), s = shift(), k = hourNumber();
    int n = next(5);
    for (int i = 0; i < n && s + model.row.size() < 200; i++) {
      int who = model.benches.isEmpty() ? -9 : model.hadOn(b, s + model.row.size(), k);
      if (!same("put", next(9) == 0 ? 3 : who, 0, 0, 0, 0, 0, 0)) return false;
    }
    return same("check", b, s, k, 0, 0, 0, 0);
  }

  private static final int[] ODD = {-2147483648, -10, -2, -1, 0, 1, 2, 3, 4, 5, 6, 7, 8, 9, 10, 20, 29, 30, 31, 60, 61,
      63, 64, 100, 101, 199, 200, 255, 256, 1600, 1601, 1 << 29, 1 << 30, 2147483647};

  private int odd() { return ODD[next(ODD.length)]; }

  private boolean wildly(String name) {
    int n = name.equals("ring") || name.equals("swap") ? 1 : 7;
    int[] v = new int[7];
    for (int i = 0; i < n; i++) v[i] = next(2) == 0 ? odd() : next(4);
    if (name.equals("hours") && v[0] > 9) v[0] = 1601;
    if (name.equals("best")) v[2] &= ~8;
    return same(name, v[0], v[1], v[2], v[3], v[4], v[5], v[6]);
  }

  private int last;

  private boolean same(String name, int a, int b, int c, int d, int e, int f, int g) {
    // Model tries all places of all: too many are not asked for.
    if (name.equals("best") && Integer.bitCount(c) > 2 && model.benches.size() * (b - a + 1) > 16) return true;
    if (name.equals("best") && Integer.bitCount(c) > 3 && model.benches.size() * (b - a + 1) > 8) return true;
    int due = ofModel(name, a, b, c, d, e, f, g);
    int got = ofHall(name, a, b, c, d, e, f, g);
    if (name.equals("ring") && a == -1) RINGS[due]++;
    if ((name.equals("fit") || name.equals("why")) && due >= 0) BARS[due]++;
    told.add(name + "(" + a + ", " + b + ", " + c + ", " + d + ", " + e + ", " + f + ", " + g + ") = " + due);
    return compare(got, due);
  }

  private boolean compare(int got, int due) {
    last = got;
    if (got == due) return true;
    for (String call : told) System.out.println(call);
    System.out.println("the last one answered " + got + ", due is " + due);
    return false;
  }

  private int ofModel(String name, int a, int b, int c, int d, int e, int f, int g) {
    Model x = model;
    switch (name) {
      case "hours": return x.hours(a);
      case "mode": return x.mode(a, b, c);
      case "trip": return x.trip(a, b);
      case "shiftOf": return x.shiftOf(a, b, c);
      case "bench": return x.bench(a, b);
      case "set": return x.set(a, b);
      case "draft": return x.draft(a, b, c, d);
      case "ask": return x.ask(a, b, c, d, e, f, g);
      case "withdraw": return x.withdraw(a);
      case "askOf": return x.askOf(a, b);
      case "feed": return x.feed(a, b);
      case "text": return x.text(a);
      case "strike": return x.strike(a, b);
      case "barred": return x.barred(a, b, c, d);
      case "kin": return x.kin(a, b);
      case "mark": return x.mark(a, b, c);
      case "markOf": return x.markOf(a);
      case "habit": return x.habit(a, b);
      case "fit": return x.fit(a, b, c);
      case "give": return x.give(a, b, c);
      case "take": return x.take(a);
      case "plan": return x.plan(a, b);
      case "passed": return x.passed(a);
      case "why": return x.why(a, b, c, d, e);
      case "best": return x.best(a, b, c, d);
      case "hosts": return x.hosts(a, b);
      case "owe": return x.owe(a);
      case "again": return x.again();
      case "danger": return x.danger(a, b);
      case "wish": return x.wish(a, b, c > 0);
      case "ring": return x.ring(a);
      case "swap": return x.swap();
      case "had": return x.had(a, b, c);
      case "lead": return x.lead(a, b);
      case "put": return x.put(a);
      case "check": return x.check(a, b, c);
      default: return x.count(a);
    }
  }

  private int ofHall(String name, int a, int b, int c, int d, int e, int f, int g) {
    BeamHall x = hall;
    switch (name) {
      case "hours": return x.hours(a);
      case "mode": return x.mode(a, b, c);
      case "trip": return x.trip(a, b);
      case "shiftOf": return x.shiftOf(a, b, c);
      case "bench": return x.bench(a, b);
      case "set": return x.set(a, b);
      case "draft": return x.draft(a, b, c, d);
      case "ask": return x.ask(a, b, c, d, e, f, g);
      case "withdraw": return x.withdraw(a);
      case "askOf": return x.askOf(a, b);
      case "feed": return x.feed(a, b);
      case "text": return x.text(a);
      case "strike": return x.strike(a, b);
      case "barred": return x.barred(a, b, c, d);
      case "kin": return x.kin(a, b);
      case "mark": return x.mark(a, b, c);
      case "markOf": return x.markOf(a);
      case "habit": return x.habit(a, b);
      case "fit": return x.fit(a, b, c);
      case "give": return x.give(a, b, c);
      case "take": return x.take(a);
      case "plan": return x.plan(a, b);
      case "passed": return x.passed(a);
      case "why": return x.why(a, b, c, d, e);
      case "best": return x.best(a, b, c, d);
      case "hosts": return x.hosts(a, b);
      case "owe": return x.owe(a);
      case "again": return x.again();
      case "danger": return x.danger(a, b);
      case "wish": return x.wish(a, b, c > 0);
      case "ring": return x.ring(a);
      case "swap": return x.swap();
      case "had": return x.had(a, b, c);
      case "lead": return x.lead(a, b);
      case "put": return x.put(a);
      case "check": return x.check(a, b, c);
      default: return x.count(a);
    }
  }
}
