import java.util.ArrayList;
import java.util.Arrays;
import java.util.List;

/**
 * The document once more, written as plainly as it can be and with nothing kept that can be
 * reckoned anew: what ModelTest holds BeamHall against. It shares no code and no way of keeping
 * things with it: PLACES are looked up ask by ask, TEXTS are read sign by sign with a stack,
 * BEST and RING try everything, HAD looks through all that ever happened.
 */
final class Model {
  static final class Place {
    final int bench, shift;
    final int[] hosts;
    Place(int bench, int shift, int[] hosts) { this.bench = bench; this.shift = shift; this.hosts = hosts; }
  }

  static final class One {
    int kind, group, land, length, wants, benches, modes, gear, danger, x, y;
    boolean withdrawn, owedFor;
    Place place;
  }

  record Mark(int reader, int ask, int v, boolean counts) { }
  record Trip(int hour, int n, int found) { }
  record Event(int bench, int shift, int hour, int ask) { }

  static final class Rule {
    final String text;
    final int from;
    int till = 1000;
    Rule(String text, int from) { this.text = text; this.from = from; }
    boolean inForce(int s) { return s >= from && s < till; }
    char letter() { return text.charAt(0); }
  }

  int now;
  final int[] modes = new int[200];
  final List<Trip> trips = new ArrayList<>();
  final List<int[]> benches = new ArrayList<>();
  final List<One> asks = new ArrayList<>();
  final List<Rule> rules = new ArrayList<>();
  final List<Mark> marks = new ArrayList<>();
  final List<Event> events = new ArrayList<>();
  final List<Integer> row = new ArrayList<>();
  final List<Integer> passed = new ArrayList<>();
  final boolean[][] kin = new boolean[6][10];
  final boolean[][] wishes = new boolean[30][30];
  final int[] refused = new int[7];
  String tape = "";
  int rest = 1, share = 100, scaled = 0;
  int[] draft;

  int refuse(int r) { refused[-r]++; return r; }
  boolean noShift(int s) { return s < 0 || s > 199; }
  boolean noAsk(int a) { return a < 0 || a >= asks.size(); }
  boolean noBench(int b) { return b < 0 || b >= benches.size(); }

  int hours(int n) {
    if (n < 0) return refuse(-4);
    if ((long) now + n > 1600) return refuse(-6);
    return now += n;
  }

  int mode(int a, int b, int mode) {
    if (noShift(a) || noShift(b) || b < a) return refuse(-1);
    if (mode < 0 || mode > 4) return refuse(-2);
    int n = 0;
    for (int s = a; s <= b; s++) { if (modes[s] != mode) n++; modes[s] = mode; }
    return n;
  }

  int trip(int hour, int n) {
    if (hour < 0 || n < 1) return refuse(-4);
    if (hour > now || n > 60 || trips.size() == 20) return refuse(-6);
    trips.add(new Trip(hour, n, now));
    return trips.size();
  }

  int lost(int s, int k) {
    int n = 0;
    for (int h = 8 * s; h <= 8 * s + 7; h++) {
      final int hour = h;
      if (trips.stream().anyMatch(t -> t.found <= k && t.hour <= hour && hour < t.hour + t.n)) n++;
    }
    return n;
  }

  int shiftOf(int s, int what, int k) {
    if (noShift(s)) return refuse(-1);
    if (what != 0 && what != 1) return refuse(-2);
    if (k < 0) return refuse(-4);
    if (k > now) return refuse(-6);
    return what == 0 ? modes[s] : lost(s, k);
  }

  int bench(int can, int hosts) {
    if (can < 0 || hosts < 0) return refuse(-4);
    if (can > 255 || hosts > 255 || benches.size() == 6) return refuse(-6);
    benches.add(new int[] {can, hosts});
    return benches.size() - 1;
  }

  int set(int what, int v) {
    if (what < 0 || what > 2) return refuse(-2);
    if (v < 0) return refuse(-4);
    if (v > new int[] {3, 100, 1}[what]) return refuse(-6);
    int was = new int[] {rest, share, scaled}[what];
    if (what == 0) rest = v;
    if (what == 1) share = v;
    if (what == 2) scaled = v;
    return was;
  }

  int draft(int group, int land, int length, int wants) {
    if (group < 0 || group > 9 || land < 0 || land > 4) return refuse(-1);
    if (length < 1 || wants < 0) return refuse(-4);
    if (length > 4 || wants > 7) return refuse(-6);
    draft = new int[] {group, land, length, wants};
    return 1;
  }

  int ask(int kind, int set, int modeSet, int gear, int danger, int x, int y) {
    if (draft == null) return refuse(-5);
    if (kind < 0 || kind > 4) return refuse(-2);
    if (set < 0 || modeSet < 0 || danger < 0) return refuse(-4);
    if (kind == 1 && y < 0 || kind == 2 && (x < 0 || y < 0 || y < x)) return refuse(-4);
    if (set > 63 || modeSet > 15 || danger > 9) return refuse(-6);
    if (kind == 1 && y > 30 || kind == 2 && (x > 199 || y > 199) || asks.size() == 30) return refuse(-6);
    if (gear < -1 || gear > 5) return refuse(-1);
    if (kind == 1 && noAsk(x)) return refuse(-1);
    One o = new One();
    o.kind = kind; o.benches = set; o.modes = modeSet; o.gear = gear; o.danger = danger; o.x = x; o.y = y;
    o.group = draft[0]; o.land = draft[1]; o.length = draft[2]; o.wants = draft[3];
    draft = null;
    asks.add(o);
    return asks.size() - 1;
  }

  int withdraw(int a) {
    if (noAsk(a)) return refuse(-1);
    if (asks.get(a).withdrawn) return refuse(-3);
    asks.get(a).withdrawn = true;
    if (asks.get(a).place != null) free(a);
    return 1;
  }

  int askOf(int a, int what) {
    if (noAsk(a)) return refuse(-1);
    if (what < 0 || what > 9) return refuse(-2);
    One o = asks.get(a);
    return new int[] {o.kind, o.group, o.land, o.length, o.danger,
        o.place == null ? -9 : o.place.bench, o.place == null ? -9 : o.place.shift,
        o.withdrawn ? 1 : 0, loss(o), owed(a)}[what];
  }

  int loss(One o) {
    int n = 0;
    if (o.place != null) for (int i = 0; i < o.length; i++) n += lost(o.place.shift + i, now);
    return n;
  }

  int owed(int a) {
    One o = asks.get(a);
    if (o.place == null) return 0;
    Rule best = null;
    for (Rule r : rules) {
      if (r.letter() == 'O' && r.inForce(o.place.shift) && (best == null || r.from >= best.from)) best = r;
    }
    if (best == null) return loss(o) / 8;
    int v = (int) reckon(best, a, o.place.bench, o.place.shift, loss(o));
    return v < 0 ? 0 : v > o.length ? o.length : v;
  }

  int feed(int n, long bytes) {
    if (n < 1) return refuse(-4);
    if (n > 8 || tape.length() + n > 50) return refuse(-6);
    for (int i = 0; i < n; i++) { tape += (char) (bytes & 255); bytes >>>= 8; }
    return tape.length();
  }

  int text(int from) {
    if (noShift(from)) return refuse(-1);
    if (rules.size() == 20) return refuse(-6);
    String t = tape;
    tape = "";
    int fault = fault(t);
    if (fault >= 0) return -20 - fault;
    rules.add(new Rule(t, from));
    return rules.size() - 1;
  }

  /** The place of the FAULT, -1 if there is none: each sign is looked at by what may stand behind the one before. */
  static int fault(String t) {
    String state = "letter";
    String open = "";
    boolean left = true, sum = false;
    int digits = 0;
    for (int i = 0; i < t.length(); i++) {
      char c = t.charAt(i);
      boolean fact = "kglndmsbt".indexOf(c) >= 0, digit = c >= '0' && c <= '9';
      switch (state) {
        case "letter":
          if ("BWO".indexOf(c) < 0) return i;
          sum = c == 'O';
          state = "colon";
          break;
        case "colon":
          if (c != ':') return i;
          state = sum ? "unit" : "part";
          break;
        case "part":
        case "unit":
          if (state.equals("part") && (c == '!' || c == '(')) {
            if (open.length() == 4) return i;
            open += c;
          } else if (fact || digit) {
            if (state.equals("part")) left = true;
            digits = digit ? 1 : 9;
            state = "behind";
          } else {
            return i;
          }
          break;
        case "behind":
          if (digit && digits < 3) {
            digits++;
          } else if ("+-*".indexOf(c) >= 0) {
            state = "unit";
          } else if (!sum && left && "<=>".indexOf(c) >= 0) {
            left = false;
            state = "unit";
          } else if (!sum && !left && "/|&".indexOf(c) >= 0) {
            while (open.endsWith("!")) open = open.substring(0, open.length() - 1);
            state = "part";
          } else if (!sum && !left && c == ')' && open.indexOf('(') >= 0) {
            while (open.endsWith("!")) open = open.substring(0, open.length() - 1);
            open = open.substring(0, open.length() - 1);
            digits = 9;
            state = "closed";
          } else {
            return i;
          }
          break;
        default:
          while (open.endsWith("!")) open = open.substring(0, open.length() - 1);
          if ("/|&".indexOf(c) >= 0) {
            state = "part";
          } else if (c == ')' && open.length() > 0) {
            open = open.substring(0, open.length() - 1);
          } else {
            return i;
          }
      }
    }
    boolean whole = state.equals("closed") || state.equals("behind") && (sum || !left);
    return whole && open.indexOf('(') < 0 ? -1 : t.length();
  }

  /** A TEXT's number; 1 or 0 of a RULE: split at the loosest sign that stands outside of brackets, from the right. */
  long reckon(Rule r, int a, int bench, int s, int lost) {
    One o = asks.get(a);
    int m = markOfAsk(a);
    int[] facts = {o.kind, o.group, o.land, o.length, o.danger, m < 0 ? 0 : m, s, bench, lost};
    return value(r.text.substring(2), facts);
  }

  static int value(String t, int[] facts) {
    for (String signs : new String[] {"/", "|", "&"}) {
      int at = lastOutside(t, signs);
      if (at >= 0) {
        boolean a = value(t.substring(0, at), facts) != 0, b = value(t.substring(at + 1), facts) != 0;
        return (signs.equals("/") ? a && !b : signs.equals("|") ? a || b : a && b) ? 1 : 0;
      }
    }
    if (t.startsWith("!")) return 1 - value(t.substring(1), facts);
    if (t.startsWith("(")) return value(t.substring(1, t.length() - 1), facts);
    int at = lastOutside(t, "<=>");
    if (at >= 0) {
      int a = value(t.substring(0, at), facts), b = value(t.substring(at + 1), facts);
      char c = t.charAt(at);
      return (c == '<' ? a < b : c == '>' ? a > b : a == b) ? 1 : 0;
    }
    at = lastOutside(t, "+-*");
    if (at >= 0) {
      int a = value(t.substring(0, at), facts), b = value(t.substring(at + 1), facts);
      char c = t.charAt(at);
      return c == '+' ? a + b : c == '-' ? a - b : a * b;
    }
    int fact = "kglndmsbt".indexOf(t.charAt(0));
    return fact >= 0 ? facts[fact] : Integer.parseInt(t);
  }

  static int lastOutside(String t, String signs) {
    int deep = 0;
    for (int i = t.length() - 1; i >= 0; i--) {
      char c = t.charAt(i);
      if (c == ')') deep++;
      if (c == '(') deep--;
      if (deep == 0 && signs.indexOf(c) >= 0) return i;
    }
    return -1;
  }

  int strike(int t, int from) {
    if (t < 0 || t >= rules.size() || noShift(from)) return refuse(-1);
    if (rules.get(t).till != 1000) return refuse(-3);
    rules.get(t).till = from;
    return 1;
  }

  boolean some(char letter, int a, int bench, int s) { return leastHolding(letter, a, bench, s) >= 0; }

  int leastHolding(char letter, int a, int bench, int s) {
    for (int i = 0; i < rules.size(); i++) {
      Rule r = rules.get(i);
      if (r.letter() == letter && r.inForce(s) && reckon(r, a, bench, s, 0) != 0) return i;
    }
    return -9;
  }

  int barred(int a, int bench, int s, int what) {
    if (noAsk(a) || noBench(bench) || noShift(s)) return refuse(-1);
    if (what < 0 || what > 4) return refuse(-2);
    if (what == 0) return some('B', a, bench, s) ? 1 : 0;
    if (what == 1) return some('W', a, bench, s) ? 1 : 0;
    if (what == 2) return leastHolding('B', a, bench, s);
    for (int i = 0; i < rules.size(); i++) {
      for (int j = i + 1; j < rules.size(); j++) {
        Rule p = rules.get(i), q = rules.get(j);
        if (p.letter() == 'B' && q.letter() == 'B' && p.inForce(s) && q.inForce(s) && p.from == q.from
            && reckon(p, a, bench, s, 0) != reckon(q, a, bench, s, 0)) {
          return what == 3 ? i : j;
        }
      }
    }
    return -9;
  }

  int kin(int reader, int group) {
    if (reader < 0 || reader > 5 || group < 0 || group > 9) return refuse(-1);
    if (kin[reader][group]) return 0;
    kin[reader][group] = true;
    return 1;
  }

  int mark(int reader, int a, int v) {
    if (reader < 0 || reader > 5 || noAsk(a)) return refuse(-1);
    if (marks.stream().anyMatch(m -> m.reader == reader && m.ask == a)) return refuse(-3);
    if (marks.stream().filter(m -> m.ask == a).count() == 3) return refuse(-3);
    if (v < 0) return refuse(-4);
    if (v > 100) return refuse(-6);
    boolean counts = !kin[reader][asks.get(a).group];
    marks.add(new Mark(reader, a, v, counts));
    return counts ? 1 : 0;
  }

  int markOfAsk(int a) {
    int sum = 0, n = 0;
    for (Mark m : marks) {
      if (m.ask == a && m.counts) { sum += m.v - (scaled == 1 ? habitOf(m.reader, 0) : 0); n++; }
    }
    if (n == 0) return -9;
    return Math.min(100, Math.max(0, sum / n));
  }

  int markOf(int a) { return noAsk(a) ? refuse(-1) : markOfAsk(a); }

  int habitOf(int reader, int what) {
    int sum = 0, n = 0, least = 9999, most = -9999;
    for (Mark m : marks) {
      if (m.reader != reader || !m.counts) continue;
      int others = 0, theirs = 0;
      for (Mark o : marks) {
        if (o.ask == m.ask && o.counts && o.reader != reader) {
          others++;
          theirs += o.v;
          least = Math.min(least, m.v - o.v);
          most = Math.max(most, m.v - o.v);
        }
      }
      sum += m.v * others - theirs;
      n += others;
    }
    if (n == 0) return 0;
    return what == 0 ? (int) Math.floor((double) sum / n) : most - least;
  }

  int habit(int reader, int what) {
    if (reader < 0 || reader > 5) return 1000000000 - refuse(-1);
    if (what != 0 && what != 1) return 1000000000 - refuse(-2);
    return habitOf(reader, what);
  }

  int freeHosts(int a, int bench, int s) {
    int set = benches.get(bench)[1];
    for (int i = 0; i < asks.size(); i++) {
      One o = asks.get(i);
      if (i == a || o.place == null) continue;
      for (int j = 0; j < o.length; j++) {
        if (Math.abs(o.place.shift + j - s) <= rest) set &= ~o.place.hosts[j];
      }
    }
    return set;
  }

  int fitOf(int a, int bench, int first) {
    One o = asks.get(a);
    for (int s = first; s < first + o.length; s++) {
      if ((o.benches & 1 << bench) == 0) return 1;
      if ((benches.get(bench)[0] & 1 << o.wants) == 0) return 2;
      if (s > 199 || now > 8 * s) return 3;
      if (modes[s] == 4 || lost(s, now) == 8) return 4;
      if ((o.modes & 1 << modes[s]) == 0) return 5;
      boolean had = false, gear = false;
      for (int i = 0; i < asks.size(); i++) {
        One p = asks.get(i);
        if (i == a || p.place == null || s < p.place.shift || s >= p.place.shift + p.length) continue;
        if (p.place.bench == bench) had = true;
        else if (o.gear >= 0 && p.gear == o.gear) gear = true;
      }
      if (had) return 6;
      if (gear) return 7;
      if (some('B', a, bench, s)) return 8;
      if (Integer.bitCount(freeHosts(a, bench, s)) < (some('W', a, bench, s) ? 2 : 1)) return 9;
      if (o.kind == 1) {
        One p = asks.get(o.x);
        if (p.place == null) return 10;
        int last = p.place.shift + p.length - 1;
        if (first - last - 1 < o.y) return 10;
      }
      if (o.kind == 2 && (s < o.x || s > o.y)) return 11;
    }
    return 0;
  }

  Place newPlace(int a, int bench, int shift) {
    int[] hosts = new int[asks.get(a).length];
    for (int i = 0; i < hosts.length; i++) {
      int free = freeHosts(a, bench, shift + i), wanted = some('W', a, bench, shift + i) ? 2 : 1;
      for (int h = 0; h < 8 && wanted > 0; h++) {
        if ((free & 1 << h) != 0) { hosts[i] |= 1 << h; wanted--; }
      }
    }
    return new Place(bench, shift, hosts);
  }

  void lay(int a, int bench, int shift) {
    asks.get(a).place = newPlace(a, bench, shift);
    for (int i = 0; i < asks.get(a).length; i++) events.add(new Event(bench, shift + i, now, a));
  }

  void free(int a) {
    One o = asks.get(a);
    for (int i = 0; i < o.length; i++) events.add(new Event(o.place.bench, o.place.shift + i, now, -9));
    o.place = null;
  }

  boolean movable(One o) { return o.place != null && now <= 8 * o.place.shift; }

  int fit(int a, int bench, int s) {
    if (noAsk(a) || noBench(bench) || noShift(s)) return refuse(-1);
    return fitOf(a, bench, s);
  }

  int give(int a, int bench, int s) {
    if (noAsk(a) || noBench(bench) || noShift(s)) return refuse(-1);
    if (asks.get(a).withdrawn || asks.get(a).place != null || fitOf(a, bench, s) != 0) return refuse(-3);
    lay(a, bench, s);
    return 1;
  }

  int take(int a) {
    if (noAsk(a)) return refuse(-1);
    if (!movable(asks.get(a))) return refuse(-3);
    free(a);
    return 1;
  }

  List<Integer> inOrder(List<Integer> some) {
    List<Integer> order = new ArrayList<>(some);
    order.sort((p, q) -> {
      int a = asks.get(p).kind, b = asks.get(q).kind;
      if ((a == 5) != (b == 5)) return a == 5 ? -1 : 1;
      if ((a == 3) != (b == 3)) return a == 3 ? -1 : 1;
      int m = markOfAsk(p), n = markOfAsk(q);
      return m != n ? n - m : p - q;
    });
    return order;
  }

  boolean shareAllows(int a, int from, int to) {
    One o = asks.get(a);
    if (o.kind == 5) return true;
    int sum = o.length;
    for (int i = 0; i < asks.size(); i++) {
      One p = asks.get(i);
      if (i == a || p.place == null || p.kind == 5 || p.land != o.land) continue;
      if (p.place.shift < from || p.place.shift > to) continue;
      for (int s = p.place.shift; s < p.place.shift + p.length; s++) if (s <= to) sum++;
    }
    return sum <= share * benches.size() * (to - from + 1) / 100;
  }

  boolean seek(int a, int from, int to, boolean asked) {
    for (int s = from; s <= to; s++) {
      for (int b = 0; b < benches.size(); b++) {
        if (s + asks.get(a).length - 1 <= to && fitOf(a, b, s) == 0 && (!asked || shareAllows(a, from, to))) {
          lay(a, b, s);
          return true;
        }
      }
    }
    return false;
  }

  int plan(int a, int b) {
    if (noShift(a) || noShift(b) || b < a) return refuse(-1);
    passed.clear();
    List<Integer> some = new ArrayList<>();
    for (int i = 0; i < asks.size(); i++) if (asks.get(i).place == null && !asks.get(i).withdrawn) some.add(i);
    int n = 0;
    for (int i : inOrder(some)) {
      if (seek(i, a, b, true)) n++;
      else passed.add(i);
    }
    return n;
  }

  int passed(int what) {
    if (what < -1) return refuse(-2);
    return what == -1 ? passed.size() : what < passed.size() ? passed.get(what) : -9;
  }

  int why(int a, int bench, int s, int from, int to) {
    if (noAsk(a) || noBench(bench) || noShift(s) || noShift(from) || noShift(to)) return refuse(-1);
    if (to < from || s < from || s > to) return refuse(-1);
    int fit = fitOf(a, bench, s);
    return fit != 0 ? fit : shareAllows(a, from, to) ? 0 : 12;
  }

  int bestSum;
  int[] bestSpots;

  int best(int from, int to, int set, int what) {
    if (noShift(from) || noShift(to) || to < from) return refuse(-1);
    for (int i = 0; i < 32; i++) if ((set & 1 << i) != 0 && noAsk(i)) return refuse(-1);
    if (what >= 0 && (what > 29 || (set & 1 << what) == 0)) return refuse(-1);
    if (what < -1) return refuse(-2);
    if (to - from + 1 > 8 || Integer.bitCount(set) > 4) return refuse(-6);
    List<Integer> some = new ArrayList<>();
    for (int i = 0; i < 30; i++) if ((set & 1 << i) != 0) some.add(i);
    for (int i : some) if (asks.get(i).place != null || asks.get(i).withdrawn) return refuse(-3);
    bestSum = -1;
    tryAll(some, 0, from, to, 0, new int[some.size()]);
    return what == -1 ? bestSum : bestSpots[some.indexOf(what)];
  }

  void tryAll(List<Integer> some, int at, int from, int to, int sum, int[] spots) {
    if (at == some.size()) {
      if (sum > bestSum) { bestSum = sum; bestSpots = spots.clone(); }
      return;
    }
    int a = some.get(at);
    for (int s = from; s <= to; s++) {
      for (int b = 0; b < benches.size(); b++) {
        if (s + asks.get(a).length - 1 > to || fitOf(a, b, s) != 0) continue;
        asks.get(a).place = newPlace(a, b, s);
        spots[at] = 8 * s + b;
        tryAll(some, at + 1, from, to, sum + Math.max(0, markOfAsk(a)), spots);
        asks.get(a).place = null;
      }
    }
    spots[at] = -9;
    tryAll(some, at + 1, from, to, sum, spots);
  }

  int hosts(int bench, int s) {
    if (noBench(bench) || noShift(s)) return refuse(-1);
    for (One o : asks) {
      if (o.place != null && o.place.bench == bench && s >= o.place.shift && s < o.place.shift + o.length) {
        return o.place.hosts[s - o.place.shift];
      }
    }
    return 0;
  }

  int owe(int a) {
    if (noAsk(a)) return refuse(-1);
    One o = asks.get(a);
    if (loss(o) == 0 || owed(a) == 0 || o.owedFor) return refuse(-3);
    if (asks.size() == 30) return refuse(-6);
    o.owedFor = true;
    One n = new One();
    n.kind = 5; n.group = o.group; n.land = o.land; n.length = owed(a); n.wants = o.wants;
    n.benches = o.benches; n.modes = o.modes; n.gear = o.gear; n.danger = o.danger;
    asks.add(n);
    return asks.size() - 1;
  }

  int again() {
    Place[] before = new Place[30];
    List<Integer> some = new ArrayList<>();
    for (int i = 0; i < asks.size(); i++) {
      One o = asks.get(i);
      before[i] = o.place;
      if (movable(o) && fitOf(i, o.place.bench, o.place.shift) != 0) { free(i); some.add(i); }
    }
    int n = 0;
    for (int i : inOrder(some)) {
      seek(i, now / 8 + 1, 199, false);
      Place p = asks.get(i).place;
      if (p == null || p.bench != before[i].bench || p.shift != before[i].shift) n++;
    }
    return n;
  }

  int danger(int a, int v) {
    if (noAsk(a)) return refuse(-1);
    if (v < 0) return refuse(-4);
    if (v > 9) return refuse(-6);
    One o = asks.get(a);
    o.danger = v;
    if (!movable(o) || fitOf(a, o.place.bench, o.place.shift) == 0) return 0;
    free(a);
    return 1;
  }

  int wish(int a, int other, boolean on) {
    if (noAsk(a) || noAsk(other) || a == other) return refuse(-1);
    if (wishes[a][other] == on) return 0;
    wishes[a][other] = on;
    return 1;
  }

  List<Integer> found;

  List<Integer> findRing() {
    for (int n = 2; n <= 5; n++) {
      found = null;
      rows(n, new ArrayList<>());
      if (found != null) return found;
    }
    return new ArrayList<>();
  }

  /** All rows of n different ASKS, by numbers, till one is a RING. */
  void rows(int n, List<Integer> row) {
    if (found != null) return;
    if (row.size() == n) {
      if (isRing(row)) found = new ArrayList<>(row);
      return;
    }
    for (int i = 0; i < asks.size(); i++) {
      if (row.contains(i)) continue;
      if (!row.isEmpty() && (i < row.get(0) || !wishes[row.get(row.size() - 1)][i])) continue;
      row.add(i);
      rows(n, row);
      row.remove(row.size() - 1);
    }
  }

  boolean isRing(List<Integer> row) {
    int n = row.size();
    for (int i = 0; i < n; i++) {
      One o = asks.get(row.get(i));
      if (!movable(o) || !wishes[row.get(i)][row.get((i + 1) % n)]) return false;
      if (o.length != asks.get(row.get(0)).length) return false;
      for (int j = 0; j < i; j++) if (asks.get(row.get(j)).group == o.group) return false;
    }
    Place[] old = new Place[n];
    for (int i = 0; i < n; i++) { old[i] = asks.get(row.get(i)).place; asks.get(row.get(i)).place = null; }
    boolean fits = true;
    for (int i = 0; i < n && fits; i++) {
      Place to = old[(i + 1) % n];
      fits = fitOf(row.get(i), to.bench, to.shift) == 0;
      if (fits) asks.get(row.get(i)).place = newPlace(row.get(i), to.bench, to.shift);
    }
    for (int i = 0; i < n; i++) asks.get(row.get(i)).place = old[i];
    return fits;
  }

  int ring(int what) {
    if (what < -1) return refuse(-2);
    List<Integer> ring = findRing();
    return what == -1 ? ring.size() : what < ring.size() ? ring.get(what) : -9;
  }

  int swap() {
    List<Integer> ring = findRing();
    int n = ring.size();
    if (n == 0) return refuse(-3);
    Place[] old = new Place[n];
    for (int i = 0; i < n; i++) { old[i] = asks.get(ring.get(i)).place; free(ring.get(i)); }
    for (int i = 0; i < n; i++) {
      lay(ring.get(i), old[(i + 1) % n].bench, old[(i + 1) % n].shift);
      Arrays.fill(wishes[ring.get(i)], false);
    }
    return n;
  }

  int hadOn(int bench, int s, int k) {
    int who = -9;
    for (Event e : events) if (e.bench == bench && e.shift == s && e.hour <= k) who = e.ask;
    return who;
  }

  int had(int bench, int s, int k) {
    if (noBench(bench) || noShift(s)) return refuse(-1);
    if (k < 0) return refuse(-4);
    if (k > now) return refuse(-6);
    return hadOn(bench, s, k);
  }

  int lead(int bench, int s) {
    if (noBench(bench) || noShift(s)) return refuse(-1);
    int hour = -9;
    for (Event e : events) if (e.bench == bench && e.shift == s) hour = e.hour;
    return hour;
  }

  int put(int v) {
    if (row.size() == 21) return refuse(-6);
    row.add(v);
    return row.size();
  }

  int check(int bench, int a, int k) {
    if (noBench(bench) || noShift(a) || a + row.size() - 1 > 199) return refuse(-1);
    if (k < 0) return refuse(-4);
    if (k > now) return refuse(-6);
    int wrong = -9;
    for (int i = row.size() - 1; i >= 0; i--) if (row.get(i) != hadOn(bench, a + i, k)) wrong = i;
    row.clear();
    return wrong;
  }

  int count(int what) {
    int placed = 0, shifts = 0;
    for (One o : asks) if (o.place != null) { placed++; shifts += o.length; }
    if (what >= 11 && what <= 16) return refused[what - 10];
    if (what < 0 || what > 8) return -9;
    return new int[] {now, benches.size(), asks.size(), placed, rules.size(), trips.size(), shifts,
        tape.length(), row.size()}[what];
  }
}
