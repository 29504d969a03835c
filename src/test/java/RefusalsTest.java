import java.util.ArrayList;
import java.util.Arrays;
import java.util.List;
import java.util.function.IntSupplier;

/**
 * The paragraph on REFUSALS: the call answers the number, the first that fits in the order in which
 * the promise tells them; nothing changes but how many there were. Each row is one refused call: its
 * answer is looked at, that it alone is counted, and that all that can be asked is as it was.
 */
public final class RefusalsTest {
  private static final Due d = new Due();
  private static final int MIN = Integer.MIN_VALUE;
  private static final int MAX = Integer.MAX_VALUE;

  public static void main(String[] args) {
    ofTheHall();
    ofBenchesAndSettings();
    ofDrafts();
    ofAsks();
    ofAsksWithDays();
    ofTextsAndTape();
    ofPanels();
    ofPlaces();
    ofPlans();
    ofBest();
    ofOwedAndDanger();
    ofRings();
    ofThePast();
    ofAllThatIsFull();
    ofANewObject();
    whatIsNoRefusal();
    d.end("RefusalsTest");
  }

  /** ASK 0 has a PLACE that is begun and LOSS, 1 to 3 have later ones, 4 is WITHDRAWN, 5 has none; NOW is 20. */
  private static BeamHall busy() {
    BeamHall x = new BeamHall();
    x.bench(255, 255);
    x.bench(3, 6);
    x.set(2, 1);
    x.mode(30, 31, 4);
    x.mode(32, 33, 2);
    for (int i = 0; i < 6; i++) Due.ask(x, i, 1 + i % 2);
    x.kin(4, 0);
    x.mark(0, 0, 80);
    x.mark(1, 0, 60);
    x.mark(4, 0, 9);
    x.mark(0, 1, 33);
    x.mark(1, 1, 44);
    Due.text(x, "B:s=50", 0);
    Due.text(x, "B:1=0", 0);
    Due.text(x, "W:g=1", 3);
    x.strike(1, 60);
    x.give(0, 0, 1);
    x.give(1, 0, 10);
    x.give(2, 0, 20);
    x.give(3, 1, 40);
    x.hours(20);
    x.trip(8, 9);
    x.withdraw(4);
    x.plan(29, 29);
    x.take(5);
    x.give(5, 1, 31);
    x.wish(1, 3, true);
    x.wish(3, 1, true);
    Due.feed(x, "B:k=1");
    x.put(-9);
    x.put(1);
    x.draft(9, 3, 2, 1);
    return x;
  }

  /** All that can be asked of an object without a change, but for the REFUSALS; what is set is put back. */
  private static String all(BeamHall x) {
    List<Integer> said = new ArrayList<>();
    for (int i = 0; i <= 10; i++) said.add(x.count(i));
    int now = x.count(0), benches = x.count(1), asks = x.count(2);
    for (int s = 0; s < 200; s++) {
      said.add(x.shiftOf(s, 0, 0));
      said.add(x.shiftOf(s, 1, now));
      for (int b = 0; b < benches; b++) said.addAll(List.of(x.hosts(b, s), x.had(b, s, now), x.had(b, s, 0), x.lead(b, s)));
    }
    for (int a = 0; a < asks; a++) {
      for (int what = 0; what < 10; what++) said.add(x.askOf(a, what));
      said.add(x.markOf(a));
      for (int b = 0; b < benches; b++) for (int s = 0; s < 200; s += 7) said.addAll(ofAskAt(x, a, b, s));
    }
    for (int r = 0; r < 6; r++) said.addAll(List.of(x.habit(r, 0), x.habit(r, 1)));
    for (int i = -1; i < 31; i++) said.addAll(List.of(x.passed(i), x.ring(i)));
    for (int what = 0; what < 3; what++) {
      int was = x.set(what, 0);
      x.set(what, was);
      said.add(was);
    }
    return said.toString();
  }

  private static List<Integer> ofAskAt(BeamHall x, int a, int b, int s) {
    List<Integer> said = new ArrayList<>();
    for (int what = 0; what < 5; what++) said.add(x.barred(a, b, s, what));
    said.add(x.fit(a, b, s));
    said.add(x.why(a, b, s, s, s));
    return said;
  }

  private static int[] counts(BeamHall x) {
    int[] n = new int[6];
    for (int i = 0; i < 6; i++) n[i] = x.count(11 + i);
    return n;
  }

  private static void refused(BeamHall x, String call, int want, IntSupplier made) {
    String before = all(x);
    int[] due = counts(x);
    int got = made.getAsInt();
    d.is(call, got, want);
    int kind = want < 0 ? -want : want - 1000000000;
    due[kind - 1]++;
    d.is(call + ": it alone is counted", Arrays.equals(due, counts(x)) ? 1 : 0, 1);
    d.is(call + ": nothing changes", before.equals(all(x)) ? 1 : 0, 1);
  }

  private static void ofTheHall() {
    BeamHall x = busy();
    refused(x, "hours(-1)", -4, () -> x.hours(-1));
    refused(x, "hours(min)", -4, () -> x.hours(MIN));
    refused(x, "hours to 1601", -6, () -> x.hours(1581));
    refused(x, "hours(max)", -6, () -> x.hours(MAX));
    refused(x, "mode a -1", -1, () -> x.mode(-1, 3, 1));
    refused(x, "mode a min", -1, () -> x.mode(MIN, 3, 1));
    refused(x, "mode a 200", -1, () -> x.mode(200, 200, 1));
    refused(x, "mode b 200", -1, () -> x.mode(0, 200, 1));
    refused(x, "mode b max", -1, () -> x.mode(0, MAX, 1));
    refused(x, "mode b below a", -1, () -> x.mode(8, 7, 1));
    refused(x, "mode: -1 ahead of -2", -1, () -> x.mode(8, 7, 5));
    refused(x, "mode -1", -2, () -> x.mode(7, 8, -1));
    refused(x, "mode 5", -2, () -> x.mode(7, 8, 5));
    refused(x, "trip HOUR -1", -4, () -> x.trip(-1, 1));
    refused(x, "trip of 0", -4, () -> x.trip(0, 0));
    refused(x, "trip of min", -4, () -> x.trip(0, MIN));
    refused(x, "trip: -4 ahead of -6, HOUR", -4, () -> x.trip(-1, 61));
    refused(x, "trip: -4 ahead of -6, n", -4, () -> x.trip(21, 0));
    refused(x, "trip HOUR behind NOW", -6, () -> x.trip(21, 1));
    refused(x, "trip HOUR max", -6, () -> x.trip(MAX, 1));
    refused(x, "trip of 61", -6, () -> x.trip(20, 61));
    refused(x, "trip of max", -6, () -> x.trip(20, MAX));
    refused(x, "shiftOf -1", -1, () -> x.shiftOf(-1, 0, 0));
    refused(x, "shiftOf 200", -1, () -> x.shiftOf(200, 0, 0));
    refused(x, "shiftOf: -1 ahead of all", -1, () -> x.shiftOf(200, 2, -1));
    refused(x, "shiftOf what -1", -2, () -> x.shiftOf(0, -1, 0));
    refused(x, "shiftOf what 2", -2, () -> x.shiftOf(0, 2, 0));
    refused(x, "shiftOf: -2 ahead of -4", -2, () -> x.shiftOf(0, 2, -1));
    refused(x, "shiftOf: -2 ahead of -6", -2, () -> x.shiftOf(0, 2, 21));
    refused(x, "shiftOf k -1", -4, () -> x.shiftOf(0, 1, -1));
    refused(x, "shiftOf k behind NOW", -6, () -> x.shiftOf(0, 1, 21));
    refused(x, "shiftOf MODE, k -1", -4, () -> x.shiftOf(0, 0, -1));
    refused(x, "shiftOf MODE, k behind NOW", -6, () -> x.shiftOf(0, 0, 21));
  }

  private static void ofBenchesAndSettings() {
    BeamHall x = busy();
    refused(x, "bench CAN -1", -4, () -> x.bench(-1, 0));
    refused(x, "bench HOSTS -1", -4, () -> x.bench(0, -1));
    refused(x, "bench: -4 ahead of -6", -4, () -> x.bench(256, -1));
    refused(x, "bench CAN 256", -6, () -> x.bench(256, 0));
    refused(x, "bench HOSTS 256", -6, () -> x.bench(0, 256));
    refused(x, "bench max", -6, () -> x.bench(MAX, MAX));
    refused(x, "set what -1", -2, () -> x.set(-1, 0));
    refused(x, "set what 3", -2, () -> x.set(3, 0));
    refused(x, "set: -2 ahead of -4", -2, () -> x.set(3, -1));
    refused(x, "set: -2 ahead of -6", -2, () -> x.set(-1, 101));
    for (int what = 0; what < 3; what++) {
      int of = what;
      refused(x, "set " + what + " below", -4, () -> x.set(of, -1));
      refused(x, "set " + what + " min", -4, () -> x.set(of, MIN));
      refused(x, "set " + what + " above", -6, () -> x.set(of, new int[] {4, 101, 2}[of]));
      refused(x, "set " + what + " max", -6, () -> x.set(of, MAX));
    }
  }

  private static void ofDrafts() {
    BeamHall x = busy();
    refused(x, "draft GROUP -1", -1, () -> x.draft(-1, 0, 1, 0));
    refused(x, "draft GROUP 10", -1, () -> x.draft(10, 0, 1, 0));
    refused(x, "draft LAND -1", -1, () -> x.draft(0, -1, 1, 0));
    refused(x, "draft LAND 5", -1, () -> x.draft(0, 5, 1, 0));
    refused(x, "draft GROUP max", -1, () -> x.draft(MAX, 0, 1, 0));
    refused(x, "draft LAND max", -1, () -> x.draft(0, MAX, 1, 0));
    refused(x, "draft: -1 ahead of -4", -1, () -> x.draft(0, 5, 0, -1));
    refused(x, "draft: -1 ahead of -6", -1, () -> x.draft(10, 0, 5, 8));
    refused(x, "draft LONG 0", -4, () -> x.draft(0, 0, 0, 0));
    refused(x, "draft WANTS -1", -4, () -> x.draft(0, 0, 1, -1));
    refused(x, "draft: -4 of LONG ahead of -6", -4, () -> x.draft(0, 0, 0, 8));
    refused(x, "draft: -4 of WANTS ahead of -6", -4, () -> x.draft(0, 0, 5, -1));
    refused(x, "draft LONG min", -4, () -> x.draft(0, 0, MIN, 0));
    refused(x, "draft LONG 5", -6, () -> x.draft(0, 0, 5, 0));
    refused(x, "draft LONG max", -6, () -> x.draft(0, 0, MAX, 0));
    refused(x, "draft WANTS 8", -6, () -> x.draft(0, 0, 1, 8));
    d.is("the draft of before is kept", x.ask(0, 63, 15, -1, 0, 0, 0), 6);
    d.is("its GROUP, LAND and LONG", x.askOf(6, 1) * 100 + x.askOf(6, 2) * 10 + x.askOf(6, 3), 932);
    d.is("what it WANTS: 1, which both can", x.fit(6, 1, 100) * 10 + x.fit(6, 0, 100), 0);
  }

  private static void ofAsks() {
    BeamHall x = busy();
    refused(x, "ask KIND -1", -2, () -> x.ask(-1, 63, 15, -1, 0, 0, 0));
    refused(x, "ask KIND 5", -2, () -> x.ask(5, 63, 15, -1, 0, 0, 0));
    refused(x, "ask: -2 ahead of -4", -2, () -> x.ask(5, -1, -1, -1, -1, 0, 0));
    refused(x, "ask: -2 ahead of -6", -2, () -> x.ask(5, 64, 16, -1, 10, 0, 0));
    refused(x, "ask: -2 ahead of -1", -2, () -> x.ask(5, 63, 15, 6, 0, 0, 0));
    refused(x, "ask BENCHES -1", -4, () -> x.ask(0, -1, 15, -1, 0, 0, 0));
    refused(x, "ask MODES -1", -4, () -> x.ask(0, 63, -1, -1, 0, 0, 0));
    refused(x, "ask DANGER -1", -4, () -> x.ask(0, 63, 15, -1, -1, 0, 0));
    refused(x, "ask: -4 of BENCHES ahead of -6", -4, () -> x.ask(0, -1, 16, -1, 10, 0, 0));
    refused(x, "ask: -4 of MODES ahead of -6", -4, () -> x.ask(0, 64, -1, -1, 10, 0, 0));
    refused(x, "ask: -4 of DANGER ahead of -6", -4, () -> x.ask(0, 64, 16, -1, -1, 0, 0));
    refused(x, "ask: -4 ahead of -1", -4, () -> x.ask(0, -1, 15, 6, 0, 0, 0));
    refused(x, "ask BENCHES 64", -6, () -> x.ask(0, 64, 15, -1, 0, 0, 0));
    refused(x, "ask MODES 16", -6, () -> x.ask(0, 63, 16, -1, 0, 0, 0));
    refused(x, "ask DANGER 10", -6, () -> x.ask(0, 63, 15, -1, 10, 0, 0));
    refused(x, "ask: -6 of BENCHES ahead of -1", -6, () -> x.ask(0, 64, 15, 6, 0, 0, 0));
    refused(x, "ask: -6 of MODES ahead of -1", -6, () -> x.ask(0, 63, 16, 6, 0, 0, 0));
    refused(x, "ask: -6 of DANGER ahead of -1", -6, () -> x.ask(0, 63, 15, -2, 10, 0, 0));
    refused(x, "ask GEAR -2", -1, () -> x.ask(0, 63, 15, -2, 0, 0, 0));
    refused(x, "ask GEAR 6", -1, () -> x.ask(0, 63, 15, 6, 0, 0, 0));
    refused(x, "ask GEAR max", -1, () -> x.ask(0, 63, 15, MAX, 0, 0, 0));
    refused(x, "withdraw -1", -1, () -> x.withdraw(-1));
    refused(x, "withdraw 6", -1, () -> x.withdraw(6));
    refused(x, "withdraw: it is so", -3, () -> x.withdraw(4));
    refused(x, "askOf -1", -1, () -> x.askOf(-1, 0));
    refused(x, "askOf 6", -1, () -> x.askOf(6, 0));
    refused(x, "askOf: -1 ahead of -2", -1, () -> x.askOf(6, 10));
    refused(x, "askOf what -1", -2, () -> x.askOf(0, -1));
    refused(x, "askOf what 10", -2, () -> x.askOf(0, 10));
    d.is("the draft stood through it all", x.ask(0, 63, 15, -1, 0, 0, 0), 6);
    refused(x, "ask without a draft", -5, () -> x.ask(0, 63, 15, -1, 0, 0, 0));
    refused(x, "ask: -5 ahead of all", -5, () -> x.ask(9, -1, 16, 6, 10, -1, -1));
  }

  private static void ofAsksWithDays() {
    BeamHall x = busy();
    refused(x, "TIED y -1", -4, () -> x.ask(1, 63, 15, -1, 0, 0, -1));
    refused(x, "TIED y 31", -6, () -> x.ask(1, 63, 15, -1, 0, 0, 31));
    refused(x, "TIED x -1", -1, () -> x.ask(1, 63, 15, -1, 0, -1, 0));
    refused(x, "TIED x 6, itself", -1, () -> x.ask(1, 63, 15, -1, 0, 6, 0));
    refused(x, "TIED x max", -1, () -> x.ask(1, 63, 15, -1, 0, MAX, 0));
    refused(x, "TIED: -4 of y ahead of -1 of x", -4, () -> x.ask(1, 63, 15, -1, 0, 6, -1));
    refused(x, "TIED: -6 of y ahead of -1 of x", -6, () -> x.ask(1, 63, 15, -1, 0, 6, 31));
    refused(x, "TIED: -4 of y ahead of -6", -4, () -> x.ask(1, 64, 15, -1, 0, 0, -1));
    refused(x, "TIED: -6 of y ahead of -1 of GEAR", -6, () -> x.ask(1, 63, 15, 6, 0, 0, 31));
    refused(x, "LIVING x -1", -4, () -> x.ask(2, 63, 15, -1, 0, -1, 5));
    refused(x, "LIVING y -1", -4, () -> x.ask(2, 63, 15, -1, 0, 0, -1));
    refused(x, "LIVING both -1", -4, () -> x.ask(2, 63, 15, -1, 0, -1, -1));
    refused(x, "LIVING y below x", -4, () -> x.ask(2, 63, 15, -1, 0, 6, 5));
    refused(x, "LIVING y below x, both above: -4 ahead of -6", -4, () -> x.ask(2, 63, 15, -1, 0, 201, 200));
    refused(x, "LIVING x below, y above: -4 ahead of -6", -4, () -> x.ask(2, 63, 15, -1, 0, -1, 200));
    refused(x, "LIVING y 200", -6, () -> x.ask(2, 63, 15, -1, 0, 199, 200));
    refused(x, "LIVING x and y 200", -6, () -> x.ask(2, 63, 15, -1, 0, 200, 200));
    refused(x, "LIVING y max", -6, () -> x.ask(2, 63, 15, -1, 0, 0, MAX));
    refused(x, "LIVING: -6 of y ahead of -1 of GEAR", -6, () -> x.ask(2, 63, 15, 6, 0, 0, 200));
    d.is("the draft stood through it all", x.ask(3, 63, 15, -1, 0, -1, -1), 6);
  }

  private static void ofTextsAndTape() {
    BeamHall x = busy();
    refused(x, "feed 0", -4, () -> x.feed(0, 7));
    refused(x, "feed min", -4, () -> x.feed(MIN, 7));
    refused(x, "feed 9", -6, () -> x.feed(9, 7));
    refused(x, "feed max", -6, () -> x.feed(MAX, 7));
    refused(x, "text -1", -1, () -> x.text(-1));
    refused(x, "text 200", -1, () -> x.text(200));
    d.is("the TAPE stood through it all", x.text(199), 3);
    refused(x, "strike -1", -1, () -> x.strike(-1, 0));
    refused(x, "strike 4", -1, () -> x.strike(4, 0));
    refused(x, "strike from -1", -1, () -> x.strike(0, -1));
    refused(x, "strike from 200", -1, () -> x.strike(0, 200));
    refused(x, "strike: -1 of SHIFT ahead of -3", -1, () -> x.strike(1, 200));
    refused(x, "strike: told so", -3, () -> x.strike(1, 5));
    refused(x, "barred ASK -1", -1, () -> x.barred(-1, 0, 0, 0));
    refused(x, "barred ASK 6", -1, () -> x.barred(6, 0, 0, 0));
    refused(x, "barred BENCH -1", -1, () -> x.barred(0, -1, 0, 0));
    refused(x, "barred BENCH 2", -1, () -> x.barred(0, 2, 0, 0));
    refused(x, "barred SHIFT -1", -1, () -> x.barred(0, 0, -1, 0));
    refused(x, "barred SHIFT 200", -1, () -> x.barred(0, 0, 200, 0));
    refused(x, "barred: -1 ahead of -2", -1, () -> x.barred(0, 0, 200, 5));
    refused(x, "barred what -1", -2, () -> x.barred(0, 0, 0, -1));
    refused(x, "barred what 5", -2, () -> x.barred(0, 0, 0, 5));
  }

  private static void ofPanels() {
    BeamHall x = busy();
    refused(x, "kin READER -1", -1, () -> x.kin(-1, 0));
    refused(x, "kin READER 6", -1, () -> x.kin(6, 0));
    refused(x, "kin GROUP -1", -1, () -> x.kin(0, -1));
    refused(x, "kin GROUP 10", -1, () -> x.kin(0, 10));
    refused(x, "kin GROUP max", -1, () -> x.kin(0, MAX));
    refused(x, "kin READER max", -1, () -> x.kin(MAX, 0));
    refused(x, "mark READER -1", -1, () -> x.mark(-1, 5, 1));
    refused(x, "mark READER 6", -1, () -> x.mark(6, 5, 1));
    refused(x, "mark ASK -1", -1, () -> x.mark(0, -1, 1));
    refused(x, "mark ASK 6", -1, () -> x.mark(0, 6, 1));
    refused(x, "mark: -1 ahead of -3", -1, () -> x.mark(6, 0, 1));
    refused(x, "mark: -1 ahead of -4", -1, () -> x.mark(0, 6, -1));
    refused(x, "mark: -1 ahead of -6", -1, () -> x.mark(0, 6, 101));
    refused(x, "mark: told already", -3, () -> x.mark(0, 1, 1));
    refused(x, "mark: told already, it did not count", -3, () -> x.mark(4, 0, 1));
    refused(x, "mark: 3 were told", -3, () -> x.mark(5, 0, 1));
    refused(x, "mark: -3 of told already ahead of -4", -3, () -> x.mark(0, 1, -1));
    refused(x, "mark: -3 of told already ahead of -6", -3, () -> x.mark(0, 1, 101));
    refused(x, "mark: -3 of 3 told ahead of -4", -3, () -> x.mark(5, 0, -1));
    refused(x, "mark: -3 of 3 told ahead of -6", -3, () -> x.mark(5, 0, 101));
    refused(x, "mark -1", -4, () -> x.mark(5, 1, -1));
    refused(x, "mark min", -4, () -> x.mark(5, 1, MIN));
    refused(x, "mark 101", -6, () -> x.mark(5, 1, 101));
    refused(x, "mark max", -6, () -> x.mark(5, 1, MAX));
    d.is("a refused mark was not told", x.mark(5, 1, 100), 1);
    refused(x, "markOf -1", -1, () -> x.markOf(-1));
    refused(x, "markOf 6", -1, () -> x.markOf(6));
    refused(x, "habit READER -1", 1000000001, () -> x.habit(-1, 0));
    refused(x, "habit READER 6", 1000000001, () -> x.habit(6, 1));
    refused(x, "habit: -1 ahead of -2", 1000000001, () -> x.habit(6, 2));
    refused(x, "habit what -1", 1000000002, () -> x.habit(0, -1));
    refused(x, "habit what 2", 1000000002, () -> x.habit(0, 2));
  }

  private static void ofPlaces() {
    BeamHall x = busy();
    int[][] nobody = {{-1, 0, 50}, {6, 0, 50}, {5, -1, 50}, {5, 2, 50}, {5, 0, -1}, {5, 0, 200}, {4, 0, 200}, {1, 2, 0}};
    for (int[] n : nobody) {
      String of = "(" + n[0] + ", " + n[1] + ", " + n[2] + ")";
      refused(x, "fit" + of, -1, () -> x.fit(n[0], n[1], n[2]));
      refused(x, "give" + of, -1, () -> x.give(n[0], n[1], n[2]));
    }
    refused(x, "give: WITHDRAWN", -3, () -> x.give(4, 0, 100));
    refused(x, "give: it has one, even that", -3, () -> x.give(1, 0, 10));
    refused(x, "give: it has one", -3, () -> x.give(1, 0, 100));
    x.take(5);
    refused(x, "give: it does not FIT, WORKS", -3, () -> x.give(5, 0, 30));
    refused(x, "give: it does not FIT in its second SHIFT", -3, () -> x.give(5, 0, 29));
    refused(x, "give: it does not FIT beyond 199", -3, () -> x.give(5, 0, 199));
    refused(x, "take -1", -1, () -> x.take(-1));
    refused(x, "take 6", -1, () -> x.take(6));
    refused(x, "take: it has none", -3, () -> x.take(5));
    refused(x, "take: WITHDRAWN, it has none", -3, () -> x.take(4));
    refused(x, "take: it is begun", -3, () -> x.take(0));
    refused(x, "hosts BENCH -1", -1, () -> x.hosts(-1, 0));
    refused(x, "hosts BENCH 2", -1, () -> x.hosts(2, 0));
    refused(x, "hosts SHIFT -1", -1, () -> x.hosts(0, -1));
    refused(x, "hosts SHIFT 200", -1, () -> x.hosts(0, 200));
  }

  private static void ofPlans() {
    BeamHall x = busy();
    refused(x, "plan a -1", -1, () -> x.plan(-1, 50));
    refused(x, "plan a 200", -1, () -> x.plan(200, 200));
    refused(x, "plan b 200", -1, () -> x.plan(50, 200));
    refused(x, "plan b below a", -1, () -> x.plan(51, 50));
    refused(x, "plan min to max", -1, () -> x.plan(MIN, MAX));
    refused(x, "passed(-2)", -2, () -> x.passed(-2));
    refused(x, "passed(min)", -2, () -> x.passed(MIN));
    refused(x, "why ASK -1", -1, () -> x.why(-1, 0, 50, 50, 50));
    refused(x, "why ASK 6", -1, () -> x.why(6, 0, 50, 50, 50));
    refused(x, "why BENCH -1", -1, () -> x.why(5, -1, 50, 50, 50));
    refused(x, "why BENCH 2", -1, () -> x.why(5, 2, 50, 50, 50));
    refused(x, "why SHIFT 200", -1, () -> x.why(5, 0, 200, 50, 199));
    refused(x, "why SHIFT -1", -1, () -> x.why(5, 0, -1, 0, 50));
    refused(x, "why a -1", -1, () -> x.why(5, 0, 0, -1, 50));
    refused(x, "why b 200", -1, () -> x.why(5, 0, 199, 50, 200));
    refused(x, "why b below a", -1, () -> x.why(5, 0, 50, 51, 49));
    refused(x, "why SHIFT ahead of a", -1, () -> x.why(5, 0, 49, 50, 51));
    refused(x, "why SHIFT behind b", -1, () -> x.why(5, 0, 52, 50, 51));
  }

  private static void ofBest() {
    BeamHall x = busy();
    x.take(5);
    for (int i = 0; i < 5; i++) Due.ask(x, i, 1);
    int free = 1 << 5 | 1 << 6 | 1 << 7 | 1 << 8;
    refused(x, "best a -1", -1, () -> x.best(-1, 3, free, -1));
    refused(x, "best b 200", -1, () -> x.best(196, 200, free, -1));
    refused(x, "best b below a", -1, () -> x.best(51, 50, free, -1));
    refused(x, "best min to max", -1, () -> x.best(MIN, MAX, free, -1));
    refused(x, "best ASK 11 in the set", -1, () -> x.best(50, 53, 1 << 11, -1));
    refused(x, "best 29 in the set", -1, () -> x.best(50, 53, 1 << 29, -1));
    refused(x, "best 30 in the set", -1, () -> x.best(50, 53, 1 << 30, -1));
    refused(x, "best set min", -1, () -> x.best(50, 53, MIN, -1));
    refused(x, "best set -1", -1, () -> x.best(50, 53, -1, -1));
    refused(x, "best: one that is not in it", -1, () -> x.best(50, 53, free, 9));
    refused(x, "best: 0, of no ASKS", -1, () -> x.best(50, 53, 0, 0));
    refused(x, "best: 37, though 5 is in it", -1, () -> x.best(50, 53, free, 37));
    refused(x, "best: max", -1, () -> x.best(50, 53, free, MAX));
    refused(x, "best: -1 of SHIFTS ahead of -2", -1, () -> x.best(51, 50, free, -2));
    refused(x, "best: -1 of ASKS ahead of -2", -1, () -> x.best(50, 53, 1 << 11, -2));
    refused(x, "best: -1 ahead of -6", -1, () -> x.best(50, 58, free, 9));
    refused(x, "best: -1 ahead of -3", -1, () -> x.best(50, 53, 1, 1));
    refused(x, "best what -2", -2, () -> x.best(50, 53, free, -2));
    refused(x, "best what min", -2, () -> x.best(50, 53, free, MIN));
    refused(x, "best: -2 ahead of -6", -2, () -> x.best(50, 58, free, -2));
    refused(x, "best: -2 ahead of -3", -2, () -> x.best(50, 53, 1, -2));
    refused(x, "best 9 SHIFTS", -6, () -> x.best(50, 58, free, -1));
    refused(x, "best 200 SHIFTS", -6, () -> x.best(0, 199, free, 5));
    refused(x, "best 5 ASKS", -6, () -> x.best(50, 53, free | 1 << 9, -1));
    refused(x, "best: -6 of SHIFTS ahead of -3", -6, () -> x.best(50, 58, 1, -1));
    refused(x, "best: -6 of ASKS ahead of -3", -6, () -> x.best(50, 53, 31, -1));
    refused(x, "best: 0 has a PLACE", -3, () -> x.best(50, 53, 1, -1));
    refused(x, "best: 0 has a PLACE, others have none", -3, () -> x.best(50, 53, 1 | 1 << 5 | 1 << 6, 5));
    x.give(10, 1, 60);
    refused(x, "best: the last one has a PLACE", -3, () -> x.best(50, 53, 1 << 10 | 1 << 5, 5));
    refused(x, "best: one has a PLACE", -3, () -> x.best(50, 53, 1 << 5 | 2, 5));
    refused(x, "best: one is WITHDRAWN", -3, () -> x.best(50, 53, 1 << 5 | 1 << 4, 5));
  }

  private static void ofOwedAndDanger() {
    BeamHall x = busy();
    refused(x, "owe -1", -1, () -> x.owe(-1));
    refused(x, "owe 6", -1, () -> x.owe(6));
    refused(x, "owe: no PLACE", -3, () -> x.owe(4));
    refused(x, "owe: no LOSS", -3, () -> x.owe(1));
    Due.text(x, "k=1", 0);
    Due.text(x, "O:0", 1);
    refused(x, "owe: OWED is 0", -3, () -> x.owe(0));
    x.strike(3, 1);
    d.is("owe(0)", x.owe(0), 6);
    refused(x, "owe: it was so before", -3, () -> x.owe(0));
    refused(x, "danger ASK -1", -1, () -> x.danger(-1, 0));
    refused(x, "danger ASK 7", -1, () -> x.danger(7, 0));
    refused(x, "danger: -1 ahead of -4", -1, () -> x.danger(7, -1));
    refused(x, "danger: -1 ahead of -6", -1, () -> x.danger(7, 10));
    refused(x, "danger -1", -4, () -> x.danger(1, -1));
    refused(x, "danger min", -4, () -> x.danger(1, MIN));
    refused(x, "danger 10", -6, () -> x.danger(1, 10));
    x.mode(10, 10, 4);
    refused(x, "danger 10 of one that would not FIT: its PLACE stays", -6, () -> x.danger(1, 10));
  }

  private static void ofRings() {
    BeamHall x = busy();
    refused(x, "wish ASK -1", -1, () -> x.wish(-1, 0, true));
    refused(x, "wish ASK 6", -1, () -> x.wish(6, 0, true));
    refused(x, "wish for -1", -1, () -> x.wish(0, -1, true));
    refused(x, "wish for 6", -1, () -> x.wish(0, 6, true));
    refused(x, "wish for itself", -1, () -> x.wish(3, 3, true));
    refused(x, "wish for itself no more", -1, () -> x.wish(3, 3, false));
    refused(x, "ring(-2)", -2, () -> x.ring(-2));
    refused(x, "ring(min)", -2, () -> x.ring(MIN));
    d.is("the WISHES stood through it all", x.ring(-1), 2);
    x.wish(1, 3, false);
    refused(x, "swap: there is none", -3, () -> x.swap());
    d.is("the other WISH stood", x.wish(3, 1, true), 0);
  }

  private static void ofThePast() {
    BeamHall x = busy();
    refused(x, "had BENCH -1", -1, () -> x.had(-1, 0, 0));
    refused(x, "had BENCH 2", -1, () -> x.had(2, 0, 0));
    refused(x, "had SHIFT -1", -1, () -> x.had(0, -1, 0));
    refused(x, "had SHIFT 200", -1, () -> x.had(0, 200, 0));
    refused(x, "had: -1 ahead of -4", -1, () -> x.had(2, 0, -1));
    refused(x, "had: -1 ahead of -6", -1, () -> x.had(0, 200, 21));
    refused(x, "had k -1", -4, () -> x.had(0, 0, -1));
    refused(x, "had k behind NOW", -6, () -> x.had(0, 0, 21));
    refused(x, "lead BENCH -1", -1, () -> x.lead(-1, 0));
    refused(x, "lead BENCH 2", -1, () -> x.lead(2, 0));
    refused(x, "lead SHIFT -1", -1, () -> x.lead(0, -1));
    refused(x, "lead SHIFT 200", -1, () -> x.lead(0, 200));
    refused(x, "check BENCH -1", -1, () -> x.check(-1, 0, 0));
    refused(x, "check BENCH 2", -1, () -> x.check(2, 0, 0));
    refused(x, "check SHIFT -1", -1, () -> x.check(0, -1, 0));
    refused(x, "check SHIFT 200", -1, () -> x.check(0, 200, 0));
    refused(x, "check SHIFT max", -1, () -> x.check(0, MAX, 0));
    refused(x, "check: its second SHIFT is 200", -1, () -> x.check(0, 199, 0));
    refused(x, "check: -1 ahead of -4", -1, () -> x.check(0, 199, -1));
    refused(x, "check: -1 ahead of -6", -1, () -> x.check(2, 0, 21));
    refused(x, "check k -1", -4, () -> x.check(0, 9, -1));
    refused(x, "check k behind NOW", -6, () -> x.check(0, 9, 21));
    d.is("the row stood through it all: -9, 1 from 9 on", x.check(0, 9, 20), -9);
  }

  private static void ofAllThatIsFull() {
    BeamHall x = busy();
    while (x.count(1) < 6) x.bench(1, 1);
    while (x.count(5) < 20) x.trip(0, 1);
    x.text(0);
    while (x.count(4) < 20) Due.text(x, "W:1=0", 0);
    while (x.count(2) < 30) Due.ask(x, 0, 1);
    while (x.count(7) < 50) x.feed(1, ' ');
    while (x.count(8) < 21) x.put(0);
    x.draft(0, 0, 1, 0);
    refused(x, "bench 6", -6, () -> x.bench(1, 1));
    refused(x, "bench 6: -4 ahead of -6", -4, () -> x.bench(-1, 1));
    refused(x, "trip 21", -6, () -> x.trip(0, 1));
    refused(x, "trip 21: -4 ahead of -6", -4, () -> x.trip(0, 0));
    refused(x, "text 20", -6, () -> x.text(0));
    refused(x, "text 20: -1 ahead of -6", -1, () -> x.text(200));
    refused(x, "ask 30", -6, () -> x.ask(0, 63, 15, -1, 0, 0, 0));
    refused(x, "ask 30: -2 ahead of -6", -2, () -> x.ask(5, 63, 15, -1, 0, 0, 0));
    refused(x, "ask 30: -4 ahead of -6", -4, () -> x.ask(0, -1, 15, -1, 0, 0, 0));
    refused(x, "ask 30: -6 ahead of -1 of GEAR", -6, () -> x.ask(0, 63, 15, 6, 0, 0, 0));
    refused(x, "ask 30: -6 ahead of -1 of x", -6, () -> x.ask(1, 63, 15, -1, 0, 30, 0));
    refused(x, "owe, 30 ASKS", -6, () -> x.owe(0));
    refused(x, "owe, 30 ASKS: -3 ahead of -6", -3, () -> x.owe(1));
    refused(x, "owe, 30 ASKS: -1 ahead of -6", -1, () -> x.owe(30));
    refused(x, "feed above 50", -6, () -> x.feed(1, 'x'));
    refused(x, "feed above 50: -4 ahead of -6", -4, () -> x.feed(0, 'x'));
    refused(x, "put 22", -6, () -> x.put(0));
    refused(x, "best of 30 in the set", -1, () -> x.best(0, 0, 1 << 30, -1));
    refused(x, "askOf 30", -1, () -> x.askOf(30, 0));
    refused(x, "strike 20", -1, () -> x.strike(20, 0));
    refused(x, "hosts 6", -1, () -> x.hosts(6, 0));
  }

  private static void ofANewObject() {
    BeamHall x = new BeamHall();
    refused(x, "new: ask", -5, () -> x.ask(0, 1, 1, -1, 0, 0, 0));
    refused(x, "new: withdraw", -1, () -> x.withdraw(0));
    refused(x, "new: askOf", -1, () -> x.askOf(0, 0));
    refused(x, "new: strike", -1, () -> x.strike(0, 0));
    refused(x, "new: barred", -1, () -> x.barred(0, 0, 0, 0));
    refused(x, "new: mark", -1, () -> x.mark(0, 0, 0));
    refused(x, "new: markOf", -1, () -> x.markOf(0));
    refused(x, "new: fit", -1, () -> x.fit(0, 0, 0));
    refused(x, "new: give", -1, () -> x.give(0, 0, 0));
    refused(x, "new: take", -1, () -> x.take(0));
    refused(x, "new: why", -1, () -> x.why(0, 0, 0, 0, 0));
    refused(x, "new: best", -1, () -> x.best(0, 0, 1, -1));
    refused(x, "new: hosts", -1, () -> x.hosts(0, 0));
    refused(x, "new: owe", -1, () -> x.owe(0));
    refused(x, "new: danger", -1, () -> x.danger(0, 0));
    refused(x, "new: wish", -1, () -> x.wish(0, 1, true));
    refused(x, "new: swap", -3, () -> x.swap());
    refused(x, "new: had", -1, () -> x.had(0, 0, 0));
    refused(x, "new: lead", -1, () -> x.lead(0, 0));
    refused(x, "new: check", -1, () -> x.check(0, 0, 0));
    refused(x, "new: trip behind NOW", -6, () -> x.trip(1, 1));
    refused(x, "new: shiftOf k behind NOW", -6, () -> x.shiftOf(0, 1, 1));
    d.is("new: a PLAN of nothing", x.plan(0, 199), 0);
    d.is("new: a BEST of nothing", x.best(0, 7, 0, -1), 0);
    d.is("new: AGAIN of nothing", x.again(), 0);
  }

  /** A FAULT, a -9 and a count that there is not are answers: nothing is counted. */
  private static void whatIsNoRefusal() {
    BeamHall x = busy();
    int[] due = counts(x);
    x.text(0);
    d.is("a FAULT", x.text(0), -20);
    d.is("passed behind the last", x.passed(30), -9);
    d.is("ring behind the last", x.ring(30), -9);
    for (int what : new int[] {MIN, -1, 9, 10, 17, MAX}) d.is("count(" + what + ")", x.count(what), -9);
    d.is("barred: none", x.barred(0, 0, 0, 2), -9);
    d.is("lead: never", x.lead(0, 199), -9);
    d.is("had: none", x.had(0, 199, 0), -9);
    d.is("markOf without", x.markOf(5), -9);
    d.is("fit: a BAR", x.fit(0, 0, 30), 4);
    d.is("a mark that does not count", x.mark(4, 1, 1), 1);
    d.is("kin: it was so", x.kin(4, 0), 0);
    d.is("wish: it was so", x.wish(1, 3, true), 0);
    d.is("danger: none taken back", x.danger(1, 3), 0);
    d.is("nothing is counted", Arrays.equals(due, counts(x)) ? 1 : 0, 1);
  }
}
