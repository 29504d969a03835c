/** Promises 1 to 7: a new object, HOURS, MODES, TRIPS, SHIFTS, BENCHES and what is set. */
public final class HallTest {
  private static final Due d = new Due();

  public static void main(String[] args) {
    promise1NewObject();
    promise2Hours();
    promise3Mode();
    promise4Trip();
    promise5ShiftOf();
    promise6Bench();
    promise7Set();
    d.end("HallTest");
  }

  private static void promise1NewObject() {
    BeamHall x = new BeamHall();
    for (int what = 0; what <= 8; what++) d.is("new: count(" + what + ")", x.count(what), 0);
    d.refusals("new", x, 0, 0, 0, 0, 0, 0);
    d.is("new: passed(-1)", x.passed(-1), 0);
    d.is("new: passed(0)", x.passed(0), -9);
    d.is("new: ring(-1)", x.ring(-1), 0);
    d.is("new: shiftOf(0, 0, 0)", x.shiftOf(0, 0, 0), 0);
    d.is("new: shiftOf(199, 1, 0)", x.shiftOf(199, 1, 0), 0);
    d.is("new: again()", x.again(), 0);
    d.is("new: habit(0, 0)", x.habit(0, 0), 0);
    d.is("new: text(0)", x.text(0), -20);
    d.is("new: ask", x.ask(0, 1, 1, -1, 0, 0, 0), -5);
    d.is("new: set(0, 1), REST was 1", x.set(0, 1), 1);
    d.is("new: set(1, 1), SHARE was 100", x.set(1, 100), 100);
    d.is("new: set(2, 1), SCALED was 0", x.set(2, 0), 0);
    BeamHall y = new BeamHall();
    x.hours(5);
    d.is("two objects share nothing", y.count(0), 0);
  }

  private static void promise2Hours() {
    BeamHall x = new BeamHall();
    d.is("hours(0)", x.hours(0), 0);
    d.is("hours(7)", x.hours(7), 7);
    d.is("hours(1593)", x.hours(1593), 1600);
    d.is("hours(1) above 1600", x.hours(1), -6);
    d.is("hours(max)", x.hours(Integer.MAX_VALUE), -6);
    d.is("hours(-1)", x.hours(-1), -4);
    d.is("hours(min)", x.hours(Integer.MIN_VALUE), -4);
    d.is("NOW stays", x.count(0), 1600);
    d.refusals("hours", x, 0, 0, 0, 2, 0, 2);
  }

  private static void promise3Mode() {
    BeamHall x = new BeamHall();
    d.is("mode(3, 5, 2)", x.mode(3, 5, 2), 3);
    d.is("mode(4, 6, 2): one was another", x.mode(4, 6, 2), 1);
    d.is("mode(0, 199, 0)", x.mode(0, 199, 0), 4);
    d.is("mode(199, 199, 4)", x.mode(199, 199, 4), 1);
    d.is("mode of 199", x.shiftOf(199, 0, 0), 4);
    d.is("mode of 198", x.shiftOf(198, 0, 0), 0);
    d.is("mode(-1, 0, 0)", x.mode(-1, 0, 0), -1);
    d.is("mode(0, 200, 0)", x.mode(0, 200, 0), -1);
    d.is("mode(5, 4, 0)", x.mode(5, 4, 0), -1);
    d.is("mode(5, 4, 9): -1 comes first", x.mode(5, 4, 9), -1);
    d.is("mode(0, 0, 5)", x.mode(0, 0, 5), -2);
    d.is("mode(0, 0, -1)", x.mode(0, 0, -1), -2);
    d.is("nothing changed", x.shiftOf(0, 0, 0), 0);
    d.refusals("mode", x, 4, 2, 0, 0, 0, 0);
  }

  private static void promise4Trip() {
    BeamHall x = new BeamHall();
    d.is("trip(1, 1) behind NOW", x.trip(1, 1), -6);
    d.is("trip(0, 60)", x.trip(0, 60), 1);
    x.hours(100);
    d.is("trip(100, 1) on NOW", x.trip(100, 1), 2);
    d.is("trip(-1, 1)", x.trip(-1, 1), -4);
    d.is("trip(0, 0)", x.trip(0, 0), -4);
    d.is("trip(101, 0): -4 comes first", x.trip(101, 0), -4);
    d.is("trip(0, 61)", x.trip(0, 61), -6);
    d.is("trip(101, 1)", x.trip(101, 1), -6);
    for (int i = 3; i <= 20; i++) d.is("trip " + i, x.trip(i, 1), i);
    d.is("trip 21", x.trip(0, 1), -6);
    d.is("trips", x.count(5), 20);
    d.refusals("trip", x, 0, 0, 0, 3, 0, 4);
    BeamHall y = new BeamHall();
    y.hours(1600);
    d.is("trip(1600, 60)", y.trip(1600, 60), 1);
    d.is("a trip beyond all takes nothing", y.shiftOf(199, 1, 1600), 0);
    d.is("trip(1599, 60)", y.trip(1599, 60), 2);
    d.is("of the last SHIFT", y.shiftOf(199, 1, 1600), 1);
  }

  private static void promise5ShiftOf() {
    BeamHall x = new BeamHall();
    x.mode(2, 2, 3);
    x.mode(3, 3, 4);
    d.is("MODE of 2", x.shiftOf(2, 0, 0), 3);
    d.is("MODE of 3", x.shiftOf(3, 0, 0), 4);
    x.hours(4);
    x.trip(2, 10);
    x.hours(6);
    x.trip(0, 3);
    x.trip(1, 4);
    d.is("LOST of 0 on 3", x.shiftOf(0, 1, 3), 0);
    d.is("LOST of 0 on 4", x.shiftOf(0, 1, 4), 6);
    d.is("LOST of 0 on 9", x.shiftOf(0, 1, 9), 6);
    d.is("LOST of 0 on 10: each HOUR once", x.shiftOf(0, 1, 10), 8);
    d.is("LOST of 1 on 10", x.shiftOf(1, 1, 10), 4);
    d.is("LOST of 2 on 10", x.shiftOf(2, 1, 10), 0);
    d.is("shiftOf(200, ..)", x.shiftOf(200, 0, 0), -1);
    d.is("shiftOf(-1, 9, -1): -1 first", x.shiftOf(-1, 9, -1), -1);
    d.is("shiftOf(0, 2, -1): -2 next", x.shiftOf(0, 2, -1), -2);
    d.is("shiftOf(0, -1, 0)", x.shiftOf(0, -1, 0), -2);
    d.is("shiftOf(0, 1, -1)", x.shiftOf(0, 1, -1), -4);
    d.is("shiftOf(0, 1, 11)", x.shiftOf(0, 1, 11), -6);
    d.refusals("shiftOf", x, 2, 2, 0, 1, 0, 1);
  }

  private static void promise6Bench() {
    BeamHall x = new BeamHall();
    d.is("bench(-1, 256): -4 first", x.bench(-1, 256), -4);
    d.is("bench(0, -1)", x.bench(0, -1), -4);
    d.is("bench(256, 0)", x.bench(256, 0), -6);
    d.is("bench(0, 256)", x.bench(0, 256), -6);
    d.is("benches", x.count(1), 0);
    for (int i = 0; i < 6; i++) d.is("bench " + i, x.bench(i == 0 ? 0 : 255, i == 0 ? 0 : 255), i);
    d.is("bench 6", x.bench(0, 0), -6);
    d.is("bench 6 and below: -4 first", x.bench(-1, 0), -4);
    d.is("benches", x.count(1), 6);
    d.refusals("bench", x, 0, 0, 0, 3, 0, 3);
  }

  private static void promise7Set() {
    BeamHall x = new BeamHall();
    d.is("set(0, 3)", x.set(0, 3), 1);
    d.is("set(0, 0)", x.set(0, 0), 3);
    d.is("set(1, 0)", x.set(1, 0), 100);
    d.is("set(1, 100)", x.set(1, 100), 0);
    d.is("set(2, 1)", x.set(2, 1), 0);
    d.is("set(2, 0)", x.set(2, 0), 1);
    d.is("set(3, -1): -2 first", x.set(3, -1), -2);
    d.is("set(-1, 0)", x.set(-1, 0), -2);
    d.is("set(0, -1)", x.set(0, -1), -4);
    d.is("set(0, 4)", x.set(0, 4), -6);
    d.is("set(1, 101)", x.set(1, 101), -6);
    d.is("set(2, 2)", x.set(2, 2), -6);
    d.is("all stay", x.set(0, 0) * 10000 + x.set(1, 100) * 10 + x.set(2, 0), 1000);
    d.refusals("set", x, 0, 2, 0, 1, 0, 3);
  }
}
