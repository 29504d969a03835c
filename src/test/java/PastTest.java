/** Promises 34 to 38: who HAD what, LEAD, the row and its check, and what is counted. */
public final class PastTest {
  private static final Due d = new Due();

  public static void main(String[] args) {
    promise34Had();
    promise34Long();
    promise35Lead();
    promise36Put();
    promise37Check();
    promise38Count();
    d.end("PastTest");
  }

  private static void promise34Had() {
    BeamHall x = Due.hall(2);
    Due.ask(x, 0, 2);
    Due.ask(x, 1, 3);
    x.hours(2);
    x.give(0, 0, 10);
    x.take(0);
    x.give(1, 0, 9);
    x.hours(3);
    x.take(1);
    x.give(0, 0, 10);
    x.hours(4);
    x.withdraw(0);
    x.hours(1);
    d.is("on 1", x.had(0, 10, 1), -9);
    d.is("on 2: the last of that HOUR", x.had(0, 10, 2), 1);
    d.is("on 4", x.had(0, 10, 4), 1);
    d.is("on 5", x.had(0, 10, 5), 0);
    d.is("on 5, the SHIFT that it has no more", x.had(0, 9, 5), -9);
    d.is("on 4, its first", x.had(0, 9, 4), 1);
    d.is("on 8", x.had(0, 11, 8), 0);
    d.is("on 9", x.had(0, 11, 9), -9);
    d.is("on 10", x.had(0, 11, 10), -9);
    d.is("at the other BENCH", x.had(1, 10, 5), -9);
    d.is("had(2, ..)", x.had(2, 0, -1), -1);
    d.is("had(0, 200, ..)", x.had(0, 200, 0), -1);
    d.is("had(0, -1, ..)", x.had(0, -1, 0), -1);
    d.is("had(0, 0, -1)", x.had(0, 0, -1), -4);
    d.is("had(0, 0, 11)", x.had(0, 0, 11), -6);
    d.refusals("had", x, 3, 0, 0, 1, 0, 1);
  }

  /** As much as can be had in 512 calls: each HOUR all ASKS are moved. */
  private static void promise34Long() {
    BeamHall x = Due.hall(1);
    for (int i = 0; i < 30; i++) Due.ask(x, i % 10, 1);
    x.plan(100, 199);
    x.mode(1, 99, 4);
    for (int hour = 0; hour < 90; hour++) {
      x.mode(100, 129, hour % 2 == 0 ? 4 : 0);
      x.mode(130, 199, hour % 2 == 0 ? 0 : 4);
      d.is("moved on " + hour, x.again(), 30);
      x.hours(1);
    }
    d.is("given and taken back on 0", x.had(0, 100, 0), -9);
    for (int k = 0; k < 90; k += 3) {
      d.is("HAD on " + k, x.had(0, k % 2 == 0 ? 147 : 117, k), 17);
      d.is("HAD not on " + k, x.had(0, k % 2 == 0 ? 117 : 147, k), -9);
    }
  }

  private static void promise35Lead() {
    BeamHall x = Due.hall(1);
    Due.ask(x, 0, 2);
    d.is("never", x.lead(0, 4), -9);
    x.hours(3);
    x.give(0, 0, 4);
    d.is("given", x.lead(0, 5), 3);
    d.is("behind it", x.lead(0, 6), -9);
    d.is("ahead of it", x.lead(0, 3), -9);
    x.hours(4);
    x.take(0);
    d.is("taken back", x.lead(0, 5), 7);
    d.is("lead(1, 0)", x.lead(1, 0), -1);
    d.is("lead(-1, 0)", x.lead(-1, 0), -1);
    d.is("lead(0, 200)", x.lead(0, 200), -1);
    d.is("lead(0, -1)", x.lead(0, -1), -1);
    d.refusals("lead", x, 4, 0, 0, 0, 0, 0);
  }

  private static void promise36Put() {
    BeamHall x = new BeamHall();
    for (int i = 1; i <= 21; i++) d.is("put " + i, x.put(Integer.MIN_VALUE + i), i);
    d.is("put 22", x.put(0), -6);
    d.is("ints of the row", x.count(8), 21);
    d.refusals("put", x, 0, 0, 0, 0, 0, 1);
  }

  private static void promise37Check() {
    BeamHall x = Due.hall(2);
    d.is("an empty row", x.check(0, 199, 0), -9);
    Due.ask(x, 0, 2);
    Due.ask(x, 1, 1);
    x.give(0, 1, 3);
    x.give(1, 1, 6);
    x.hours(5);
    x.take(1);
    int[] week = {-9, 0, 0, -9, 1, -9};
    for (int v : week) x.put(v);
    d.is("check(2, ..)", x.check(2, 0, -1), -1);
    d.is("check(0, -1, 0)", x.check(0, -1, 0), -1);
    d.is("check(0, 200, 0)", x.check(0, 200, 0), -1);
    d.is("SHIFTS of it beyond 199", x.check(1, 195, 0), -1);
    d.is("check(1, 2, -1)", x.check(1, 2, -1), -4);
    d.is("check(1, 2, 6)", x.check(1, 2, 6), -6);
    d.is("refused: it stays", x.count(8), 6);
    d.is("as known on 4", x.check(1, 2, 4), -9);
    d.is("it has none then", x.count(8), 0);
    for (int v : week) x.put(v);
    d.is("as known on 5 the fifth is wrong", x.check(1, 2, 5), 4);
    for (int v : week) x.put(v);
    d.is("at the other BENCH the second", x.check(0, 2, 5), 1);
    for (int v : week) x.put(v);
    d.is("up to 199", x.check(1, 194, 5), 1);
    x.put(7);
    d.is("the first", x.check(1, 3, 5), 0);
    d.refusals("check", x, 4, 0, 0, 1, 0, 1);
  }

  private static void promise38Count() {
    BeamHall x = Due.hall(2);
    x.hours(9);
    for (int i = 0; i < 3; i++) Due.ask(x, i, 3);
    x.give(0, 0, 5);
    x.give(1, 1, 5);
    x.withdraw(2);
    Due.text(x, "B:k=9", 0);
    Due.text(x, "B:k=9", 0);
    x.strike(1, 0);
    x.trip(1, 1);
    Due.feed(x, "abc");
    x.put(1);
    int[] want = {9, 2, 3, 2, 2, 1, 6, 3, 1, -9, -9, 0, 0, 0, 0, 0, 0, -9};
    for (int i = 0; i < want.length; i++) d.is("count(" + i + ")", x.count(i), want[i]);
    d.is("count(-1)", x.count(-1), -9);
    d.is("count(max)", x.count(Integer.MAX_VALUE), -9);
    d.is("count(min)", x.count(Integer.MIN_VALUE), -9);
    x.fit(9, 9, 9);
    x.fit(9, 9, 9);
    x.set(9, 9);
    x.take(2);
    x.hours(-1);
    x.ask(0, 0, 0, 0, 0, 0, 0);
    x.hours(1600);
    x.habit(9, 9);
    x.habit(0, 9);
    d.refusals("count", x, 3, 2, 1, 1, 1, 1);
    x.withdraw(0);
    d.is("those with a PLACE", x.count(3), 1);
    d.is("SHIFTS given", x.count(6), 3);
    d.is("ASKS, those WITHDRAWN too", x.count(2), 3);
  }
}
