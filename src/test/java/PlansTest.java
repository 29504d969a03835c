/** Promises 23 to 26 and 29: PLAN, who was PASSED, WHY, BEST and AGAIN. */
public final class PlansTest {
  private static final Due d = new Due();

  public static void main(String[] args) {
    promise23Order();
    promise23FirstPlace();
    promise23Share();
    promise24Passed();
    promise25Why();
    promise26Best();
    promise26Ties();
    promise26Watched();
    promise26Refusals();
    promise29Again();
    promise29AgainInOrder();
    d.end("PlansTest");
  }

  private static void promise23Order() {
    BeamHall x = Due.hall(1);
    Due.ask(x, 0, 1);
    Due.ask(x, 1, 1);
    Due.ask(x, 2, 1);
    Due.askOf(x, 3, 3, 1, 0, 0);
    Due.askOf(x, 3, 4, 1, 0, 0);
    Due.ask(x, 5, 1);
    Due.ask(x, 6, 1);
    x.mark(0, 1, 0);
    x.mark(0, 2, 90);
    x.mark(0, 4, 1);
    x.mark(0, 5, 90);
    x.give(6, 0, 0);
    x.hours(8);
    x.trip(0, 8);
    d.is("one OWED", x.owe(6), 7);
    d.is("plan(2, 6)", x.plan(2, 6), 5);
    d.is("OWED first", x.askOf(7, 6), 2);
    d.is("then URGENT, by MARK", x.askOf(4, 6), 3);
    d.is("then URGENT without", x.askOf(3, 6), 4);
    d.is("then by MARK, of several by numbers", x.askOf(2, 6), 5);
    d.is("then by MARK, of several by numbers", x.askOf(5, 6), 6);
    d.is("how many were PASSED", x.passed(-1), 2);
    d.is("a MARK of 0 is ahead of none", x.passed(0), 1);
    d.is("-9 last", x.passed(1), 0);
    d.is("i-th", x.passed(2), -9);
    d.is("plan(2, 1)", x.plan(2, 1), -1);
    d.is("plan(-1, 1)", x.plan(-1, 1), -1);
    d.is("plan(0, 200)", x.plan(0, 200), -1);
    d.is("PASSED stays as a PLAN is refused", x.passed(-1), 2);
    d.refusals("plan", x, 3, 0, 0, 0, 0, 0);
  }

  private static void promise23FirstPlace() {
    BeamHall x = Due.hall(2);
    Due.ask(x, 0, 1);
    Due.ask(x, 1, 1);
    Due.ask(x, 2, 3);
    Due.ask(x, 3, 2);
    x.mode(4, 4, 4);
    d.is("plan(3, 7)", x.plan(3, 7), 4);
    d.is("SHIFT by SHIFT", x.askOf(1, 6), 3);
    d.is("then BENCH by BENCH", x.askOf(1, 5), 1);
    d.is("behind the WORKS", x.askOf(2, 6) * 10 + x.askOf(2, 5), 50);
    d.is("the other BENCH", x.askOf(3, 6) * 10 + x.askOf(3, 5), 51);
    Due.ask(x, 4, 4);
    d.is("all within b", x.plan(8, 10), 0);
    d.is("all within b", x.plan(8, 11), 1);
    d.is("none is left", x.plan(0, 199), 0);
  }

  private static void promise23Share() {
    BeamHall x = Due.hall(2);
    for (int i = 0; i < 4; i++) Due.ask(x, i, 2);
    x.draft(4, 1, 2, 0);
    x.ask(0, 63, 15, -1, 0, 0, 0);
    x.set(1, 49);
    // 2 BENCHES, 5 SHIFTS: 49 hundredths of 10 are 4, cut.
    d.is("plan(2, 6)", x.plan(2, 6), 3);
    d.is("two of LAND 0 and the one of LAND 1", x.passed(0) * 10 + x.passed(1), 23);
    d.is("another LAND", x.askOf(4, 6), 4);
    x.set(1, 60);
    d.is("6 are not above 6", x.plan(2, 6), 1);
    d.is("PLACES that begin ahead do not count", begunAhead(), 1);
    d.is("SHIFTS behind b do not count", behind(), 1);
    d.is("but one that begins in b does", atEnd(), 0);
    x.set(1, 0);
    d.is("SHARE 0", x.plan(20, 90), 0);
  }

  private static int begunAhead() {
    BeamHall x = Due.hall(1);
    Due.ask(x, 0, 2);
    Due.ask(x, 1, 2);
    x.give(0, 0, 4);
    x.set(1, 50);
    return x.plan(5, 8);
  }

  private static int behind() {
    BeamHall x = Due.hall(1);
    Due.ask(x, 0, 4);
    Due.ask(x, 1, 3);
    x.give(0, 0, 8);
    x.set(1, 80);
    return x.plan(4, 8);
  }

  private static int atEnd() {
    BeamHall x = Due.hall(1);
    Due.ask(x, 0, 1);
    Due.ask(x, 1, 1);
    x.give(0, 0, 8);
    x.set(1, 20);
    return x.plan(4, 8);
  }

  private static void promise24Passed() {
    BeamHall x = Due.hall(1);
    d.is("no PLAN", x.passed(-1), 0);
    Due.ask(x, 0, 1);
    Due.ask(x, 1, 1);
    Due.ask(x, 2, 1);
    x.mark(0, 2, 9);
    x.plan(3, 3);
    d.is("PASSED", x.passed(-1), 2);
    d.is("0", x.passed(0), 0);
    d.is("1", x.passed(1), 1);
    d.is("2", x.passed(2), -9);
    d.is("max", x.passed(Integer.MAX_VALUE), -9);
    d.is("passed(-2)", x.passed(-2), -2);
    d.is("passed(min)", x.passed(Integer.MIN_VALUE), -2);
    x.give(0, 0, 5);
    d.is("what is given later changes nothing", x.passed(0), 0);
    x.mode(3, 3, 4);
    x.again();
    d.is("nor does AGAIN", x.passed(-1), 2);
    x.plan(20, 30);
    d.is("the latest PLAN passed none", x.passed(-1), 0);
    d.is("-9", x.passed(0), -9);
    d.refusals("passed", x, 0, 2, 0, 0, 0, 0);
  }

  private static void promise25Why() {
    BeamHall x = Due.hall(1);
    Due.ask(x, 0, 2);
    Due.ask(x, 1, 2);
    x.set(1, 50);
    x.give(0, 0, 2);
    d.is("it would get it", x.why(1, 0, 4, 2, 9), 0);
    d.is("FIT", x.why(1, 0, 3, 2, 5), 6);
    d.is("SHARE: 4 above 2", x.why(1, 0, 4, 2, 5), 12);
    d.is("SHARE: of another window", x.why(1, 0, 4, 4, 7), 0);
    d.is("all of its own", x.why(1, 0, 4, 4, 4), 12);
    d.is("its own PLACE is taken out", x.why(0, 0, 2, 2, 5), 0);
    x.set(1, 100);
    d.is("all of its own, those behind b too", x.why(1, 0, 4, 4, 4), 12);
    d.is("b may lie in it", x.why(1, 0, 5, 4, 5), 0);
    x.set(1, 0);
    x.hours(24);
    x.trip(16, 8);
    int owed = x.owe(0);
    d.is("OWED ones are not asked", x.why(owed, 0, 6, 5, 9), 0);
    x.set(1, 50);
    x.give(owed, 0, 6);
    d.is("OWED ones don't count", x.why(1, 0, 7, 6, 9), 0);
    d.is("why(3, ..)", x.why(3, 0, 4, 4, 5), -1);
    d.is("why(0, 1, ..)", x.why(0, 1, 4, 4, 5), -1);
    d.is("SHIFT ahead", x.why(0, 0, 3, 4, 5), -1);
    d.is("SHIFT behind", x.why(0, 0, 6, 4, 5), -1);
    d.is("b below a", x.why(0, 0, 4, 5, 4), -1);
    d.is("a -1", x.why(0, 0, 4, -1, 5), -1);
    d.is("b 200", x.why(0, 0, 4, 4, 200), -1);
    d.refusals("why", x, 7, 0, 0, 0, 0, 0);
  }

  private static void promise26Best() {
    BeamHall x = Due.hall(1);
    Due.ask(x, 0, 4);
    Due.ask(x, 1, 3);
    Due.ask(x, 2, 2);
    Due.ask(x, 3, 2);
    Due.ask(x, 4, 1);
    int[] marks = {50, 30, 25, 20};
    for (int i = 0; i < 4; i++) x.mark(0, i, marks[i]);
    d.is("a knapsack: 30 and 25 and 20 of 7 SHIFTS", x.best(10, 16, 15, -1), 80);
    d.is("0", x.best(10, 16, 15, 0), 80);
    d.is("1", x.best(10, 16, 15, 1), 112);
    d.is("2", x.best(10, 16, 15, 2), -9);
    d.is("5 SHIFTS: 30 and 25 are above 50", x.best(10, 14, 15, -1), 55);
    d.is("0 is left out", x.best(10, 14, 15, 0), -9);
    d.is("1 first", x.best(10, 14, 15, 1), 80);
    d.is("2 behind", x.best(10, 14, 15, 2), 104);
    d.is("3 is left out", x.best(10, 14, 15, 3), -9);
    d.is("-9 as 0", x.best(10, 10, 16, -1), 0);
    d.is("it gets its place still", x.best(10, 10, 16, 4), 80);
    d.is("nothing is given", x.count(3), 0);
    d.is("no LEAD", x.lead(0, 10), -9);
    d.is("nobody stands", x.hosts(0, 10), 0);
    d.is("no ASKS", x.best(0, 0, 0, -1), 0);
    d.is("SHARE not asked", withoutShare(), 77);
  }

  private static int withoutShare() {
    BeamHall x = Due.hall(1);
    Due.ask(x, 0, 2);
    x.mark(0, 0, 77);
    x.set(1, 0);
    return x.best(1, 2, 1, -1);
  }

  private static void promise26Ties() {
    BeamHall x = Due.hall(2);
    Due.ask(x, 0, 1);
    Due.askOf(x, 1, 1, 1, 0, 1);
    x.draft(2, 0, 1, 0);
    x.ask(0, 1, 15, -1, 0, 0, 0);
    for (int i = 0; i < 3; i++) x.mark(0, i, 10);
    d.is("all three", x.best(4, 6, 7, -1), 30);
    d.is("the first place: SHIFT, then BENCH", x.best(4, 6, 7, 0), 32);
    d.is("TIED to one of them", x.best(4, 6, 7, 1), 48);
    d.is("by numbers the first", x.best(4, 6, 7, 2), 40);
    d.is("TIED to one that is not among them", x.best(4, 6, 6, -1), 10);
    d.is("two SHIFTS: 0 and 2, as ever", x.best(4, 5, 7, -1), 20);
    x.give(0, 0, 4);
    d.is("TIED to one with a PLACE", x.best(4, 6, 6, 1), 48);
    d.is("what is given stands in the way", x.best(4, 4, 4, 2), -9);
    BeamHall y = new BeamHall();
    y.bench(1, 1);
    y.bench(1, 3);
    Due.ask(y, 0, 1);
    Due.ask(y, 1, 1);
    y.mark(0, 0, 5);
    y.mark(0, 1, 5);
    d.is("HOSTS of those ahead: both", y.best(3, 3, 3, -1), 10);
    d.is("0 at 0, HOST 0", y.best(3, 3, 3, 0), 24);
    d.is("1 at 1, HOST 1", y.best(3, 3, 3, 1), 25);
    d.is("all within b", y.best(199, 199, 3, 1), 8 * 199 + 1);
    Due.text(y, "W:g=0&s<6", 0);
    d.is("WATCHED: two HOSTS of BENCH 1, none is left for 1", y.best(4, 4, 3, -1), 5);
    d.is("the first: 0 has it", y.best(4, 4, 3, 0), 33);
    d.is("1 is left out", y.best(4, 4, 3, 1), -9);
    d.is("in 6 and 7 it is not WATCHED", y.best(5, 7, 3, 0), 41);
    d.is("and 1 waits for its HOST to rest", y.best(5, 7, 3, 1), 56);
  }

  /** Each in the set is WATCHED for itself, not as those ahead of it are. */
  private static void promise26Watched() {
    BeamHall x = new BeamHall();
    x.bench(1, 1);
    x.bench(1, 3);
    x.set(0, 0);
    for (int i = 0; i < 2; i++) {
      Due.ask(x, i, 1);
      x.mark(0, i, 5);
    }
    d.is("not WATCHED: both", x.best(3, 3, 3, -1), 10);
    Due.text(x, "W:g=1", 0);
    d.is("1 alone has two HOSTS", x.best(3, 3, 2, 1), 25);
    d.is("0 has one of the two that 1 wants", x.best(3, 3, 3, -1), 5);
    d.is("0 first", x.best(3, 3, 3, 0), 24);
    d.is("none for 1", x.best(3, 3, 3, 1), -9);
    d.is("one SHIFT more: both", x.best(3, 4, 3, -1), 10);
    d.is("1 in it", x.best(3, 4, 3, 1), 33);
    BeamHall y = new BeamHall();
    y.bench(1, 3);
    y.bench(1, 3);
    y.bench(1, 4);
    y.set(0, 0);
    for (int i = 0; i < 3; i++) {
      y.draft(i, 0, 2, 0);
      y.ask(0, i == 0 ? 4 : 3, 15, -1, 0, 0, 0);
      y.mark(0, i, 5);
    }
    d.is("not WATCHED: all", y.best(3, 4, 7, -1), 15);
    Due.text(y, "W:g=1&s=4", 0);
    d.is("1 has both HOSTS in its second SHIFT", y.best(3, 4, 7, -1), 10);
    d.is("0", y.best(3, 4, 7, 0), 26);
    d.is("1", y.best(3, 4, 7, 1), 24);
    d.is("none for 2", y.best(3, 4, 7, 2), -9);
    d.is("from 4 on 1 has them in its first one", y.best(4, 5, 7, -1), 10);
    d.is("from 5 on it is not WATCHED", y.best(5, 6, 7, -1), 15);
  }

  private static void promise26Refusals() {
    BeamHall x = Due.hall(1);
    for (int i = 0; i < 6; i++) Due.ask(x, i, 1);
    x.give(5, 0, 0);
    d.is("a -1", x.best(-1, 0, 1, -2), -1);
    d.is("b 200", x.best(190, 200, 1, -1), -1);
    d.is("b below a", x.best(5, 4, 1, -1), -1);
    d.is("an ASK that is not there", x.best(0, 3, 64, -1), -1);
    d.is("set below 0", x.best(0, 3, -1, -1), -1);
    d.is("set with 30", x.best(0, 3, 1 << 30, -1), -1);
    d.is("one that is not in it", x.best(0, 3, 3, 2), -1);
    d.is("one that can not be in it", x.best(0, 3, 3, 32), -1);
    d.is("0, that is not in it", x.best(0, 3, 2, 0), -1);
    d.is("what -2, 9 SHIFTS: -2 first", x.best(0, 8, 63, -2), -2);
    d.is("9 SHIFTS, one has a PLACE: -6 first", x.best(0, 8, 32, -1), -6);
    d.is("8 SHIFTS", x.best(0, 7, 1, -1), 0);
    d.is("5 ASKS", x.best(0, 3, 31, -1), -6);
    d.is("4 ASKS", x.best(0, 3, 30, -1), 0);
    d.is("one has a PLACE", x.best(0, 3, 33, -1), -3);
    x.withdraw(4);
    d.is("one is WITHDRAWN", x.best(0, 3, 30, -1), -3);
    d.refusals("best", x, 9, 1, 2, 0, 0, 2);
  }

  private static void promise29Again() {
    BeamHall x = Due.hall(2);
    for (int i = 0; i < 4; i++) Due.ask(x, i, 2);
    x.give(0, 0, 0);
    x.give(1, 0, 5);
    x.give(2, 1, 5);
    x.give(3, 0, 9);
    x.hours(17);
    d.is("all FIT, but the begun one", x.again(), 0);
    x.mode(0, 6, 4);
    x.set(1, 0);
    d.is("two of them have another PLACE", x.again(), 2);
    d.is("the begun one stays", x.askOf(0, 6), 0);
    d.is("the one that FITS stays", x.askOf(3, 6), 9);
    d.is("1", x.askOf(1, 6) * 10 + x.askOf(1, 5), 70);
    d.is("2", x.askOf(2, 6) * 10 + x.askOf(2, 5), 71);
    d.is("HAD on 16", x.had(0, 5, 16), 1);
    d.is("HAD on 17", x.had(0, 5, 17), -9);
    d.is("HAD on 17", x.had(0, 7, 17), 1);
    x.mode(7, 199, 4);
    x.mode(4, 5, 0);
    d.is("one gets another PLACE, ...", x.again(), 3);
    d.is("the first by numbers", x.askOf(1, 6), 4);
    d.is("the second", x.askOf(2, 6) * 10 + x.askOf(2, 5), 41);
    d.is("none is left for the third", x.askOf(3, 5), -9);
    x.mode(0, 199, 4);
    x.mode(3, 3, 0);
    x.draft(9, 0, 1, 0);
    x.ask(0, 63, 15, -1, 0, 0, 0);
    x.mode(4, 4, 0);
    x.take(1);
    x.take(2);
    x.give(4, 0, 4);
    x.mode(4, 4, 4);
    x.hours(6);
    d.is("from the SHIFT behind NOW's: 3, though NOW is 23", x.again(), 1);
    d.is("its SHIFT", x.askOf(4, 6), 3);
    x.mode(3, 3, 4);
    x.mode(4, 4, 0);
    x.hours(1);
    d.is("on 24 it is 4", x.again(), 1);
    d.is("its SHIFT", x.askOf(4, 6), 4);
    x.hours(1576);
    d.is("nothing is behind the last", x.again(), 0);
  }

  private static void promise29AgainInOrder() {
    BeamHall x = Due.hall(1);
    Due.ask(x, 0, 1);
    Due.askOf(x, 1, 1, 1, 0, 0);
    Due.askOf(x, 3, 2, 1, 0, 0);
    x.give(0, 0, 5);
    x.give(1, 0, 6);
    x.give(2, 0, 7);
    x.mode(1, 5, 4);
    x.mode(7, 7, 4);
    // 0 is taken back, then 1, TIED to one without a PLACE, then 2; 2 is URGENT and gets SHIFT 6.
    d.is("three", x.again(), 3);
    d.is("URGENT first", x.askOf(2, 6), 6);
    d.is("then 0", x.askOf(0, 6), 8);
    d.is("then 1, behind it", x.askOf(1, 6), 9);
    BeamHall y = new BeamHall();
    y.bench(1, 1);
    y.bench(1, 1);
    y.set(0, 0);
    Due.ask(y, 0, 1);
    Due.ask(y, 1, 1);
    y.give(0, 0, 4);
    y.give(1, 1, 5);
    y.set(0, 1);
    d.is("too near now: only the first one is taken back", y.again(), 1);
    d.is("it moves to the first SHIFT", y.askOf(0, 6), 1);
    d.is("the other one stays", y.askOf(1, 6), 5);
    BeamHall z = Due.hall(1);
    Due.ask(z, 0, 1);
    Due.askOf(z, 1, 1, 1, 0, 0);
    z.give(0, 0, 1);
    z.give(1, 0, 9);
    z.hours(8);
    z.mode(1, 1, 4);
    z.mode(3, 8, 4);
    d.is("one that comes back to its PLACE does not count", z.again(), 1);
    d.is("0", z.askOf(0, 6), 2);
    d.is("1", z.askOf(1, 6), 9);
    d.is("it was taken back and given still", z.lead(0, 9), 8);
  }
}
