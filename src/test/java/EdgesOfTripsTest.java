/** Parts V and VI of the Terms, edge by edge: LOSS, OWE, AGAIN, DANGER, RING, SWAPPED, HAD, LEAD and weeks. */
public final class EdgesOfTripsTest {
  private static final Due d = new Due();

  public static void main(String[] args) {
    lossOfAllItsShifts();
    lossAsKnownNow();
    oweOnceEach();
    oweNoTiesNoDays();
    oweOfOwed();
    againBegins();
    againFromTheNextShift();
    againTakesBackInOrder();
    againHowMany();
    againWithoutShare();
    dangerOfPlaces();
    wishesStay();
    ringTwoToFive();
    ringOfLikeLong();
    ringOfGroups();
    ringShortestAndFirst();
    ringGivenFromTheFirst();
    ringOfAll();
    swapAllAtOnce();
    swapWishes();
    hadUpToK();
    hadOfOneHour();
    hadAtTheEnds();
    leadOfAll();
    weekOfTwentyOne();
    weekWithin();
    countsOfAll();
    longRun();
    d.end("EdgesOfTripsTest");
  }

  private static BeamHall given(int length, int... shifts) {
    BeamHall x = Due.hall(1);
    for (int i = 0; i < shifts.length; i++) {
      Due.ask(x, i % 10, length);
      x.give(i, 0, shifts[i]);
    }
    return x;
  }

  private static void wishes(BeamHall x, int... row) {
    for (int i = 0; i < row.length; i++) x.wish(row[i], row[(i + 1) % row.length], true);
  }

  private static void ring(String what, BeamHall x, int... want) {
    d.is(what + ": how many", x.ring(-1), want.length);
    for (int i = 0; i < want.length; i++) d.is(what + ": ring(" + i + ")", x.ring(i), want[i]);
    d.is(what + ": no more", x.ring(want.length), -9);
  }

  // "LOSS of an ASK: its LOST HOURS as known NOW (of all SHIFTS of its PLACE)"
  private static void lossOfAllItsShifts() {
    BeamHall x = given(4, 2);
    Due.ask(x, 1, 1);
    x.hours(60);
    d.is("none", x.askOf(0, 8), 0);
    x.trip(15, 1);
    d.is("the HOUR ahead of it", x.askOf(0, 8), 0);
    x.trip(48, 1);
    d.is("the HOUR behind it", x.askOf(0, 8), 0);
    x.trip(16, 1);
    d.is("its first HOUR", x.askOf(0, 8), 1);
    x.trip(47, 1);
    d.is("its last HOUR", x.askOf(0, 8), 2);
    x.trip(0, 60);
    d.is("all of it", x.askOf(0, 8), 32);
    d.is("without a PLACE", x.askOf(1, 8) + x.askOf(1, 9), 0);
    x.withdraw(0);
    d.is("no PLACE any more", x.askOf(0, 8) + x.askOf(0, 9), 0);
  }

  // "as known NOW": one found later is not known ahead of it
  private static void lossAsKnownNow() {
    BeamHall x = given(1, 1);
    x.hours(16);
    d.is("not found yet", x.askOf(0, 8), 0);
    x.trip(8, 8);
    d.is("found NOW", x.askOf(0, 8), 8);
    d.is("not known an HOUR ago", x.shiftOf(1, 1, 15), 0);
    BeamHall y = given(2, 2);
    y.hours(10);
    y.trip(10, 8);
    d.is("SHIFTS to come may be lost, too", y.askOf(0, 8), 2);
    y.trip(10, 60);
    d.is("all of them", y.askOf(0, 8), 16);
    d.is("OWED ahead of its beginning", y.owe(0), 1);
  }

  // "an ASK with LOSS whose OWED is above 0 (once each)"
  private static void oweOnceEach() {
    BeamHall x = given(2, 0, 2);
    x.hours(40);
    x.trip(0, 7);
    d.is("7 HOURS: OWED is 0", x.owe(0), -3);
    x.trip(7, 1);
    d.is("8 HOURS", x.owe(0), 2);
    d.is("LONG 1", x.askOf(2, 3), 1);
    x.trip(8, 8);
    d.is("16 HOURS then: it was so before", x.askOf(0, 9) * 10 + x.owe(0), 17);
    x.trip(16, 16);
    d.is("the other one, LONG 2", x.owe(1) * 10 + x.askOf(3, 3), 32);
    d.is("it was so before", x.owe(1), -3);
    d.is("ASKS", x.count(2), 4);
    BeamHall y = given(1, 1);
    y.trip(0, 16);
    d.is("owe", y.owe(0), 1);
    y.take(0);
    y.give(0, 0, 9);
    y.hours(80);
    y.trip(72, 8);
    d.is("another PLACE, another LOSS: once each", y.askOf(0, 9) * 10 + y.owe(0), 7);
  }

  // "of its GROUP and so on, LONG of OWED SHIFTS, no ties, no days"
  private static void oweNoTiesNoDays() {
    BeamHall x = Due.hall(2);
    Due.ask(x, 0, 1);
    x.draft(7, 3, 2, 6);
    x.ask(1, 2, 9, 4, 8, 0, 5);
    x.draft(8, 4, 2, 5);
    x.ask(2, 1, 6, 5, 9, 10, 12);
    x.mode(10, 12, 1);
    x.give(0, 0, 0);
    d.is("TIED", x.give(1, 1, 6), 1);
    d.is("LIVING", x.give(2, 0, 10), 1);
    x.hours(100);
    x.trip(48, 60);
    d.is("owe of TIED", x.owe(1), 3);
    d.is("owe of LIVING", x.owe(2), 4);
    int[] tied = {5, 7, 3, 2, 8, -9, -9, 0, 0, 0}, living = {5, 8, 4, 2, 9, -9, -9, 0, 0, 0};
    for (int what = 0; what < 10; what++) {
      d.is("of TIED: askOf " + what, x.askOf(3, what), tied[what]);
      d.is("of LIVING: askOf " + what, x.askOf(4, what), living[what]);
    }
    x.withdraw(0);
    d.is("no ties", x.fit(3, 1, 50), 0);
    d.is("its BENCHES", x.fit(3, 0, 50), 1);
    x.mode(60, 60, 1);
    d.is("its MODES: 0 and 3", x.fit(3, 1, 60), 5);
    d.is("no days", x.fit(4, 0, 60), 5);
    x.mode(61, 61, 2);
    d.is("no days, MODES 1 and 2", x.fit(4, 0, 60), 0);
    x.draft(0, 0, 1, 0);
    x.ask(0, 3, 15, 4, 0, 0, 0);
    x.give(5, 0, 50);
    d.is("its GEAR", x.fit(3, 1, 50), 7);
  }

  // an OWED one is an ASK as others are, OWED itself; LONG of OWED as it is told then
  private static void oweOfOwed() {
    BeamHall x = given(4, 0);
    x.hours(32);
    x.trip(0, 32);
    x.danger(0, 9);
    d.is("four", x.owe(0) * 10 + x.askOf(1, 3), 14);
    d.is("DANGER as told anew", x.askOf(1, 4), 9);
    d.is("given", x.give(1, 0, 5), 1);
    x.hours(40);
    d.is("no LOSS", x.owe(1), -3);
    x.trip(40, 20);
    d.is("two of it are OWED", x.owe(1) * 10 + x.askOf(2, 3), 22);
    d.is("and it is OWED", x.askOf(2, 0), 5);
    d.is("once each", x.owe(1), -3);
    d.is("a draft is none of it", x.ask(0, 63, 15, -1, 0, 0, 0), -5);
  }

  // "each ASK with a PLACE that is not begun and at which it would not FIT any more"
  private static void againBegins() {
    BeamHall x = given(1, 2, 3);
    x.hours(17);
    x.mode(0, 9, 4);
    d.is("the one in 3 alone", x.again(), 1);
    d.is("the one in 2 is begun", x.askOf(0, 6), 2);
    d.is("behind the WORKS", x.askOf(1, 6), 10);
    BeamHall y = given(1, 2);
    y.hours(16);
    y.mode(2, 2, 4);
    d.is("on 16 it is not begun", y.again() * 10 + y.askOf(0, 6), 13);
    BeamHall z = given(4, 2);
    z.hours(17);
    z.mode(3, 5, 4);
    d.is("one that is begun stays, whatever comes", z.again() * 10 + z.askOf(0, 6), 2);
    d.is("nothing at all", z.again(), 0);
  }

  // "from the SHIFT behind NOW's (NOW by 8) to 199"
  private static void againFromTheNextShift() {
    int[][] rows = {{0, 1}, {1, 1}, {7, 1}, {8, 2}, {15, 2}, {16, 3}, {1583, 198}, {1584, 199}, {1591, 199}, {1592, -9}};
    for (int[] row : rows) {
      BeamHall x = given(1, 199);
      x.hours(row[0]);
      x.mode(0, 199, 4);
      for (int s = 0; s < 199; s++) if (s >= row[1] - 2) x.mode(s, s, 0);
      if (row[1] == 199) {
        d.is("on " + row[0] + " nothing is behind 199 but WORKS", x.again(), 1);
        d.is("none", x.askOf(0, 6), -9);
      } else {
        d.is("on " + row[0] + " it is moved", x.again(), 1);
        d.is("on " + row[0] + " from", x.askOf(0, 6), row[1]);
      }
    }
    BeamHall y = Due.hall(2);
    Due.ask(y, 0, 1);
    y.give(0, 0, 199);
    y.hours(1591);
    Due.text(y, "B:b=0", 0);
    d.is("on 1591 it moves to the other BENCH in 199", y.again() * 10 + y.askOf(0, 5), 11);
    y.hours(1);
    y.strike(0, 0);
    Due.text(y, "B:b=1", 0);
    d.is("on 1592 199 is not begun, but NOW's: none", y.again() * 10 + y.askOf(0, 5), 1);
    BeamHall z = given(4, 190);
    z.hours(1500);
    z.mode(188, 195, 4);
    d.is("all within 199", z.again() * 1000 + z.askOf(0, 6), 1196);
    z.mode(199, 199, 4);
    z.mode(188, 195, 4);
    d.is("three are too few", z.again() * 10 + z.askOf(0, 6), 1);
  }

  // "in order of numbers each .. (itself taken out) has it taken back; then those, in ORDER, get PLACES"
  private static void againTakesBackInOrder() {
    BeamHall x = new BeamHall();
    x.bench(1, 1);
    x.bench(1, 1);
    x.set(0, 0);
    for (int i = 0; i < 3; i++) Due.ask(x, i, 1);
    x.give(0, 0, 10);
    x.give(1, 1, 11);
    x.give(2, 0, 12);
    x.set(0, 1);
    d.is("0 rests no more beside 1: taken back; so does 1 beside 2", x.again(), 2);
    d.is("0", x.askOf(0, 6), 1);
    d.is("1", x.askOf(1, 6), 3);
    d.is("2 FITS, as 1 is gone", x.askOf(2, 6), 12);
    BeamHall y = given(1, 5, 6, 7);
    y.mark(0, 2, 100);
    y.mark(0, 1, 50);
    y.mode(0, 19, 4);
    d.is("by MARK", y.again(), 3);
    d.is("2 first", y.askOf(2, 6), 20);
    d.is("then 1", y.askOf(1, 6), 21);
    d.is("then 0", y.askOf(0, 6), 22);
  }

  // "how many have another PLACE than before or none"
  private static void againHowMany() {
    BeamHall x = given(1, 5, 6, 7);
    x.mode(0, 199, 4);
    d.is("none is left for all three", x.again(), 3);
    d.is("those with a PLACE", x.count(3), 0);
    d.is("those without are none of it", x.again(), 0);
    x.mode(9, 9, 0);
    d.is("nor do they get one", x.again() * 10 + x.count(3), 0);
    BeamHall y = Due.hall(2);
    Due.ask(y, 0, 1);
    y.give(0, 1, 1);
    Due.text(y, "B:b=1", 0);
    d.is("another BENCH, the same SHIFT", y.again(), 1);
    d.is("BENCH", y.askOf(0, 5) * 10 + y.askOf(0, 6), 1);
    BeamHall z = Due.hall(1);
    Due.ask(z, 0, 1);
    Due.askOf(z, 1, 1, 1, 0, 2);
    z.give(0, 0, 5);
    z.give(1, 0, 8);
    z.mode(5, 5, 4);
    z.mode(2, 4, 4);
    z.hours(3);
    // 0 moves to 1; 1, TIED to it, was taken back with it and would have 4, but 4 and 5 are WORKS: 6.
    d.is("both", z.again(), 2);
    d.is("0 and 1", z.askOf(0, 6) * 10 + z.askOf(1, 6), 16);
    z.mode(1, 1, 4);
    z.mode(3, 3, 0);
    d.is("one comes back to where it was: it does not count", z.again(), 1);
    d.is("0 and 1", z.askOf(0, 6) * 10 + z.askOf(1, 6), 36);
  }

  // "(SHARE not asked)"
  private static void againWithoutShare() {
    BeamHall x = given(2, 5);
    x.set(1, 0);
    x.mode(5, 5, 4);
    d.is("SHARE 0", x.again() * 10 + x.askOf(0, 6), 11);
    d.is("PASSED is of PLAN", x.passed(-1), 0);
  }

  // "DANGER told anew of an ASK: if it has a PLACE not begun that would not FIT any more, that is taken back."
  private static void dangerOfPlaces() {
    BeamHall x = given(1, 1, 2);
    Due.text(x, "B:d=9", 0);
    d.is("to 8", x.danger(0, 8), 0);
    d.is("to 9", x.danger(0, 9), 1);
    d.is("it is taken back", x.askOf(0, 5) + x.hosts(0, 1) + x.count(3), -8);
    d.is("DANGER is told", x.askOf(0, 4), 9);
    d.is("it has no PLACE now", x.danger(0, 9), 0);
    x.hours(16);
    d.is("on 16 the one in 2 is not begun", x.danger(1, 9), 1);
    x.danger(1, 0);
    d.is("given again", x.give(1, 0, 2), 1);
    x.hours(1);
    d.is("on 17 it is begun", x.danger(1, 9), 0);
    d.is("it has it still", x.askOf(1, 6) * 10 + x.askOf(1, 4), 29);
    BeamHall y = new BeamHall();
    y.bench(1, 1);
    Due.ask(y, 0, 2);
    Due.text(y, "W:d>4&s=6", 0);
    y.give(0, 0, 5);
    d.is("WATCHED in its second SHIFT, one HOST: taken back", y.danger(0, 5), 1);
    y.danger(0, 4);
    d.is("not WATCHED: given", y.give(0, 0, 5), 1);
    d.is("told as it is, and it FITS", y.danger(0, 4), 0);
  }

  // "an ASK with a PLACE would have the PLACE of another one (told)": told of any, wanted of those with PLACES
  private static void wishesStay() {
    BeamHall x = Due.hall(1);
    for (int i = 0; i < 2; i++) Due.ask(x, i, 1);
    d.is("told without PLACES", x.wish(0, 1, true) * 10 + x.wish(1, 0, true), 11);
    d.is("no RING", x.ring(-1), 0);
    x.give(0, 0, 1);
    d.is("one alone", x.ring(-1), 0);
    x.give(1, 0, 2);
    d.is("both", x.ring(-1), 2);
    x.take(1);
    d.is("taken back", x.ring(-1), 0);
    x.give(1, 0, 9);
    d.is("the WISHES stay", x.ring(-1), 2);
    x.withdraw(0);
    d.is("WITHDRAWN", x.ring(-1), 0);
    d.is("its WISH is told still", x.wish(0, 1, true), 0);
  }

  // "RING: 2 to 5 ASKS"
  private static void ringTwoToFive() {
    for (int n = 1; n <= 7; n++) {
      BeamHall x = given(1, 1, 2, 3, 4, 5, 6, 7);
      int[] row = new int[n];
      for (int i = 0; i < n; i++) row[i] = i;
      wishes(x, row);
      d.is(n + " around", x.ring(-1), n < 2 || n > 5 ? 0 : n);
      d.is(n + ": the last", x.ring(n - 1), n < 2 || n > 5 ? -9 : n - 1);
      d.is(n + ": swapped", x.swap(), n < 2 || n > 5 ? -3 : n);
      for (int i = 0; i < 7; i++) {
        d.is(n + ": the SHIFT of " + i, x.askOf(i, 6), n < 2 || n > 5 || i >= n ? i + 1 : (i + 1) % n + 1);
      }
    }
  }

  // "of like LONG"
  private static void ringOfLikeLong() {
    for (int a = 1; a <= 4; a++) {
      for (int b = 1; b <= 4; b++) {
        BeamHall x = Due.hall(1);
        Due.ask(x, 0, a);
        Due.ask(x, 1, b);
        x.give(0, 0, 10);
        x.give(1, 0, 20);
        wishes(x, 0, 1);
        d.is("LONG " + a + " and " + b, x.ring(-1), a == b ? 2 : 0);
      }
    }
  }

  // "of GROUPS that are all others"
  private static void ringOfGroups() {
    int[][] rows = {{0, 0, 0}, {0, 1, 2}, {0, 0, 1}, {0, 1, 0}, {1, 0, 0}, {9, 0, 9}};
    int[] due = {0, 3, 0, 0, 0, 0};
    for (int i = 0; i < rows.length; i++) {
      BeamHall x = Due.hall(1);
      for (int j = 0; j < 3; j++) {
        Due.ask(x, rows[i][j], 1);
        x.give(j, 0, j);
      }
      wishes(x, 0, 1, 2);
      d.is("GROUPS " + rows[i][0] + rows[i][1] + rows[i][2], x.ring(-1), due[i]);
    }
  }

  // "the shortest, of several the first by ASKS from the least one on"
  private static void ringShortestAndFirst() {
    BeamHall x = given(1, 1, 2, 3, 4, 5, 6, 7);
    wishes(x, 6, 5, 4);
    ring("from the least one on", x, 4, 6, 5);
    wishes(x, 4, 5, 6);
    ring("4, 5 wish for one another: two are shorter", x, 4, 5);
    x.wish(4, 5, false);
    x.wish(5, 4, false);
    x.wish(6, 4, false);
    x.wish(5, 6, false);
    ring("none is closed", x);
    wishes(x, 0, 3, 1);
    ring("three", x, 0, 3, 1);
    wishes(x, 0, 2, 1);
    ring("0, 2 ahead of 0, 3", x, 0, 2, 1);
    wishes(x, 2, 3);
    ring("two, though not of the least", x, 2, 3);
    wishes(x, 1, 6);
    ring("1, 6 ahead of 2, 3", x, 1, 6);
    wishes(x, 0, 6);
    ring("0, 6 ahead of 1, 6", x, 0, 6);
    wishes(x, 0, 5);
    ring("0, 5 ahead of 0, 6", x, 0, 5);
  }

  // "that FIT there, given one after the other from the first on (all in the RING taken out ahead of it)"
  private static void ringGivenFromTheFirst() {
    BeamHall x = new BeamHall();
    x.bench(1, 1);
    x.bench(1, 3);
    x.set(0, 0);
    Due.ask(x, 0, 1);
    Due.ask(x, 1, 1);
    x.give(0, 0, 5);
    x.give(1, 1, 5);
    d.is("0 and 1 stand", x.hosts(0, 5) * 10 + x.hosts(1, 5), 12);
    wishes(x, 0, 1);
    // 0 is given first: HOST 0 at BENCH 1; then none is free for 1 at BENCH 0.
    ring("the first one takes the other's HOST", x);
    BeamHall y = new BeamHall();
    y.bench(1, 3);
    y.bench(1, 1);
    y.set(0, 0);
    Due.ask(y, 0, 1);
    Due.ask(y, 1, 1);
    y.give(1, 1, 5);
    y.give(0, 0, 5);
    wishes(y, 0, 1);
    // 0 is given first: HOST 0, at BENCH 1; then HOST 1 is free for 1 at BENCH 0.
    ring("the other way round there is one for each", y, 0, 1);
    BeamHall z = Due.hall(1);
    Due.ask(z, 0, 1);
    Due.askOf(z, 1, 1, 1, 0, 0);
    z.give(0, 0, 3);
    z.give(1, 0, 5);
    wishes(z, 0, 1);
    ring("1 would be ahead of what it is TIED to", z);
  }

  // 30 ASKS that all wish for all
  private static void ringOfAll() {
    BeamHall x = Due.hall(1);
    for (int i = 0; i < 30; i++) {
      Due.ask(x, i / 3, 1);
      x.give(i, 0, 10 + i);
    }
    wishes(x, 29, 26, 23, 20, 17);
    ring("the last ones", x, 17, 29, 26, 23, 20);
    wishes(x, 29, 28);
    ring("of one GROUP: no shorter one", x, 17, 29, 26, 23, 20);
    wishes(x, 0, 29);
    ring("the least and the greatest", x, 0, 29);
    d.is("ring(1)", x.ring(1), 29);
    d.is("swap", x.swap(), 2);
    d.is("0 in 39", x.askOf(0, 6), 39);
    d.is("29 in 10", x.askOf(29, 6), 10);
  }

  // "SWAPPED: all of it at once"
  private static void swapAllAtOnce() {
    BeamHall x = given(2, 10, 20, 30, 40, 50);
    x.hours(3);
    wishes(x, 0, 3, 1, 4, 2);
    d.is("five", x.swap(), 5);
    int[] due = {40, 50, 10, 20, 30};
    for (int i = 0; i < 5; i++) d.is("the SHIFT of " + i, x.askOf(i, 6), due[i]);
    int[] who = {2, 3, 4, 0, 1};
    for (int i = 0; i < 5; i++) {
      d.is("on 2", x.had(0, 11 + 10 * i, 2), i);
      d.is("on 3", x.had(0, 11 + 10 * i, 3), who[i]);
      d.is("LEAD", x.lead(0, 11 + 10 * i), 3);
    }
    d.is("as many PLACES as before", x.count(3) * 100 + x.count(6), 510);
    d.is("there is none any more", x.swap(), -3);
  }

  // "WISHES that these made are gone"
  private static void swapWishes() {
    BeamHall x = given(1, 1, 2, 3);
    wishes(x, 0, 1);
    x.wish(0, 2, true);
    x.wish(2, 0, true);
    x.wish(2, 1, true);
    ring("the first of two", x, 0, 1);
    d.is("swap", x.swap(), 2);
    d.is("0 wishes for 1 no more", x.wish(0, 1, false), 0);
    d.is("1 wishes for 0 no more", x.wish(1, 0, false), 0);
    d.is("0 wishes for 2 no more", x.wish(0, 2, false), 0);
    d.is("2 wishes for 0 still", x.wish(2, 0, true), 0);
    d.is("2 wishes for 1 still", x.wish(2, 1, true), 0);
    x.wish(1, 2, true);
    ring("1 is in 1 now", x, 1, 2);
  }

  // "HAD: which ASK has a BENCH in a SHIFT, as known on HOUR k (by what was given or taken back up to k; -9 none)"
  private static void hadUpToK() {
    BeamHall x = Due.hall(1);
    Due.ask(x, 0, 2);
    d.is("never", x.had(0, 10, 0), -9);
    x.hours(5);
    x.give(0, 0, 10);
    x.hours(5);
    x.take(0);
    x.hours(5);
    x.give(0, 0, 11);
    int[] first = {-9, -9, 0, 0, -9, -9, -9}, second = {-9, -9, 0, 0, -9, -9, 0}, third = {-9, -9, -9, -9, -9, -9, 0};
    int[] on = {0, 4, 5, 9, 10, 14, 15};
    for (int i = 0; i < on.length; i++) {
      d.is("10 on " + on[i], x.had(0, 10, on[i]), first[i]);
      d.is("11 on " + on[i], x.had(0, 11, on[i]), second[i]);
      d.is("12 on " + on[i], x.had(0, 12, on[i]), third[i]);
      d.is("9 on " + on[i], x.had(0, 9, on[i]), -9);
      d.is("13 on " + on[i], x.had(0, 13, on[i]), -9);
    }
    d.is("on 16, which is behind NOW", x.had(0, 11, 16), -6);
    x.hours(1585);
    d.is("on 1600", x.had(0, 11, 1600), 0);
    d.is("on 15 as ever", x.had(0, 12, 15), 0);
  }

  // what is given and taken back in one HOUR: the last of it
  private static void hadOfOneHour() {
    BeamHall x = Due.hall(1);
    for (int i = 0; i < 3; i++) Due.ask(x, i, 1);
    x.give(0, 0, 5);
    x.take(0);
    d.is("given and taken back on 0", x.had(0, 5, 0), -9);
    d.is("LEAD knows", x.lead(0, 5), 0);
    x.give(1, 0, 5);
    x.take(1);
    x.give(2, 0, 5);
    d.is("the third one", x.had(0, 5, 0), 2);
    x.hours(1);
    x.take(2);
    x.give(0, 0, 5);
    x.take(0);
    x.give(2, 0, 5);
    d.is("on 0", x.had(0, 5, 0), 2);
    d.is("on 1: it came back", x.had(0, 5, 1), 2);
    d.is("LEAD", x.lead(0, 5), 1);
    x.hours(1);
    x.take(2);
    d.is("on 1", x.had(0, 5, 1), 2);
    d.is("on 2", x.had(0, 5, 2), -9);
  }

  // SHIFTS 0 and 199, BENCHES 0 and 5, ASKS 0 and 29, and more PLACES than one row at first holds
  private static void hadAtTheEnds() {
    BeamHall x = Due.hall(6);
    for (int i = 0; i < 30; i++) Due.ask(x, i % 10, i == 29 ? 4 : 1);
    x.give(0, 0, 0);
    x.give(29, 5, 196);
    d.is("0 at 0", x.had(0, 0, 0), 0);
    d.is("29 at 5", x.had(5, 196, 0) + x.had(5, 199, 0), 58);
    d.is("195 at 5", x.had(5, 195, 0), -9);
    for (int i = 0; i < 40; i++) {
      x.hours(1);
      x.take(29);
      x.give(29, 5, i % 2 == 0 ? 195 : 196);
    }
    for (int k = 0; k <= 40; k++) {
      d.is("195 on " + k, x.had(5, 195, k), k % 2 == 0 ? -9 : 29);
      d.is("199 on " + k, x.had(5, 199, k), k % 2 == 0 ? 29 : -9);
      d.is("197 on " + k, x.had(5, 197, k), 29);
    }
  }

  // "LEAD of a BENCH and SHIFT: the HOUR on which it was last given or taken back; -9 never."
  private static void leadOfAll() {
    BeamHall x = Due.hall(2);
    Due.ask(x, 0, 2);
    Due.ask(x, 1, 1);
    d.is("never", x.lead(0, 0) + x.lead(1, 199), -18);
    x.give(0, 0, 198);
    d.is("on 0", x.lead(0, 198) + x.lead(0, 199), 0);
    d.is("at the other BENCH", x.lead(1, 198), -9);
    d.is("ahead of it", x.lead(0, 197), -9);
    x.hours(7);
    x.give(1, 0, 199);
    d.is("refused: no LEAD", x.lead(0, 199), 0);
    x.take(0);
    d.is("taken back on 7", x.lead(0, 198) * 10 + x.lead(0, 199), 77);
    x.hours(1);
    x.give(1, 0, 199);
    d.is("given on 8, 198 is not", x.lead(0, 198) * 10 + x.lead(0, 199), 78);
    x.hours(1);
    x.mode(199, 199, 4);
    d.is("taken back by DANGER on 9", x.danger(1, 1) * 10 + x.lead(0, 199), 19);
    x.mode(199, 199, 0);
    d.is("by PLAN on 9", x.plan(198, 198) * 10 + x.lead(0, 198), 19);
    x.hours(1);
    x.withdraw(1);
    d.is("WITHDRAWN on 10", x.lead(0, 198), 10);
    x.fit(0, 0, 150);
    x.best(150, 150, 1, -1);
    x.ring(-1);
    d.is("what is but asked is no LEAD", x.lead(0, 150), -9);
  }

  // "A WEEK that is checked: a row (21 ints at most)"; "-6 21"
  private static void weekOfTwentyOne() {
    BeamHall x = Due.hall(1);
    Due.ask(x, 0, 1);
    x.give(0, 0, 199);
    for (int i = 1; i <= 21; i++) d.is("int " + i, x.put(i == 21 ? 0 : -9), i);
    d.is("int 22", x.put(-9), -6);
    d.is("21 SHIFTS from 180 on are beyond 199", x.check(0, 180, 0), -1);
    d.is("ints", x.count(8), 21);
    d.is("from 178 to 198: the last is wrong, nobody has 198", x.check(0, 178, 0), 20);
    d.is("it has none then", x.count(8), 0);
    for (int i = 1; i <= 21; i++) x.put(i == 21 ? 0 : -9);
    d.is("from 179 to 199: none is wrong", x.check(0, 179, 0), -9);
    for (int i = 1; i <= 21; i++) x.put(-9);
    d.is("from 0 to 20: none is wrong", x.check(0, 0, 0), -9);
    for (int i = 1; i <= 21; i++) x.put(Integer.MIN_VALUE);
    d.is("the first", x.check(0, 178, 0), 0);
    d.is("an empty row at 199", x.check(0, 199, 0), -9);
    d.is("an empty row at 200", x.check(0, 200, 0), -1);
    d.is("a row may be begun again", x.put(Integer.MAX_VALUE), 1);
  }

  // "SHIFT by SHIFT from a on at a BENCH, as known on k: the first wrong; -9 none"; "-1 (SHIFTS of it beyond 199, too)"
  private static void weekWithin() {
    BeamHall x = Due.hall(2);
    for (int i = 0; i < 3; i++) Due.ask(x, i, 1);
    x.give(0, 1, 197);
    x.give(1, 1, 199);
    x.hours(2);
    x.give(2, 1, 198);
    int[][] rows = {{0, 2, 1, 197, 2, -9}, {0, -9, 1, 197, 1, -9}, {0, -9, 1, 197, 2, 1}, {0, 2, 1, 197, 1, 1},
        {0, 2, 0, 197, 2, 2}, {1, 2, 1, 197, 2, 0}, {-9, 0, 2, 196, 2, -9}, {0, 2, 1, 198, 2, -1}, {-1, -1, -1, 0, 0, 0}};
    for (int[] row : rows) {
      for (int i = 0; i < 3; i++) x.put(row[i]);
      d.is(row[0] + ", " + row[1] + ", " + row[2] + " from " + row[3] + " on " + row[4], x.check(1, row[3], row[4]), row[5]);
      if (row[5] == -1) d.is("it stays", x.count(8) * 10 + x.check(1, 197, 2), 21);
    }
    d.is("as none was put", x.check(0, 0, 2), -9);
    x.put(-9);
    d.is("as known on 0, the least k", x.check(1, 198, 0), -9);
    x.put(-9);
    d.is("as known on NOW, the greatest k", x.check(1, 198, 2), 0);
  }

  // "count": each of them as it grows
  private static void countsOfAll() {
    BeamHall x = new BeamHall();
    for (int what = 0; what <= 8; what++) d.is("at first " + what, x.count(what), 0);
    x.hours(1600);
    for (int i = 0; i < 6; i++) x.bench(1, 255);
    for (int i = 0; i < 30; i++) Due.ask(x, 0, 4);
    for (int i = 0; i < 20; i++) Due.text(x, "B:0=1", 0);
    for (int i = 0; i < 20; i++) x.trip(1600, 1);
    for (int i = 0; i < 50; i++) x.feed(1, 0);
    for (int i = 0; i < 21; i++) x.put(0);
    int[] due = {1600, 6, 30, 0, 20, 20, 0, 50, 21, -9, -9, 0, 0, 0, 0, 0, 0, -9};
    for (int what = 0; what < due.length; what++) d.is("full: " + what, x.count(what), due[what]);
    BeamHall y = Due.hall(6);
    for (int i = 0; i < 30; i++) Due.ask(y, i % 10, 4);
    d.is("PLAN", y.plan(0, 199), 30);
    d.is("those with a PLACE", y.count(3), 30);
    d.is("SHIFTS given", y.count(6), 120);
    y.take(7);
    d.is("SHIFTS given, as one is taken back", y.count(6), 116);
  }

  // "at most 512 calls": REFUSALS are counted to the last of them
  private static void longRun() {
    BeamHall x = new BeamHall();
    for (int i = 0; i < 511; i++) x.passed(-2);
    d.is("511 REFUSALS", x.count(12), 511);
    BeamHall y = new BeamHall();
    for (int i = 0; i < 511; i++) y.habit(6, 0);
    d.is("511 REFUSALS of (*)", y.count(11), 511);
  }
}
