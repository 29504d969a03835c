/** Parts III and IV of the Terms, edge by edge: panels, FIT, HOSTS, PLAN, SHARE, WHY and BEST. */
public final class EdgesOfPlansTest {
  private static final Due d = new Due();

  public static void main(String[] args) {
    readersAreSix();
    marksEnd();
    marksAreThree();
    kinIsToldFromNowOn();
    marksAreCut();
    scaledWithin();
    habitCutDown();
    habitEnds();
    doubtEnds();
    fitShiftByShift();
    fitLostHours();
    fitOfItself();
    hostsOfLeastNumbers();
    hostsStay();
    planWithin();
    planOfNothing();
    planOrder();
    planOfAll();
    shareCut();
    shareBegins();
    shareNotOfOwed();
    whyOfEach();
    whyShare();
    bestShifts();
    bestAsks();
    bestLeavesOut();
    bestTheFirst();
    bestOneByOne();
    d.end("EdgesOfPlansTest");
  }

  // "READERS 0 .. 5."; "KIN: a READER and a GROUP"
  private static void readersAreSix() {
    BeamHall x = new BeamHall();
    for (int r = -1; r <= 6; r++) {
      boolean is = r >= 0 && r < 6;
      d.is("kin of " + r, x.kin(r, 0), is ? 1 : -1);
      d.is("kin of " + r + " again", x.kin(r, 0), is ? 0 : -1);
      d.is("habit of " + r, x.habit(r, 0), is ? 0 : 1000000001);
    }
    for (int g = -1; g <= 10; g++) d.is("kin of GROUP " + g, x.kin(5, g), g == 0 ? 0 : g > 0 && g < 10 ? 1 : -1);
  }

  // "A READER's mark of an ASK (0 .. 100; told once ..)"
  private static void marksEnd() {
    BeamHall x = new BeamHall();
    for (int i = 0; i < 4; i++) Due.ask(x, i, 1);
    d.is("-1", x.mark(0, 0, -1), -4);
    d.is("101", x.mark(0, 0, 101), -6);
    d.is("0", x.mark(0, 0, 0), 1);
    d.is("0 is told", x.mark(0, 0, 50), -3);
    d.is("100", x.mark(5, 1, 100), 1);
    d.is("MARK 0", x.markOf(0), 0);
    d.is("MARK 100", x.markOf(1), 100);
    d.is("of another ASK", x.mark(0, 1, 50), 1);
    d.is("by another READER", x.mark(1, 0, 50), 1);
    d.is("-9 without", x.markOf(2), -9);
  }

  // "3 for an ASK at most"
  private static void marksAreThree() {
    BeamHall x = new BeamHall();
    Due.ask(x, 0, 1);
    Due.ask(x, 0, 1);
    x.kin(0, 0);
    x.kin(1, 0);
    x.kin(2, 0);
    for (int r = 0; r < 3; r++) d.is("KIN " + r, x.mark(r, 0, 90), 0);
    d.is("three that do not count are three", x.mark(3, 0, 90), -3);
    d.is("they leave no MARK", x.markOf(0), -9);
    for (int r = 3; r < 6; r++) d.is("READER " + r, x.mark(r, 1, 20 * r), 1);
    d.is("three that count are three", x.mark(0, 1, 90), -3);
    d.is("the MARK of 60, 80, 100", x.markOf(1), 80);
  }

  // "A mark counts if the READER was no KIN of the GROUP as it was told (later KIN changes nothing that was told)."
  private static void kinIsToldFromNowOn() {
    BeamHall x = new BeamHall();
    Due.ask(x, 3, 1);
    Due.ask(x, 3, 1);
    d.is("told ahead of KIN", x.mark(0, 0, 70), 1);
    d.is("and another one's", x.mark(1, 0, 10), 1);
    x.kin(0, 3);
    d.is("later KIN: MARK", x.markOf(0), 40);
    d.is("later KIN: HABIT", x.habit(0, 0), 60);
    d.is("later KIN: DOUBT", x.habit(0, 1), 0);
    d.is("told behind KIN", x.mark(0, 1, 70), 0);
    d.is("no MARK", x.markOf(1), -9);
    x.mark(1, 1, 10);
    d.is("the HABIT is of the first one alone", x.habit(0, 0), 60);
    d.is("KIN of another GROUP", Due.ask(x, 4, 1) * 10 + x.mark(0, 2, 1), 21);
  }

  // "the sum of marks that count by how many, cut"
  private static void marksAreCut() {
    int[][] rows = {{1, 0, -1, 0}, {100, 99, -1, 99}, {100, 100, 99, 99}, {0, 0, 1, 0}, {0, 0, 2, 0}, {0, 0, 3, 1},
        {100, 100, 100, 100}, {33, 33, 34, 33}, {0, 0, 0, 0}};
    for (int[] row : rows) {
      BeamHall x = new BeamHall();
      Due.ask(x, 0, 1);
      for (int r = 0; r < 3; r++) if (row[r] >= 0) x.mark(r, 0, row[r]);
      d.is("MARK of " + row[0] + ", " + row[1] + ", " + row[2], x.markOf(0), row[3]);
    }
  }

  // "less HABITS, if SCALED is told (not at first): each mark less its READER's HABIT first; 0 .. 100; -9 without"
  private static void scaledWithin() {
    BeamHall x = new BeamHall();
    for (int i = 0; i < 4; i++) Due.ask(x, i, 1);
    x.mark(0, 0, 51);
    x.mark(1, 0, 1);
    x.mark(0, 1, 50);
    x.mark(1, 2, 50);
    d.is("HABITS", x.habit(0, 0) * 1000 + x.habit(1, 0), 50 * 1000 - 50);
    x.set(2, 1);
    d.is("50 less 50", x.markOf(1), 0);
    d.is("50 more 50", x.markOf(2), 100);
    d.is("1 and 51", x.markOf(0), 26);
    d.is("-9 without", x.markOf(3), -9);
    BeamHall y = new BeamHall();
    for (int i = 0; i < 3; i++) Due.ask(y, i, 1);
    y.mark(0, 0, 52);
    y.mark(1, 0, 1);
    y.mark(0, 1, 50);
    y.mark(1, 2, 50);
    y.set(2, 1);
    d.is("50 less 51: 0 at least", y.markOf(1), 0);
    d.is("50 more 51: 100 at most", y.markOf(2), 100);
    y.mark(2, 1, 52);
    // HABITS then: 0: (51 - 2) by 2, cut down, 24; 2: 2. 50 - 24 and 52 - 2 by 2.
    d.is("both", y.markOf(1), 38);
    y.set(2, 0);
    d.is("told no more", y.markOf(1), 51);
  }

  // "all together by the number of those others in all, cut down; 0 without"
  private static void habitCutDown() {
    int[][] rows = {{5, 6, -1, -1}, {6, 5, -1, 1}, {5, 5, 6, -1}, {5, 5, 4, 0}, {5, 6, 4, 0}, {5, 6, 6, -1}, {5, 6, 7, -2},
        {5, 7, 7, -2}, {5, 3, 4, 1}, {5, 4, 4, 1}, {0, 100, 100, -100}, {100, 0, 0, 100}, {5, 5, 5, 0}};
    for (int[] row : rows) {
      BeamHall x = new BeamHall();
      Due.ask(x, 0, 1);
      for (int r = 0; r < 3; r++) if (row[r] >= 0) x.mark(r, 0, row[r]);
      d.is("HABIT of " + row[0] + " with " + row[1] + ", " + row[2], x.habit(0, 0), row[3]);
    }
    BeamHall y = new BeamHall();
    Due.ask(y, 0, 1);
    Due.ask(y, 1, 1);
    y.mark(0, 0, 10);
    y.mark(1, 0, 11);
    y.mark(2, 0, 12);
    y.mark(0, 1, 10);
    y.mark(1, 1, 11);
    d.is("-3 and -1 by 3, cut down once", y.habit(0, 0), -2);
  }

  // "over ASKS that it and others marked (counting ones)"; "0 without"
  private static void habitEnds() {
    BeamHall x = new BeamHall();
    Due.ask(x, 0, 1);
    Due.ask(x, 1, 1);
    d.is("no marks", x.habit(5, 0), 0);
    x.mark(5, 0, 100);
    x.mark(4, 1, 0);
    d.is("others marked others", x.habit(5, 0), 0);
    x.kin(4, 0);
    x.mark(4, 0, 0);
    d.is("the other one's does not count", x.habit(5, 0), 0);
    x.kin(5, 1);
    x.mark(5, 1, 100);
    d.is("its own does not count", x.habit(5, 0), 0);
    d.is("of the other one", x.habit(4, 0), 0);
    x.mark(3, 0, 0);
    d.is("one that counts", x.habit(5, 0), 100);
    d.is("of that one", x.habit(3, 0), -100);
    d.is("the one of KIN has none still", x.habit(4, 0), 0);
  }

  // "DOUBT: the greatest less the least of (its mark less another one's) over these; 0 without."
  private static void doubtEnds() {
    BeamHall x = new BeamHall();
    for (int i = 0; i < 3; i++) Due.ask(x, i, 1);
    d.is("without", x.habit(0, 1), 0);
    x.mark(0, 0, 100);
    d.is("alone", x.habit(0, 1), 0);
    x.mark(1, 0, 0);
    d.is("one: the greatest is the least", x.habit(0, 1), 0);
    x.mark(0, 1, 0);
    x.mark(1, 1, 100);
    d.is("100 less -100", x.habit(0, 1), 200);
    d.is("of the other one", x.habit(1, 1), 200);
    x.mark(2, 2, 0);
    d.is("one that marked alone", x.habit(2, 1), 0);
    x.mark(2, 0, 40);
    d.is("-60 and 40", x.habit(2, 1), 100);
  }

  // "the first BAR that is so for its SHIFTS, SHIFT by SHIFT, in each in this order"
  private static void fitShiftByShift() {
    BeamHall x = Due.hall(2);
    Due.askOf(x, 2, 0, 2, 5, 5);
    x.mode(6, 6, 4);
    d.is("11 is so in 6, but 4 comes first there", x.fit(0, 0, 5), 4);
    x.mode(6, 6, 0);
    d.is("11 in 6", x.fit(0, 0, 5), 11);
    x.mode(7, 7, 4);
    d.is("11 in 6 ahead of 4 in 7", x.fit(0, 0, 6), 11);
    Due.askOf(x, 1, 1, 2, 0, 0);
    x.mode(10, 10, 4);
    d.is("10 in 9 ahead of 4 in 10", x.fit(1, 0, 9), 10);
    d.is("4 in 10 ahead of 10 in 10", x.fit(1, 0, 10), 4);
    x.draft(2, 0, 1, 0);
    x.ask(0, 1, 15, -1, 0, 0, 0);
    d.is("1 ahead of 4", x.fit(2, 1, 10), 1);
    x.hours(100);
    d.is("1 ahead of 3", x.fit(2, 1, 10), 1);
    d.is("3 ahead of 4", x.fit(2, 0, 10), 3);
    d.is("3 ahead of 10", x.fit(1, 0, 9), 3);
    d.is("begun, and not begun", x.fit(1, 0, 12), 3);
  }

  // "4 WORKS, or 8 LOST HOURS (as known NOW)"
  private static void fitLostHours() {
    BeamHall x = Due.hall(1);
    Due.ask(x, 0, 1);
    x.hours(8);
    d.is("7 of 8", x.trip(8, 7) * 10 + x.fit(0, 0, 1), 10);
    d.is("the eighth one", x.trip(8, 8) * 10 + x.fit(0, 0, 1), 24);
    d.is("the next SHIFT", x.fit(0, 0, 2), 0);
    d.is("7 of the next", x.trip(8, 15) * 10 + x.fit(0, 0, 2), 30);
    d.is("7 and another one of it", x.trip(8, 16) * 10 + x.fit(0, 0, 2), 44);
    x.mode(1, 1, 3);
    d.is("its MODE does not help", x.fit(0, 0, 1), 4);
    x.mode(3, 3, 4);
    d.is("WORKS without LOST HOURS", x.fit(0, 0, 3), 4);
  }

  // "FIT of an ASK .. (its own PLACE taken out)"
  private static void fitOfItself() {
    BeamHall x = new BeamHall();
    x.bench(1, 1);
    x.bench(1, 1);
    x.draft(0, 0, 2, 0);
    x.ask(0, 63, 15, 0, 0, 0, 0);
    x.draft(1, 0, 2, 0);
    x.ask(0, 63, 15, 0, 0, 0, 0);
    x.give(0, 0, 5);
    int[] own = {4, 5, 6, 7};
    for (int s : own) d.is("its own BENCH, HOST and GEAR from " + s, x.fit(0, 0, s) * 10 + x.fit(0, 1, s), 0);
    d.is("another one's BENCH", x.fit(1, 0, 6), 6);
    d.is("another one's GEAR", x.fit(1, 1, 6), 7);
    d.is("another one's HOST rests", x.fit(1, 1, 7), 9);
    d.is("and is free", x.fit(1, 1, 8), 0);
    d.is("nothing is taken out in truth", x.askOf(0, 6) * 10 + x.hosts(0, 6), 51);
  }

  // "in each of its SHIFTS the free ones of least numbers stand, one or, if it is WATCHED, two"
  private static void hostsOfLeastNumbers() {
    BeamHall x = new BeamHall();
    x.bench(1, 0xA8);
    x.bench(1, 0xFF);
    for (int i = 0; i < 5; i++) Due.ask(x, i, 2);
    Due.text(x, "W:s=5&g<3", 0);
    x.give(0, 0, 4);
    d.is("HOST 3 in 4", x.hosts(0, 4), 8);
    d.is("HOSTS 3 and 5 in 5", x.hosts(0, 5), 0x28);
    x.give(1, 1, 5);
    d.is("3 and 5 stand in 5: 0 and 1", x.hosts(1, 5), 3);
    d.is("0 is free in 6, as it is its own", x.hosts(1, 6), 1);
    d.is("0 rests in 7, 1 stood in 5 alone", x.give(2, 1, 7) * 1000 + x.hosts(1, 7), 1002);
    d.is("in 8 0 is free", x.hosts(1, 8), 1);
    d.is("at the other BENCH 3 and 5 rest in 6", x.give(3, 0, 6) * 1000 + x.hosts(0, 6), 1128);
    d.is("in 7 they are free", x.hosts(0, 7), 8);
    d.is("one SHIFT each side is nobody's", x.hosts(0, 3) + x.hosts(0, 8) + x.hosts(1, 4) + x.hosts(1, 9), 0);
  }

  // "they stay as long as it has the PLACE"
  private static void hostsStay() {
    BeamHall x = new BeamHall();
    x.bench(1, 3);
    x.bench(1, 3);
    Due.ask(x, 0, 1);
    Due.ask(x, 1, 1);
    x.give(0, 0, 4);
    x.give(1, 1, 4);
    x.take(0);
    d.is("HOST 1 stays though 0 is free", x.hosts(1, 4), 2);
    x.set(0, 3);
    Due.text(x, "W:0=0", 0);
    d.is("and though two are wanted now", x.hosts(1, 4), 2);
    d.is("AGAIN finds that it FITS with two", x.again(), 0);
    d.is("and lets it stay", x.hosts(1, 4), 2);
    x.take(1);
    x.give(1, 1, 4);
    d.is("given anew: two", x.hosts(1, 4), 3);
  }

  // "SHIFT by SHIFT from a on, all within b; then BENCH by BENCH"
  private static void planWithin() {
    for (int length = 1; length <= 4; length++) {
      BeamHall x = Due.hall(1);
      Due.ask(x, 0, length);
      if (length > 1) d.is(length + " within " + (length - 1), x.plan(10, 8 + length), 0);
      d.is(length + " within " + length, x.plan(10, 9 + length), 1);
      d.is("from a on", x.askOf(0, 6), 10);
      BeamHall y = Due.hall(1);
      Due.ask(y, 0, length);
      d.is("at the end", y.plan(200 - length, 199), 1);
      d.is("its SHIFT", y.askOf(0, 6), 200 - length);
    }
    BeamHall z = Due.hall(1);
    Due.ask(z, 0, 2);
    d.is("one SHIFT, the last one, is too short", z.plan(199, 199), 0);
    z.hours(9);
    d.is("from a on, though a is begun", z.plan(0, 3), 1);
    d.is("the first that is not", z.askOf(0, 6), 2);
  }

  // "how many got a PLACE"; "PASSED: those that got none"
  private static void planOfNothing() {
    BeamHall x = Due.hall(1);
    d.is("no ASKS", x.plan(0, 199) * 10 + x.passed(-1), 0);
    Due.ask(x, 0, 1);
    x.withdraw(0);
    d.is("none but WITHDRAWN ones", x.plan(0, 199) * 10 + x.passed(-1), 0);
    Due.ask(x, 1, 1);
    x.give(1, 0, 3);
    d.is("none without a PLACE", x.plan(0, 199) * 10 + x.passed(-1), 0);
    d.is("it stays", x.askOf(1, 6), 3);
    BeamHall y = new BeamHall();
    Due.ask(y, 0, 1);
    d.is("no BENCHES", y.plan(0, 199), 0);
    d.is("one was PASSED", y.passed(-1) * 10 + y.passed(0), 10);
    d.is("-9 behind it", y.passed(1), -9);
    BeamHall z = Due.hall(1);
    Due.ask(z, 0, 1);
    z.hours(1600);
    d.is("all is begun", z.plan(0, 199) * 10 + z.passed(-1), 1);
  }

  // "OWED first, then URGENT, then by MARK, the greatest first (-9 last), of several by numbers"
  private static void planOrder() {
    BeamHall x = Due.hall(1);
    int[] kinds = {0, 3, 4, 3, 0, 2, 3, 1, 0};
    int[] marks = {-1, -1, 100, 0, 0, 100, 0, 99, 100};
    Due.ask(x, 0, 1);
    x.give(0, 0, 0);
    for (int i = 1; i < 9; i++) {
      x.draft(i, 0, 1, 0);
      x.ask(kinds[i], 63, 15, -1, 0, 0, kinds[i] == 2 ? 199 : 0);
      if (marks[i] >= 0) x.mark(0, i, marks[i]);
    }
    Due.ask(x, 9, 1);
    x.hours(8);
    x.trip(0, 8);
    d.is("OWED", x.owe(0), 10);
    Due.ask(x, 9, 1);
    d.is("PLAN of the SHIFT that is begun", x.plan(0, 0), 0);
    int[] due = {10, 3, 6, 1, 2, 5, 8, 7, 4, 9, 11};
    for (int i = 0; i < due.length; i++) d.is("the " + i + "-th that was PASSED", x.passed(i), due[i]);
    d.is("PLAN of all", x.plan(2, 12), 11);
    for (int i = 0; i < due.length; i++) d.is("the SHIFT of " + due[i], x.askOf(due[i], 6), 2 + i);
    d.is("none was PASSED", x.passed(-1) * 10 + x.passed(0), -9);
  }

  // "ASKS .. (30 at most)": all of them in one PLAN
  private static void planOfAll() {
    BeamHall x = Due.hall(1);
    for (int i = 0; i < 30; i++) Due.ask(x, i % 10, 1);
    x.mark(0, 29, 100);
    x.mode(0, 199, 4);
    d.is("none", x.plan(0, 199), 0);
    d.is("all were PASSED", x.passed(-1), 30);
    d.is("the first", x.passed(0), 29);
    d.is("the last", x.passed(29), 28);
    d.is("behind it", x.passed(30), -9);
    x.mode(0, 199, 0);
    d.is("29 of 29 SHIFTS", x.plan(171, 199), 29);
    d.is("one was PASSED", x.passed(-1) * 100 + x.passed(0), 128);
    d.is("199 is full", x.askOf(27, 6), 199);
  }

  // "are not above SHARE (0 .. 100 hundredths; 100 at first ..) of BENCHES times SHIFTS from a to b, cut"
  private static void shareCut() {
    int[][] rows = {{100, 10}, {99, 9}, {90, 9}, {89, 8}, {40, 4}, {39, 3}, {31, 3}, {30, 3}, {29, 2}, {10, 1}, {9, 0}, {1, 0}, {0, 0}};
    for (int[] row : rows) {
      BeamHall x = Due.hall(2);
      for (int i = 0; i < 11; i++) Due.ask(x, 0, 1);
      x.set(1, row[0]);
      d.is(row[0] + " hundredths of 2 times 5", x.plan(20, 24), row[1]);
      d.is("the others were PASSED", x.passed(-1), 11 - row[1]);
    }
    BeamHall y = Due.hall(6);
    for (int i = 0; i < 30; i++) Due.ask(y, 0, 4);
    y.set(1, 10);
    d.is("10 hundredths of 6 times 200 are 30 times 4", y.plan(0, 199), 30);
    BeamHall z = Due.hall(1);
    Due.ask(z, 0, 4);
    z.set(1, 80);
    d.is("all of its own: 4 of 4, cut", z.plan(20, 24), 1);
    z.take(0);
    z.set(1, 79);
    d.is("4 above 3", z.plan(20, 24), 0);
    d.is("WHY", z.why(0, 0, 20, 20, 24), 12);
  }

  // "SHIFTS from a to b given to PLACES of that LAND that begin in it (those behind b are not counted)"
  private static void shareBegins() {
    // SHARE is of 4 SHIFTS, 10 .. 13; how many of them another PLACE of LONG 3 takes, by its first SHIFT.
    int[][] rows = {{7, 0}, {8, 0}, {9, 0}, {10, 3}, {11, 3}, {12, 2}, {13, 1}, {14, 0}};
    for (int[] row : rows) {
      for (int free = 0; free <= 4; free++) {
        BeamHall x = Due.hall(1);
        Due.ask(x, 0, 3);
        Due.ask(x, 1, 1);
        x.give(0, 0, row[0]);
        x.set(1, 25 * free);
        int spot = row[0] <= 10 || row[0] == 14 ? 13 : 10;
        d.is("a PLACE from " + row[0] + ", SHARE " + free, x.why(1, 0, spot, 10, 13), row[1] + 1 <= free ? 0 : 12);
      }
    }
    BeamHall y = Due.hall(1);
    Due.ask(y, 0, 3);
    y.draft(1, 1, 1, 0);
    y.ask(0, 63, 15, -1, 0, 0, 0);
    y.give(0, 0, 10);
    y.set(1, 25);
    d.is("PLACES of another LAND", y.why(1, 0, 13, 10, 13), 0);
  }

  // "(.. OWED ones don't count and are not asked)"
  private static void shareNotOfOwed() {
    BeamHall x = Due.hall(1);
    Due.ask(x, 0, 4);
    x.give(0, 0, 0);
    x.hours(32);
    x.trip(0, 32);
    d.is("OWED", x.owe(0), 1);
    Due.ask(x, 1, 1);
    x.set(1, 0);
    d.is("SHARE 0: the OWED one alone", x.plan(10, 14), 1);
    d.is("its SHIFT", x.askOf(1, 6), 10);
    d.is("the other one was PASSED", x.passed(-1) * 10 + x.passed(0), 12);
    x.set(1, 20);
    d.is("SHARE of 1: the OWED one's four don't count", x.plan(10, 14), 1);
    d.is("its SHIFT", x.askOf(2, 6), 14);
  }

  // "WHY of an ASK at a BENCH: FIT; 12 it fits, but SHARE."
  private static void whyOfEach() {
    BeamHall x = Due.hall(1);
    Due.ask(x, 0, 2);
    x.set(1, 0);
    d.is("12", x.why(0, 0, 5, 5, 5), 12);
    x.mode(6, 6, 4);
    d.is("FIT comes first", x.why(0, 0, 5, 5, 5), 4);
    d.is("at the ends of a and b", x.why(0, 0, 0, 0, 199), 12);
    d.is("beyond 199", x.why(0, 0, 199, 0, 199), 3);
    x.set(1, 100);
    d.is("0 it would get it", x.why(0, 0, 0, 0, 199), 0);
    x.withdraw(0);
    d.is("one that is WITHDRAWN: what it would FIT", x.why(0, 0, 0, 0, 199), 0);
  }

  // "with SHARE from a to b", "and all of its own"
  private static void whyShare() {
    BeamHall x = Due.hall(1);
    Due.ask(x, 0, 3);
    d.is("3 of 1", x.why(0, 0, 5, 5, 5), 12);
    d.is("3 of 2", x.why(0, 0, 5, 5, 6), 12);
    d.is("3 of 3", x.why(0, 0, 5, 5, 7), 0);
    d.is("3 of 3, the last two behind b", x.why(0, 0, 5, 3, 5), 0);
    x.give(0, 0, 5);
    d.is("its own PLACE does not count twice", x.why(0, 0, 5, 5, 7), 0);
    d.is("nor elsewhere", x.why(0, 0, 7, 5, 7), 0);
  }

  // "BEST from SHIFT a to b (8 SHIFTS at most)"
  private static void bestShifts() {
    BeamHall x = Due.hall(1);
    Due.ask(x, 0, 4);
    Due.ask(x, 1, 4);
    x.mark(0, 0, 7);
    x.mark(0, 1, 9);
    d.is("9 SHIFTS", x.best(10, 18, 3, -1), -6);
    d.is("8 SHIFTS: both", x.best(10, 17, 3, -1), 16);
    d.is("the first", x.best(10, 17, 3, 0), 80);
    d.is("the second", x.best(10, 17, 3, 1), 112);
    d.is("7 SHIFTS: one", x.best(10, 16, 3, -1), 9);
    d.is("4 SHIFTS: one", x.best(10, 13, 3, 1), 80);
    d.is("3 SHIFTS: none", x.best(10, 12, 3, -1) * 10 + x.best(10, 12, 3, 1), -9);
    d.is("the last 8", x.best(192, 199, 3, -1), 16);
    d.is("its place", x.best(192, 199, 3, 1), 8 * 196);
    d.is("the last one", x.best(199, 199, 3, -1), 0);
    x.hours(1600);
    d.is("all is begun", x.best(192, 199, 3, -1), 0);
  }

  // "of a set of ASKS (numbers 0 .. 29, 4 at most ..)"
  private static void bestAsks() {
    BeamHall x = Due.hall(6);
    for (int i = 0; i < 30; i++) Due.ask(x, i % 10, 1);
    for (int i = 26; i < 30; i++) x.mark(0, i, 25);
    d.is("none", x.best(3, 3, 0, -1), 0);
    d.is("29 alone", x.best(3, 3, 1 << 29, -1), 25);
    d.is("its place", x.best(3, 3, 1 << 29, 29), 24);
    d.is("26 .. 29", x.best(3, 3, 15 << 26, -1), 100);
    for (int i = 26; i < 30; i++) d.is("BENCH by BENCH " + i, x.best(3, 3, 15 << 26, i), 24 + i - 26);
    d.is("five", x.best(3, 3, 31 << 25, -1), -6);
    d.is("0 and 29", x.best(3, 3, 1 << 29 | 1, 29), 25);
  }

  // "may be left out"; "(-9 as 0)"; "none last"
  private static void bestLeavesOut() {
    BeamHall x = Due.hall(1);
    for (int i = 0; i < 3; i++) Due.ask(x, i, 1);
    x.mark(0, 1, 0);
    d.is("without MARKS: 0", x.best(5, 5, 7, -1), 0);
    d.is("the first has a place still", x.best(5, 5, 7, 0), 40);
    d.is("none is left for 1", x.best(5, 5, 7, 1), -9);
    d.is("none is left for 2", x.best(5, 5, 7, 2), -9);
    x.mark(0, 2, 1);
    d.is("1 is above 0", x.best(5, 5, 7, -1), 1);
    d.is("0 is left out", x.best(5, 5, 7, 0), -9);
    d.is("2 has its place", x.best(5, 5, 7, 2), 40);
    d.is("two SHIFTS: 0 has the first", x.best(5, 6, 7, 0), 40);
    d.is("2 the second", x.best(5, 6, 7, 2), 48);
    x.mode(5, 6, 4);
    d.is("none FITS", x.best(5, 6, 7, -1) * 10 + x.best(5, 6, 7, 2), -9);
  }

  // "of several the first: by numbers the first PLACE (SHIFT, then BENCH)"
  private static void bestTheFirst() {
    BeamHall x = Due.hall(2);
    for (int i = 0; i < 3; i++) {
      x.draft(i, 0, 2, 0);
      x.ask(0, 3, 15, -1, 0, 0, 0);
      x.mark(0, i, 50);
    }
    d.is("all three in four SHIFTS of two BENCHES", x.best(0, 3, 7, -1), 150);
    d.is("0", x.best(0, 3, 7, 0), 0);
    d.is("1", x.best(0, 3, 7, 1), 1);
    d.is("2", x.best(0, 3, 7, 2), 16);
    d.is("three SHIFTS: one is left out, the last one", x.best(0, 2, 7, -1), 100);
    d.is("0", x.best(0, 2, 7, 0), 0);
    d.is("1", x.best(0, 2, 7, 1), 1);
    d.is("2", x.best(0, 2, 7, 2), -9);
    x.give(1, 1, 0);
    d.is("SHIFT ahead of BENCH", x.best(0, 3, 5, 2), 16);
    x.mode(0, 0, 4);
    d.is("SHIFT 1 at 0", x.best(0, 3, 5, 0), 8);
    d.is("then SHIFT 2 at 1", x.best(0, 3, 5, 2), 17);
  }

  // "each given, in numbers' order, at a place at which it FITS with those given ahead of it"
  private static void bestOneByOne() {
    BeamHall x = Due.hall(1);
    Due.ask(x, 0, 1);
    Due.askOf(x, 1, 1, 1, 0, 6);
    x.mark(0, 1, 9);
    d.is("TIED by 6: 8 SHIFTS are enough", x.best(0, 7, 3, -1), 9);
    d.is("0 in the first", x.best(0, 7, 3, 0), 0);
    d.is("1 in the last", x.best(0, 7, 3, 1), 56);
    d.is("7 are not", x.best(0, 6, 3, -1), 0);
    d.is("0 keeps its place", x.best(0, 6, 3, 0), 0);
    d.is("without 0 it does not FIT", x.best(0, 7, 2, -1), 0);
    d.is("late ones, too", x.best(192, 199, 3, 0) * 10000 + x.best(192, 199, 3, 1), 1536 * 10000 + 1592);
    d.is("7 late ones", x.best(193, 199, 3, -1), 0);
    BeamHall y = Due.hall(2);
    for (int i = 0; i < 2; i++) {
      y.draft(i, 0, 1, 0);
      y.ask(0, 3, 15, 2, 0, 0, 0);
      y.mark(0, i, 10);
    }
    d.is("one GEAR, one SHIFT", y.best(4, 4, 3, -1), 10);
    d.is("one GEAR, two SHIFTS", y.best(4, 5, 3, -1), 20);
    BeamHall z = new BeamHall();
    z.bench(1, 1);
    for (int i = 0; i < 4; i++) Due.ask(z, i, 1);
    for (int i = 0; i < 4; i++) z.mark(0, i, 10);
    d.is("one HOST who rests: 4 in 7 SHIFTS", z.best(3, 9, 15, -1), 40);
    d.is("the last of them", z.best(3, 9, 15, 3), 72);
    d.is("3 in 6", z.best(3, 8, 15, -1), 30);
    z.set(0, 3);
    d.is("REST 3: 2 in 8", z.best(3, 10, 15, -1), 20);
    d.is("the second", z.best(3, 10, 15, 1), 56);
    d.is("nothing is given", z.count(3), 0);
  }
}
