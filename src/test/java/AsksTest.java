/** Promises 8 to 11, 28 and 30: ASKS, what they are, what is owed to them, and their DANGER told anew. */
public final class AsksTest {
  private static final Due d = new Due();

  public static void main(String[] args) {
    promise8Draft();
    promise9Ask();
    promise9Days();
    promise10Withdraw();
    promise11AskOf();
    promise11Owed();
    promise28Owe();
    promise30Danger();
    d.end("AsksTest");
  }

  private static void promise8Draft() {
    BeamHall x = new BeamHall();
    d.is("draft(9, 4, 4, 7)", x.draft(9, 4, 4, 7), 1);
    d.is("draft(-1, ..)", x.draft(-1, 0, 0, 0), -1);
    d.is("draft(10, ..)", x.draft(10, 0, 1, 0), -1);
    d.is("draft(0, 5, ..)", x.draft(0, 5, 0, 9), -1);
    d.is("draft(0, -1, ..)", x.draft(0, -1, 1, 0), -1);
    d.is("draft LONG 0, WANTS 9: -4 first", x.draft(0, 0, 0, 9), -4);
    d.is("draft WANTS -1", x.draft(0, 0, 1, -1), -4);
    d.is("draft LONG 5", x.draft(0, 0, 5, 0), -6);
    d.is("draft WANTS 8", x.draft(0, 0, 1, 8), -6);
    d.refusals("draft", x, 4, 0, 0, 2, 0, 2);
    d.is("the first one was kept", x.ask(0, 1, 1, -1, 0, 0, 0), 0);
    d.is("its GROUP", x.askOf(0, 1), 9);
    d.is("its LAND", x.askOf(0, 2), 4);
    d.is("its LONG", x.askOf(0, 3), 4);
    x.draft(1, 1, 1, 1);
    x.draft(2, 2, 2, 2);
    d.is("another one puts it away", x.ask(0, 1, 1, -1, 0, 0, 0), 1);
    d.is("the later GROUP", x.askOf(1, 1), 2);
    d.is("the draft is used up", x.ask(0, 1, 1, -1, 0, 0, 0), -5);
  }

  private static void promise9Ask() {
    BeamHall x = new BeamHall();
    d.is("no draft, all else wrong: -5 first", x.ask(9, -1, 99, 9, 99, 0, 0), -5);
    x.draft(0, 0, 1, 0);
    d.is("KIND 5 is made by THE OFFICE", x.ask(5, -1, 0, 0, 0, 0, 0), -2);
    d.is("KIND -1", x.ask(-1, 1, 1, 0, 0, 0, 0), -2);
    d.is("BENCHES -1, MODES 16: -4 first", x.ask(0, -1, 16, 9, 0, 0, 0), -4);
    d.is("MODES -1", x.ask(0, 1, -1, 0, 0, 0, 0), -4);
    d.is("DANGER -1", x.ask(0, 1, 1, 0, -1, 0, 0), -4);
    d.is("BENCHES 64, GEAR 9: -6 first", x.ask(0, 64, 1, 9, 0, 0, 0), -6);
    d.is("MODES 16", x.ask(0, 1, 16, 0, 0, 0, 0), -6);
    d.is("DANGER 10", x.ask(0, 1, 1, 0, 10, 0, 0), -6);
    d.is("GEAR 6", x.ask(0, 1, 1, 6, 0, 0, 0), -1);
    d.is("GEAR -2", x.ask(0, 1, 1, -2, 0, 0, 0), -1);
    d.is("TIED to none", x.ask(1, 1, 1, 0, 0, 0, 0), -1);
    d.is("the draft is kept; x and y count nothing", x.ask(4, 63, 15, 5, 9, -7, 777), 0);
    d.refusals("ask", x, 3, 2, 0, 3, 1, 3);
    for (int i = 1; i < 30; i++) {
      x.draft(0, 0, 1, 0);
      d.is("ASK " + i, x.ask(3, 0, 0, -1, 0, 0, 0), i);
    }
    x.draft(0, 0, 1, 0);
    d.is("ASK 30", x.ask(0, 0, 0, -1, 0, 0, 0), -6);
    d.is("ASK 30, DANGER -1: -4 first", x.ask(0, 0, 0, -1, -1, 0, 0), -4);
    d.is("ASK 30, GEAR 9: -6 first", x.ask(0, 0, 0, 9, 0, 0, 0), -6);
    d.is("ASKS", x.count(2), 30);
  }

  private static void promise9Days() {
    BeamHall x = new BeamHall();
    Due.ask(x, 0, 1);
    x.draft(0, 0, 1, 0);
    d.is("TIED y -1", x.ask(1, 1, 1, -1, 0, 9, -1), -4);
    d.is("TIED y 31", x.ask(1, 1, 1, -1, 0, 9, 31), -6);
    d.is("TIED x 1 is not told yet", x.ask(1, 1, 1, -1, 0, 1, 30), -1);
    d.is("TIED x -1", x.ask(1, 1, 1, -1, 0, -1, 30), -1);
    d.is("TIED y 30", x.ask(1, 1, 1, -1, 0, 0, 30), 1);
    x.draft(0, 0, 1, 0);
    d.is("LIVING x -1", x.ask(2, 1, 1, -1, 0, -1, 5), -4);
    d.is("LIVING y below x", x.ask(2, 1, 1, -1, 0, 5, 4), -4);
    d.is("LIVING x 300, y 299: -4 first", x.ask(2, 1, 1, -1, 0, 300, 299), -4);
    d.is("LIVING y 200", x.ask(2, 1, 1, -1, 0, 5, 200), -6);
    d.is("LIVING x 200", x.ask(2, 1, 1, -1, 0, 200, 200), -6);
    d.is("LIVING 0 .. 199", x.ask(2, 1, 1, -1, 0, 0, 199), 2);
    d.is("KIND", x.askOf(2, 0), 2);
  }

  private static void promise10Withdraw() {
    BeamHall x = Due.hall(1);
    Due.ask(x, 0, 2);
    Due.ask(x, 1, 2);
    x.give(0, 0, 0);
    x.hours(5);
    d.is("withdraw(2)", x.withdraw(2), -1);
    d.is("withdraw(-1)", x.withdraw(-1), -1);
    d.is("a begun one", x.withdraw(0), 1);
    d.is("its BENCH", x.askOf(0, 5), -9);
    d.is("WITHDRAWN", x.askOf(0, 7), 1);
    d.is("it is free", x.hosts(0, 1), 0);
    d.is("SHIFT 1 fits the other one", x.fit(1, 0, 1), 0);
    d.is("HAD till then", x.had(0, 1, 4) * 100 + x.had(0, 1, 5), -9);
    d.is("LEAD", x.lead(0, 1), 5);
    d.is("again", x.withdraw(0), -3);
    d.is("it gets no PLACE by hand", x.give(0, 0, 3), -3);
    d.is("nor by PLAN", x.plan(1, 9), 1);
    d.is("nor is it PASSED", x.passed(-1), 0);
    d.refusals("withdraw", x, 2, 0, 2, 0, 0, 0);
  }

  private static void promise11AskOf() {
    BeamHall x = Due.hall(2);
    x.draft(3, 4, 2, 5);
    x.ask(4, 2, 15, -1, 6, 0, 0);
    int[] want = {4, 3, 4, 2, 6, -9, -9, 0, 0, 0};
    for (int i = 0; i < 10; i++) d.is("askOf(0, " + i + ")", x.askOf(0, i), want[i]);
    x.give(0, 1, 1);
    x.hours(20);
    x.trip(9, 11);
    d.is("BENCH", x.askOf(0, 5), 1);
    d.is("SHIFT", x.askOf(0, 6), 1);
    d.is("LOSS", x.askOf(0, 8), 11);
    d.is("OWED: 11 by 8, cut", x.askOf(0, 9), 1);
    x.trip(20, 20);
    x.trip(0, 9);
    d.is("LOSS of its SHIFTS alone", x.askOf(0, 8), 16);
    d.is("askOf(1, 99): -1 first", x.askOf(1, 99), -1);
    d.is("askOf(-1, 0)", x.askOf(-1, 0), -1);
    d.is("askOf(0, 10)", x.askOf(0, 10), -2);
    d.is("askOf(0, -1)", x.askOf(0, -1), -2);
    d.refusals("askOf", x, 2, 2, 0, 0, 0, 0);
  }

  private static void promise11Owed() {
    BeamHall x = Due.hall(2);
    Due.ask(x, 0, 3);
    Due.text(x, "O:9", 5);
    x.give(0, 1, 4);
    d.is("begun in 4: the O from 5 on is not in force", x.askOf(0, 9), 0);
    Due.text(x, "O:t-5+b", 0);
    x.hours(40);
    x.trip(33, 7);
    d.is("t is all LOST HOURS, b the BENCH", x.askOf(0, 9), 3);
    Due.text(x, "O:s-2", 3);
    d.is("the one from the latest SHIFT on; s is the first SHIFT", x.askOf(0, 9), 2);
    Due.text(x, "O:1", 3);
    d.is("of several the greatest number", x.askOf(0, 9), 1);
    Due.text(x, "O:n+n", 2);
    d.is("an earlier one counts nothing", x.askOf(0, 9), 1);
    x.strike(3, 4);
    d.is("struck: the next", x.askOf(0, 9), 2);
    Due.text(x, "O:0-1", 4);
    d.is("0 at least", x.askOf(0, 9), 0);
    x.strike(5, 0);
    Due.text(x, "O:900", 4);
    d.is("LONG at most", x.askOf(0, 9), 3);
    x.take(0);
    x.withdraw(0);
    d.is("0 without a PLACE", x.askOf(0, 9), 0);
  }

  private static void promise28Owe() {
    BeamHall x = Due.hall(2);
    x.draft(7, 3, 4, 2);
    x.ask(2, 2, 5, 4, 8, 0, 9);
    x.give(0, 1, 1);
    x.mark(0, 0, 50);
    x.hours(40);
    d.is("no LOSS", x.owe(0), -3);
    x.trip(8, 7);
    d.is("OWED is 0", x.owe(0), -3);
    x.trip(15, 15);
    d.is("owe(0)", x.owe(0), 1);
    int[] want = {5, 7, 3, 2, 8, -9, -9, 0, 0, 0};
    for (int i = 0; i < 10; i++) d.is("owed one: askOf(1, " + i + ")", x.askOf(1, i), want[i]);
    d.is("no MARK", x.markOf(1), -9);
    d.is("its BENCHES", x.fit(1, 0, 20), 1);
    x.mode(20, 20, 1);
    d.is("its MODES", x.fit(1, 1, 20), 5);
    d.is("no days", x.fit(1, 1, 30), 0);
    d.is("once each", x.owe(0), -3);
    d.is("owe(2)", x.owe(2), -1);
    d.is("owe(-1)", x.owe(-1), -1);
    Due.text(x, "O:1", 0);
    x.draft(0, 0, 1, 0);
    x.ask(0, 1, 15, -1, 0, 0, 0);
    x.give(2, 0, 40);
    d.is("OWED without LOSS", x.askOf(2, 9), 1);
    d.is("no LOSS, though OWED", x.owe(2), -3);
    x.hours(330 - 40);
    x.trip(320, 1);
    for (int i = 3; i < 30; i++) Due.ask(x, 0, 1);
    d.is("30 ASKS", x.owe(2), -6);
    d.is("30 ASKS and no LOSS: -3 first", x.owe(1), -3);
    d.is("one OWED gets a PLACE as others do", x.plan(100, 101), 3);
    d.is("ahead of all", x.askOf(1, 6), 100);
    d.refusals("owe", x, 2, 0, 5, 0, 0, 1);
  }

  private static void promise30Danger() {
    BeamHall x = Due.hall(1);
    Due.ask(x, 0, 1);
    Due.ask(x, 1, 1);
    Due.text(x, "B:d>5", 0);
    x.give(0, 0, 1);
    d.is("danger(0, 5)", x.danger(0, 5), 0);
    d.is("danger(0, 6)", x.danger(0, 6), 1);
    d.is("DANGER", x.askOf(0, 4), 6);
    d.is("no PLACE", x.askOf(0, 5), -9);
    d.is("LEAD", x.lead(0, 1), 0);
    d.is("without a PLACE", x.danger(0, 9), 0);
    x.give(1, 0, 1);
    x.hours(9);
    d.is("begun ones stay", x.danger(1, 9), 0);
    d.is("its BENCH", x.askOf(1, 5), 0);
    x.danger(0, 0);
    x.give(0, 0, 5);
    x.mode(5, 5, 4);
    d.is("that would not FIT for another reason", x.danger(0, 0), 1);
    d.is("danger(2, -1): -1 first", x.danger(2, -1), -1);
    d.is("danger(0, -1)", x.danger(0, -1), -4);
    d.is("danger(0, 10)", x.danger(0, 10), -6);
    d.is("DANGER stays", x.askOf(0, 4), 0);
    d.refusals("danger", x, 1, 0, 0, 1, 0, 1);
  }
}
