/** Promises 20 to 22 and 27: what FITS, PLACES given and taken back by hand, HOSTS. */
public final class PlacesTest {
  private static final Due d = new Due();

  public static void main(String[] args) {
    promise20Bars();
    promise20Order();
    promise20Others();
    promise20Tied();
    promise20Living();
    promise20Hosts();
    promise20Watched();
    promise21Give();
    promise22Take();
    promise27Hosts();
    d.end("PlacesTest");
  }

  private static void promise20Bars() {
    BeamHall x = new BeamHall();
    x.set(0, 0);
    x.bench(8, 255);
    x.bench(255, 255);
    x.draft(0, 0, 2, 3);
    x.ask(0, 1, 3, -1, 0, 0, 0);
    d.is("FIT", x.fit(0, 0, 0), 0);
    d.is("1: its BENCHES", x.fit(0, 1, 0), 1);
    x.draft(0, 0, 1, 2);
    x.ask(0, 3, 15, -1, 0, 0, 0);
    d.is("2: what it WANTS", x.fit(1, 0, 0), 2);
    d.is("2: not the other one", x.fit(1, 1, 0), 0);
    d.is("3: beyond 199", x.fit(0, 0, 199), 3);
    d.is("3: 198 and 199", x.fit(0, 0, 198), 0);
    x.hours(8);
    d.is("3: begun", x.fit(0, 0, 0), 3);
    d.is("3: 1 begins now", x.fit(0, 0, 1), 0);
    x.hours(1);
    d.is("3: 1 is begun", x.fit(0, 0, 1), 3);
    x.mode(5, 5, 4);
    d.is("4: WORKS", x.fit(0, 0, 5), 4);
    d.is("4: WORKS in the second", x.fit(0, 0, 4), 4);
    d.is("4: WORKS ahead", x.fit(0, 0, 6), 0);
    x.trip(9, 14);
    d.is("4: 7 LOST HOURS", x.fit(0, 0, 2), 0);
    x.trip(9, 15);
    d.is("4: 8 LOST HOURS", x.fit(0, 0, 2), 4);
    x.mode(10, 10, 1);
    d.is("5: a MODE that it has", x.fit(0, 0, 10), 0);
    x.mode(10, 10, 2);
    d.is("5: a MODE that it hasn't", x.fit(0, 0, 10), 5);
    d.is("fit(2, ..)", x.fit(2, 0, 0), -1);
    d.is("fit(-1, ..)", x.fit(-1, 0, 0), -1);
    d.is("fit(0, 2, 0)", x.fit(0, 2, 0), -1);
    d.is("fit(0, -1, 0)", x.fit(0, -1, 0), -1);
    d.is("fit(0, 0, 200)", x.fit(0, 0, 200), -1);
    d.is("fit(0, 0, -1)", x.fit(0, 0, -1), -1);
    d.refusals("fit", x, 6, 0, 0, 0, 0, 0);
  }

  /** All BARS are so in one SHIFT; they go away one by one, and each time the next one is told. */
  private static void promise20Order() {
    BeamHall x = new BeamHall();
    x.bench(0, 0);
    x.bench(1, 1);
    x.bench(1, 255);
    x.draft(0, 0, 1, 0);
    x.ask(0, 6, 15, 3, 0, 0, 0);
    x.draft(1, 0, 1, 0);
    x.ask(0, 6, 15, 3, 0, 0, 0);
    x.draft(2, 0, 1, 0);
    x.ask(0, 4, 15, -1, 0, 0, 0);
    x.draft(3, 0, 1, 0);
    x.ask(2, 6, 2, 3, 0, 0, 1);
    Due.text(x, "B:g=3&s=5", 0);
    x.mode(5, 5, 4);
    d.is("1", x.fit(3, 0, 5), 1);
    d.is("4", x.fit(3, 1, 5), 4);
    x.mode(5, 5, 0);
    x.give(0, 1, 5);
    x.give(2, 2, 5);
    d.is("5", x.fit(3, 1, 5), 5);
    x.mode(5, 5, 1);
    d.is("6", x.fit(3, 1, 5), 6);
    d.is("6 ahead of 7", x.fit(3, 2, 5), 6);
    x.take(2);
    d.is("7", x.fit(3, 2, 5), 7);
    x.take(0);
    d.is("8", x.fit(3, 1, 5), 8);
    x.strike(0, 0);
    x.draft(4, 0, 1, 0);
    x.ask(0, 4, 15, -1, 0, 0, 0);
    x.give(4, 2, 5);
    d.is("HOST 0 stands at 2", x.hosts(2, 5), 1);
    d.is("9", x.fit(3, 1, 5), 9);
    x.take(4);
    d.is("11", x.fit(3, 1, 5), 11);
    d.is("SHIFT by SHIFT: 11 in 199 is ahead of 3 in 200", late(), 11);
  }

  private static int late() {
    BeamHall x = Due.hall(1);
    Due.askOf(x, 2, 0, 2, 0, 9);
    return x.fit(0, 0, 199);
  }

  private static void promise20Others() {
    BeamHall x = Due.hall(2);
    for (int i = 0; i < 3; i++) {
      x.draft(i, 0, 2, 0);
      x.ask(0, 3, 15, i < 2 ? 5 : -1, 0, 0, 0);
    }
    x.give(0, 0, 4);
    d.is("6: the same", x.fit(2, 0, 4), 6);
    d.is("6: its second", x.fit(2, 0, 5), 6);
    d.is("6: the other's second", x.fit(2, 0, 3), 6);
    d.is("6: behind", x.fit(2, 0, 6), 0);
    d.is("6: ahead", x.fit(2, 0, 2), 0);
    d.is("7: at another BENCH", x.fit(1, 1, 3), 7);
    d.is("7: behind", x.fit(1, 1, 6), 0);
    d.is("7: without GEAR", x.fit(2, 1, 4), 0);
    d.is("its own PLACE is taken out", x.fit(0, 0, 5), 0);
    d.is("its own GEAR is taken out", x.fit(0, 1, 4), 0);
  }

  private static void promise20Tied() {
    BeamHall x = Due.hall(2);
    Due.ask(x, 0, 2);
    Due.askOf(x, 1, 1, 1, 0, 3);
    Due.askOf(x, 1, 2, 1, 0, 0);
    d.is("10: without a PLACE", x.fit(1, 1, 20), 10);
    x.give(0, 0, 4);
    d.is("10: two lie between", x.fit(1, 1, 8), 10);
    d.is("10: three lie between", x.fit(1, 1, 9), 0);
    d.is("10: ahead of it", x.fit(1, 1, 0), 10);
    d.is("10: in it, none is wanted", x.fit(2, 1, 5), 10);
    d.is("10: right behind it", x.fit(2, 1, 6), 0);
    x.withdraw(0);
    d.is("10: WITHDRAWN", x.fit(2, 1, 6), 10);
  }

  private static void promise20Living() {
    BeamHall x = Due.hall(1);
    Due.askOf(x, 2, 0, 2, 5, 7);
    d.is("11: ahead", x.fit(0, 0, 4), 11);
    d.is("11: the first", x.fit(0, 0, 5), 0);
    d.is("11: the last", x.fit(0, 0, 6), 0);
    d.is("11: beyond", x.fit(0, 0, 7), 11);
    x.mode(8, 8, 4);
    d.is("4 in 8 is ahead of 11 in 8", x.fit(0, 0, 7), 4);
  }

  private static void promise20Hosts() {
    BeamHall x = new BeamHall();
    x.bench(1, 6);
    x.bench(1, 4);
    x.bench(1, 0);
    for (int i = 0; i < 4; i++) Due.ask(x, i, 1);
    d.is("9: a BENCH without HOSTS", x.fit(0, 2, 0), 9);
    x.give(0, 0, 10);
    d.is("the least stands", x.hosts(0, 10), 2);
    d.is("HOST 2 is free", x.fit(1, 1, 10), 0);
    d.is("HOST 2 is free for 11", x.fit(1, 0, 11), 0);
    x.give(1, 0, 11);
    d.is("HOST 1 rests", x.hosts(0, 11), 4);
    d.is("9: HOST 2 rests in 12", x.fit(2, 1, 12), 9);
    d.is("9: HOST 2 rests in 10", x.fit(2, 1, 10), 9);
    d.is("HOST 2 in 13", x.fit(2, 1, 13), 0);
    d.is("HOST 2 in 9", x.fit(2, 1, 9), 0);
    d.is("9: both rest or stand at 0 in 10 .. 11", x.fit(2, 0, 12), 0);
    x.set(0, 2);
    d.is("9: REST 2: HOST 1 too", x.fit(2, 0, 12), 9);
    d.is("9: REST 2: in 13 HOST 1 is free", x.fit(2, 0, 13), 0);
    x.set(0, 3);
    d.is("9: REST 3", x.fit(2, 0, 13), 9);
    d.is("9: REST 3", x.fit(2, 0, 14), 0);
    x.set(0, 0);
    d.is("REST 0", x.fit(2, 1, 12), 0);
    d.is("REST 0: 9", x.fit(2, 1, 11), 9);
    d.is("its own HOSTS are taken out", x.fit(1, 1, 11), 0);
    x.set(0, 1);
    Due.ask(x, 5, 3);
    d.is("one PLACE, one HOST, however near", x.give(4, 1, 20), 1);
    d.is("20", x.hosts(1, 20), 4);
    d.is("21", x.hosts(1, 21), 4);
    d.is("22", x.hosts(1, 22), 4);
    x.take(0);
    x.take(1);
    d.is("in the last SHIFT", x.give(0, 1, 199), 1);
    d.is("9: 198 is too near", x.fit(1, 1, 198), 9);
    d.is("197 is not", x.fit(1, 1, 197), 0);
  }

  private static void promise20Watched() {
    BeamHall x = new BeamHall();
    x.bench(1, 3);
    x.bench(1, 3);
    x.bench(1, 1);
    for (int i = 0; i < 4; i++) Due.ask(x, i, 2);
    Due.text(x, "W:g=1&s=6", 0);
    d.is("two are wanted in 6", x.fit(1, 2, 5), 9);
    d.is("one in 4 and 5", x.fit(1, 2, 4), 0);
    d.is("two are free", x.fit(1, 0, 5), 0);
    x.give(0, 1, 3);
    d.is("one stands till 4: in 5 and 6 one", x.fit(1, 0, 6), 0);
    d.is("HOST 0 rests in 5, both are free in 6", x.give(1, 0, 5), 1);
    d.is("5", x.hosts(0, 5), 2);
    d.is("6", x.hosts(0, 6), 3);
    x.take(1);
    x.take(0);
    x.give(0, 1, 4);
    d.is("9: HOST 0 rests in 6", x.fit(1, 0, 6), 9);
  }

  private static void promise21Give() {
    BeamHall x = Due.hall(2);
    Due.ask(x, 0, 2);
    Due.ask(x, 1, 2);
    d.is("give(2, ..)", x.give(2, 0, 0), -1);
    d.is("give(0, 2, ..)", x.give(0, 2, 0), -1);
    d.is("give(0, 0, 200)", x.give(0, 0, 200), -1);
    d.is("give(0, 1, 7)", x.give(0, 1, 7), 1);
    d.is("BENCH", x.askOf(0, 5), 1);
    d.is("SHIFT", x.askOf(0, 6), 7);
    d.is("those with a PLACE", x.count(3), 1);
    d.is("SHIFTS given", x.count(6), 2);
    d.is("it has one", x.give(0, 0, 0), -3);
    d.is("it does not FIT", x.give(1, 1, 8), -3);
    d.is("no PLACE then", x.askOf(1, 5), -9);
    x.withdraw(1);
    d.is("WITHDRAWN", x.give(1, 0, 0), -3);
    d.refusals("give", x, 3, 0, 3, 0, 0, 0);
  }

  private static void promise22Take() {
    BeamHall x = Due.hall(1);
    Due.ask(x, 0, 2);
    Due.ask(x, 1, 1);
    d.is("take(2)", x.take(2), -1);
    d.is("take(-1)", x.take(-1), -1);
    d.is("it has none", x.take(0), -3);
    x.give(0, 0, 1);
    x.hours(8);
    d.is("it begins now", x.take(0), 1);
    d.is("PLACE", x.askOf(0, 5), -9);
    d.is("it is free", x.fit(1, 0, 2), 0);
    x.give(0, 0, 1);
    x.hours(1);
    d.is("it is begun", x.take(0), -3);
    d.is("SHIFTS given", x.count(6), 2);
    d.refusals("take", x, 2, 0, 2, 0, 0, 0);
  }

  private static void promise27Hosts() {
    BeamHall x = new BeamHall();
    x.bench(1, 0xC0);
    x.bench(1, 0xC0);
    Due.ask(x, 0, 1);
    Due.ask(x, 1, 1);
    d.is("nobody", x.hosts(0, 0), 0);
    x.give(0, 0, 0);
    x.give(1, 1, 0);
    d.is("HOST 6", x.hosts(0, 0), 64);
    d.is("HOST 7", x.hosts(1, 0), 128);
    x.take(0);
    d.is("gone", x.hosts(0, 0), 0);
    d.is("HOST 7 stays", x.hosts(1, 0), 128);
    Due.text(x, "W:1=1", 0);
    d.is("told later: they stay", x.hosts(1, 0), 128);
    d.is("hosts(2, 0)", x.hosts(2, 0), -1);
    d.is("hosts(-1, 0)", x.hosts(-1, 0), -1);
    d.is("hosts(0, 200)", x.hosts(0, 200), -1);
    d.is("hosts(0, -1)", x.hosts(0, -1), -1);
    d.refusals("hosts", x, 4, 0, 0, 0, 0, 0);
  }
}
