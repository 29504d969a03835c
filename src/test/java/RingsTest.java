/** Promises 31 to 33: WISHES, the RING, and what is SWAPPED. */
public final class RingsTest {
  private static final Due d = new Due();

  public static void main(String[] args) {
    promise31Wish();
    promise32Ring();
    promise32Fits();
    promise32GivenOneByOne();
    promise33Swap();
    promise33SwapGreatest();
    d.end("RingsTest");
  }

  private static void promise31Wish() {
    BeamHall x = new BeamHall();
    Due.ask(x, 0, 1);
    Due.ask(x, 1, 1);
    d.is("no more, it was so", x.wish(0, 1, false), 0);
    d.is("wish(0, 1, true)", x.wish(0, 1, true), 1);
    d.is("it was so", x.wish(0, 1, true), 0);
    d.is("the other way round", x.wish(1, 0, true), 1);
    d.is("no more", x.wish(0, 1, false), 1);
    d.is("no more, it was so", x.wish(0, 1, false), 0);
    d.is("itself", x.wish(0, 0, true), -1);
    d.is("wish(2, 0)", x.wish(2, 0, true), -1);
    d.is("wish(0, 2)", x.wish(0, 2, true), -1);
    d.is("wish(-1, 0)", x.wish(-1, 0, false), -1);
    d.is("wish(0, -1)", x.wish(0, -1, true), -1);
    d.refusals("wish", x, 5, 0, 0, 0, 0, 0);
  }

  private static BeamHall given(int... groups) {
    BeamHall x = Due.hall(1);
    for (int i = 0; i < groups.length; i++) {
      Due.ask(x, groups[i], 1);
      x.give(i, 0, i + 1);
    }
    return x;
  }

  private static void wishes(BeamHall x, int... row) {
    for (int i = 0; i < row.length; i++) x.wish(row[i], row[(i + 1) % row.length], true);
  }

  private static void ring(String what, BeamHall x, int... want) {
    d.is(what + ": how many", x.ring(-1), want.length);
    for (int i = 0; i < want.length; i++) d.is(what + ": ring(" + i + ")", x.ring(i), want[i]);
    d.is(what + ": no more", x.ring(want.length), -9);
  }

  private static void promise32Ring() {
    BeamHall x = given(0, 1, 2, 3, 4, 5, 6);
    ring("no WISHES", x);
    wishes(x, 6, 1, 5, 2, 4);
    ring("five, from the least on", x, 1, 5, 2, 4, 6);
    wishes(x, 5, 3, 0);
    ring("three are shorter", x, 0, 5, 3);
    x.wish(5, 6, true);
    x.wish(6, 0, true);
    ring("of several the first", x, 0, 5, 3);
    x.wish(3, 0, false);
    ring("the other one", x, 0, 5, 6);
    wishes(x, 3, 6);
    ring("two are shorter still", x, 3, 6);
    d.is("ring(max)", x.ring(Integer.MAX_VALUE), -9);
    d.is("ring(-2)", x.ring(-2), -2);
    d.is("ring(min)", x.ring(Integer.MIN_VALUE), -2);
    d.refusals("ring", x, 0, 2, 0, 0, 0, 0);
    BeamHall y = given(0, 1, 2, 3, 4, 5);
    wishes(y, 0, 1, 2, 3, 4, 5);
    ring("six are too many", y);
    BeamHall z = given(0, 1, 2, 0);
    wishes(z, 0, 1, 2, 3);
    ring("one GROUP twice", z);
    wishes(z, 3, 1, 2);
    ring("without the other one", z, 1, 2, 3);
  }

  private static void promise32Fits() {
    BeamHall x = given(0, 1, 2);
    Due.ask(x, 3, 2);
    x.give(3, 0, 5);
    wishes(x, 0, 3);
    ring("not of like LONG", x);
    wishes(x, 0, 1);
    ring("two", x, 0, 1);
    x.take(1);
    ring("one has no PLACE", x);
    x.give(1, 0, 9);
    ring("two", x, 0, 1);
    x.mode(9, 9, 4);
    ring("it does not FIT there", x);
    x.mode(9, 9, 0);
    Due.text(x, "B:g=1&s=1", 0);
    ring("it is BARRED there", x);
    x.strike(0, 0);
    x.hours(9);
    ring("one is begun", x);
    d.is("nothing changed", x.askOf(0, 6) * 10 + x.askOf(1, 6), 19);
    BeamHall y = Due.hall(2);
    for (int i = 0; i < 3; i++) {
      y.draft(i, 0, 1, 0);
      y.ask(0, 3, 15, i < 2 ? 0 : -1, 0, 0, 0);
    }
    y.give(0, 0, 1);
    y.give(1, 1, 2);
    y.give(2, 1, 1);
    wishes(y, 0, 2);
    ring("GEAR moves along", y, 0, 2);
    wishes(y, 1, 2);
    ring("1 would have its GEAR where 0 has it", y, 0, 2);
    y.wish(0, 2, false);
    ring("so that is none", y);
  }

  private static void promise32GivenOneByOne() {
    BeamHall x = Due.hall(1);
    Due.ask(x, 0, 1);
    Due.askOf(x, 1, 1, 1, 0, 0);
    Due.ask(x, 2, 1);
    x.give(0, 0, 1);
    x.give(1, 0, 4);
    x.give(2, 0, 2);
    wishes(x, 0, 2);
    ring("0 moves to 2, ahead of 4", x, 0, 2);
    wishes(x, 1, 2);
    ring("of 0 and 2 the first", x, 0, 2);
    x.wish(0, 2, false);
    ring("1 is TIED to 0 in 1: 2 is behind it", x, 1, 2);
    x.take(0);
    x.give(0, 0, 3);
    ring("1 is TIED to 0 in 3: 2 is ahead of it", x);
    BeamHall y = Due.hall(1);
    Due.ask(y, 0, 1);
    Due.ask(y, 1, 1);
    Due.askOf(y, 1, 2, 1, 1, 0);
    y.give(0, 0, 5);
    y.give(1, 0, 1);
    y.give(2, 0, 3);
    wishes(y, 1, 2);
    ring("1 to 3, then 2 to 1: ahead of what it is TIED to", y);
    wishes(y, 0, 1, 2);
    ring("0 to 1, 1 to 3, then 2 to 5", y, 0, 1, 2);
    d.is("a RING that is asked for moves nobody", y.askOf(0, 6) * 100 + y.askOf(1, 6) * 10 + y.askOf(2, 6), 513);
    d.is("no LEAD of it", y.lead(0, 5), 0);
  }

  private static void promise33Swap() {
    BeamHall x = new BeamHall();
    x.bench(1, 3);
    x.bench(1, 6);
    for (int i = 0; i < 4; i++) Due.ask(x, i, 2);
    x.set(0, 0);
    d.is("there is none", x.swap(), -3);
    x.give(0, 0, 2);
    x.give(1, 1, 2);
    x.give(2, 0, 8);
    x.give(3, 1, 8);
    d.is("HOSTS", x.hosts(0, 2) * 10 + x.hosts(1, 2), 12);
    x.hours(6);
    wishes(x, 0, 1, 2);
    x.wish(0, 3, true);
    x.wish(3, 0, true);
    x.wish(3, 1, true);
    x.wish(3, 0, false);
    ring("three", x, 0, 1, 2);
    d.is("HOSTS stay as a RING is asked for", x.hosts(0, 2) * 10 + x.hosts(1, 2), 12);
    d.is("HOSTS of the second SHIFT", x.hosts(0, 3) * 10 + x.hosts(1, 3), 12);
    d.is("HOSTS of the third one", x.hosts(0, 8) * 10 + x.hosts(0, 9), 11);
    d.is("swap()", x.swap(), 3);
    d.is("0", x.askOf(0, 6) * 10 + x.askOf(0, 5), 21);
    d.is("1", x.askOf(1, 6) * 10 + x.askOf(1, 5), 80);
    d.is("2", x.askOf(2, 6) * 10 + x.askOf(2, 5), 20);
    d.is("3", x.askOf(3, 6) * 10 + x.askOf(3, 5), 81);
    d.is("0 was given first: HOST 1; 2 has HOST 0", x.hosts(1, 3) * 10 + x.hosts(0, 3), 21);
    d.is("HAD on 5", x.had(0, 9, 5), 2);
    d.is("HAD on 6", x.had(0, 9, 6), 1);
    d.is("LEAD", x.lead(0, 9), 6);
    d.is("LEAD of what was not swapped", x.lead(1, 9), 0);
    d.is("WISHES of these are gone, of 0 for 3 too", x.wish(0, 3, false), 0);
    d.is("WISHES of others stay", x.wish(3, 1, true), 0);
    d.is("there is none then", x.swap(), -3);
    x.wish(1, 3, true);
    d.is("two", x.swap(), 2);
    d.is("1", x.askOf(1, 6) * 10 + x.askOf(1, 5), 81);
    d.is("HAD on 6 is the last of that HOUR", x.had(1, 8, 6), 1);
    d.refusals("swap", x, 0, 0, 2, 0, 0, 0);
    BeamHall y = new BeamHall();
    y.bench(1, 3);
    y.bench(1, 1);
    Due.ask(y, 0, 2);
    Due.ask(y, 1, 2);
    y.give(0, 0, 2);
    y.give(1, 1, 5);
    wishes(y, 0, 1);
    d.is("WISHES", y.ring(-1), 2);
    Due.text(y, "W:g=0&s=6", 0);
    d.is("WATCHED in its second SHIFT there: one HOST is too few", y.ring(-1), 0);
  }

  /** The greatest RING: five, of LONG 4, the last of them up to SHIFT 199. */
  private static void promise33SwapGreatest() {
    BeamHall x = new BeamHall();
    x.bench(1, 3);
    x.set(0, 0);
    Due.text(x, "W:g=4", 0);
    for (int i = 0; i < 5; i++) {
      Due.ask(x, i, 4);
      x.give(i, 0, 180 + 4 * i);
    }
    wishes(x, 0, 1, 2, 3, 4);
    ring("five of LONG 4", x, 0, 1, 2, 3, 4);
    for (int s = 180; s < 200; s++) d.is("HOSTS stay in " + s, x.hosts(0, s), s < 196 ? 1 : 3);
    d.is("swap()", x.swap(), 5);
    for (int i = 0; i < 5; i++) d.is("where " + i + " is", x.askOf(i, 6), 180 + 4 * ((i + 1) % 5));
    for (int s = 180; s < 200; s++) {
      d.is("HOSTS in " + s, x.hosts(0, s), s < 184 ? 3 : 1);
      d.is("HAD in " + s, x.had(0, s, 0), ((s - 180) / 4 + 4) % 5);
    }
    d.is("20 SHIFTS as before", x.count(6), 20);
  }
}
