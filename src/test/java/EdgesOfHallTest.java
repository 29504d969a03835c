/** Parts I and II of the Terms, edge by edge: the sentence that names the edge stands above its test. */
public final class EdgesOfHallTest {
  private static final Due d = new Due();

  public static void main(String[] args) {
    hoursEnd();
    shiftsAreEightHours();
    shiftsBegin();
    placesBegin();
    modesOrWorks();
    tripsAreTwenty();
    tripsAreOneToSixtyHours();
    tripsAreFoundNow();
    lostHoursCountOnce();
    benchesAreSix();
    gearIsAtOneBench();
    restOfHosts();
    asksAreThirty();
    numbersOfAsks();
    tiedBetween();
    livingDays();
    livingAtTheEnds();
    otherKindsHaveNoDays();
    withdrawnIsFree();
    d.end("EdgesOfHallTest");
  }

  private static BeamHall at(int hour) {
    BeamHall x = Due.hall(1);
    x.hours(hour);
    return x;
  }

  // "HOURS 0 .. 1600; NOW is 0 at first."
  private static void hoursEnd() {
    BeamHall x = new BeamHall();
    d.is("NOW at first", x.count(0), 0);
    d.is("1601 HOURS", x.hours(1601), -6);
    d.is("1600 HOURS", x.hours(1600), 1600);
    d.is("no HOUR more is none too many", x.hours(0), 1600);
    d.is("one HOUR more", x.hours(1), -6);
    d.is("all HOURS once more", x.hours(Integer.MAX_VALUE), -6);
    BeamHall y = new BeamHall();
    y.hours(1599);
    d.is("two are too many for 1599", y.hours(2), -6);
    d.is("one is not", y.hours(1), 1600);
  }

  // "SHIFT s: HOURS 8 s .. 8 s and 7 (0 .. 199)"
  private static void shiftsAreEightHours() {
    BeamHall x = new BeamHall();
    x.hours(1600);
    x.trip(8, 8);
    d.is("8 .. 15 take none of 0", x.shiftOf(0, 1, 1600), 0);
    d.is("8 .. 15 are all of 1", x.shiftOf(1, 1, 1600), 8);
    d.is("8 .. 15 take none of 2", x.shiftOf(2, 1, 1600), 0);
    x.trip(31, 2);
    d.is("31 is the last of 3", x.shiftOf(3, 1, 1600), 1);
    d.is("32 is the first of 4", x.shiftOf(4, 1, 1600), 1);
    x.trip(0, 1);
    d.is("0 is the first of 0", x.shiftOf(0, 1, 1600), 1);
    x.trip(1591, 1);
    d.is("1591 is of 198", x.shiftOf(198, 1, 1600), 1);
    d.is("1591 is not of 199", x.shiftOf(199, 1, 1600), 0);
    x.trip(1600, 1);
    d.is("1600 is of no SHIFT", x.shiftOf(199, 1, 1600), 0);
    x.trip(1592, 60);
    d.is("1592 .. 1599 are of 199", x.shiftOf(199, 1, 1600), 8);
  }

  // "it is begun if NOW is above 8 s"
  private static void shiftsBegin() {
    int[][] due = {{0, 0, 0}, {1, 0, 3}, {8, 1, 0}, {9, 1, 3}, {1592, 199, 0}, {1593, 199, 3}, {1600, 199, 3}, {7, 1, 0}};
    for (int[] n : due) {
      BeamHall x = at(n[0]);
      Due.ask(x, 0, 1);
      d.is("on " + n[0] + " SHIFT " + n[1], x.fit(0, 0, n[1]), n[2]);
      d.is("on " + n[0] + " SHIFT " + n[1] + " is given", x.give(0, 0, n[1]), n[2] == 0 ? 1 : -3);
    }
  }

  // "a PLACE is begun if its first SHIFT is"
  private static void placesBegin() {
    BeamHall x = Due.hall(1);
    Due.ask(x, 0, 4);
    x.give(0, 0, 2);
    x.hours(16);
    x.mode(5, 5, 4);
    d.is("on 16 it is not: DANGER takes it back", x.danger(0, 1), 1);
    x.mode(5, 5, 0);
    d.is("on 16 it is not: it may be given", x.give(0, 0, 2), 1);
    d.is("and be taken back", x.take(0), 1);
    x.give(0, 0, 2);
    x.hours(1);
    x.mode(5, 5, 4);
    d.is("on 17 it is, though 3 is not: no take", x.take(0), -3);
    d.is("nor by DANGER", x.danger(0, 1), 0);
    d.is("nor by AGAIN", x.again(), 0);
    d.is("it stays", x.askOf(0, 6), 2);
    d.is("what it would get: begun", x.fit(0, 0, 2), 3);
    BeamHall y = Due.hall(2);
    Due.ask(y, 0, 1);
    Due.ask(y, 1, 1);
    y.give(0, 0, 1);
    y.give(1, 1, 1);
    y.wish(0, 1, true);
    y.wish(1, 0, true);
    y.hours(8);
    d.is("on 8 they may change", y.ring(-1), 2);
    y.hours(1);
    d.is("on 9 they are begun", y.ring(-1), 0);
  }

  // "a MODE 0 .. 3 in each SHIFT (0 at first), or WORKS"
  private static void modesOrWorks() {
    BeamHall x = Due.hall(1);
    d.is("0 at first", x.shiftOf(0, 0, 0) + x.shiftOf(199, 0, 0), 0);
    for (int mode = 0; mode < 4; mode++) {
      x.draft(0, 0, 1, 0);
      x.ask(0, 63, 1 << mode, -1, 0, 0, 0);
    }
    x.draft(0, 0, 1, 0);
    x.ask(0, 63, 0, -1, 0, 0, 0);
    for (int mode = 0; mode <= 4; mode++) {
      d.is("mode(199, 199, " + mode + ")", x.mode(199, 199, mode), mode == 0 ? 0 : 1);
      d.is("MODE of 199", x.shiftOf(199, 0, 0), mode);
      for (int ask = 0; ask < 4; ask++) {
        d.is("MODE " + ask + " in " + mode, x.fit(ask, 0, 199), mode == 4 ? 4 : ask == mode ? 0 : 5);
      }
      d.is("no MODE at all in " + mode, x.fit(4, 0, 199), mode == 4 ? 4 : 5);
    }
    d.is("all to WORKS, one was so", x.mode(0, 199, 4), 199);
    d.is("all to WORKS again", x.mode(0, 199, 4), 0);
    d.is("one SHIFT of them", x.mode(0, 0, 3), 1);
    x.hours(1600);
    d.is("SHIFTS that are over", x.mode(0, 1, 2), 2);
  }

  // "TRIPS (20 at most)"
  private static void tripsAreTwenty() {
    BeamHall x = new BeamHall();
    for (int i = 1; i <= 20; i++) d.is("TRIP " + i, x.trip(0, 1), i);
    d.is("TRIP 21", x.trip(0, 1), -6);
    d.is("all of one HOUR", x.shiftOf(0, 1, 0), 1);
    d.is("TRIPS", x.count(5), 20);
  }

  // "from an HOUR for so many HOURS (1 .. 60)"
  private static void tripsAreOneToSixtyHours() {
    BeamHall x = new BeamHall();
    d.is("0 HOURS", x.trip(0, 0), -4);
    d.is("61 HOURS", x.trip(0, 61), -6);
    d.is("1 HOUR", x.trip(0, 1), 1);
    d.is("1 HOUR takes 1", x.shiftOf(0, 1, 0), 1);
    d.is("60 HOURS", x.trip(0, 60), 2);
    d.is("60 HOURS take all of 6", x.shiftOf(6, 1, 0), 8);
    d.is("and 4 of 7", x.shiftOf(7, 1, 0), 4);
    d.is("and none of 8", x.shiftOf(8, 1, 0), 0);
  }

  // "found NOW (an HOUR not behind NOW)"
  private static void tripsAreFoundNow() {
    BeamHall x = new BeamHall();
    d.is("0 on 0", x.trip(0, 1), 1);
    d.is("1 on 0", x.trip(1, 1), -6);
    x.hours(40);
    d.is("41 on 40", x.trip(41, 1), -6);
    d.is("40 on 40", x.trip(40, 1), 2);
    d.is("not known on 39", x.shiftOf(5, 1, 39), 0);
    d.is("known on 40", x.shiftOf(5, 1, 40), 1);
    d.is("39 on 40", x.trip(39, 1), 3);
    d.is("not known on 39, when it was", x.shiftOf(4, 1, 39), 0);
    d.is("known on 40", x.shiftOf(4, 1, 40), 1);
    d.is("the one of 0 is known on 0", x.shiftOf(0, 1, 0), 1);
    x.hours(1560);
    d.is("1600 on 1600", x.trip(1600, 60), 4);
  }

  // "LOST HOURS of a SHIFT as known on k: how many of its 8 lie in TRIPS found by k (each once)"
  private static void lostHoursCountOnce() {
    BeamHall x = new BeamHall();
    x.hours(10);
    x.trip(0, 5);
    x.trip(3, 5);
    d.is("0 .. 4 and 3 .. 7: 8 of 8", x.shiftOf(0, 1, 10), 8);
    x.hours(1);
    x.trip(0, 11);
    d.is("8 still", x.shiftOf(0, 1, 11), 8);
    d.is("8 .. 10, found on 11", x.shiftOf(1, 1, 11), 3);
    d.is("on 10 none of them", x.shiftOf(1, 1, 10), 0);
    d.is("on 9 none at all", x.shiftOf(0, 1, 9), 0);
  }

  // "BENCHES have numbers from 0 on (6 at most): CAN (a set of what it can do, 0 .. 7), HOSTS (a set of HOSTS 0 .. 7)."
  private static void benchesAreSix() {
    BeamHall x = new BeamHall();
    for (int i = 0; i < 6; i++) d.is("BENCH " + i, x.bench(i == 5 ? 128 : 1, i == 5 ? 128 : 1 << i), i);
    d.is("BENCH 6", x.bench(1, 1), -6);
    x.draft(0, 0, 1, 7);
    d.is("one that WANTS 7 of 5 alone", x.ask(0, 32, 15, -1, 0, 0, 0), 0);
    x.draft(0, 0, 1, 0);
    d.is("one that WANTS 0", x.ask(0, 63, 15, -1, 0, 0, 0), 1);
    d.is("7 at 5", x.fit(0, 5, 0), 0);
    d.is("7 at 4: BENCHES", x.fit(0, 4, 0), 1);
    d.is("0 at 5: can't", x.fit(1, 5, 0), 2);
    d.is("0 at 0", x.fit(1, 0, 0), 0);
    x.give(0, 5, 0);
    d.is("HOST 7", x.hosts(5, 0), 128);
    BeamHall y = new BeamHall();
    d.is("one that can nothing", y.bench(0, 255), 0);
    d.is("one where nobody stands", y.bench(255, 0), 1);
    Due.ask(y, 0, 1);
    d.is("can nothing", y.fit(0, 0, 0), 2);
    d.is("nobody", y.fit(0, 1, 0), 9);
    d.is("no BENCHES at all", noBenches(), 1);
  }

  private static int noBenches() {
    BeamHall x = Due.hall(1);
    x.draft(0, 0, 1, 0);
    return x.fit(x.ask(0, 0, 15, -1, 0, 0, 0), 0, 0);
  }

  // "GEAR 0 .. 5: at one BENCH at most in one SHIFT."
  private static void gearIsAtOneBench() {
    for (int gear = -1; gear <= 5; gear++) {
      BeamHall x = Due.hall(2);
      for (int i = 0; i < 2; i++) {
        x.draft(i, 0, 2, 0);
        x.ask(0, 63, 15, gear, 0, 0, 0);
      }
      x.give(0, 0, 4);
      d.is("GEAR " + gear + ": its first SHIFT", x.fit(1, 1, 3), gear < 0 ? 0 : 7);
      d.is("GEAR " + gear + ": its last SHIFT", x.fit(1, 1, 5), gear < 0 ? 0 : 7);
      d.is("GEAR " + gear + ": right behind", x.fit(1, 1, 6), 0);
      d.is("GEAR " + gear + ": right ahead", x.fit(1, 1, 2), 0);
      d.is("GEAR " + gear + ": at the same BENCH right behind", x.fit(1, 0, 6), 0);
    }
    BeamHall y = Due.hall(2);
    for (int i = 0; i < 2; i++) {
      y.draft(i, 0, 1, 0);
      y.ask(0, 63, 15, 4 + i, 0, 0, 0);
    }
    y.give(0, 0, 4);
    d.is("another GEAR", y.fit(1, 1, 4), 0);
  }

  // "REST (0 .. 3; 1 at first) of HOSTS"; "in that SHIFT or in REST ones ahead of it or behind it"
  private static void restOfHosts() {
    for (int rest = -1; rest <= 3; rest++) {
      BeamHall x = new BeamHall();
      x.bench(1, 1);
      x.bench(1, 1);
      Due.ask(x, 0, 2);
      Due.ask(x, 1, 1);
      if (rest >= 0) d.is("REST was", x.set(0, rest), 1);
      int much = rest < 0 ? 1 : rest;
      x.give(0, 0, 10);
      d.is("REST " + much + ": ahead, too near", x.fit(1, 1, 10 - much), 9);
      d.is("REST " + much + ": ahead", x.fit(1, 1, 10 - much - 1), 0);
      d.is("REST " + much + ": behind, too near", x.fit(1, 1, 11 + much), 9);
      d.is("REST " + much + ": behind", x.fit(1, 1, 11 + much + 1), 0);
    }
    BeamHall y = new BeamHall();
    y.bench(1, 1);
    y.bench(1, 1);
    y.set(0, 3);
    for (int i = 0; i < 3; i++) Due.ask(y, i, 1);
    d.is("in the first SHIFT", y.give(0, 0, 0), 1);
    d.is("in the last SHIFT", y.give(1, 1, 199), 1);
    d.is("3 is too near to 0", y.fit(2, 1, 3), 9);
    d.is("4 is not", y.fit(2, 1, 4), 0);
    d.is("196 is too near to 199", y.fit(2, 0, 196), 9);
    d.is("195 is not", y.fit(2, 0, 195), 0);
  }

  // "ASKS have numbers from 0 on (30 at most)"; "-6 30 ASKS" of ask and of owe
  private static void asksAreThirty() {
    BeamHall x = Due.hall(1);
    for (int i = 0; i < 28; i++) d.is("ASK " + i, Due.ask(x, i % 10, 1), i);
    x.give(0, 0, 0);
    x.give(1, 0, 1);
    x.hours(16);
    x.trip(0, 16);
    x.withdraw(2);
    d.is("one OWED is the 29th", x.owe(0), 28);
    d.is("a WITHDRAWN one counts: the 30th", Due.ask(x, 0, 1), 29);
    d.is("the 31st, OWED", x.owe(1), -6);
    d.is("the 31st", Due.ask(x, 0, 1), -6);
    d.is("a draft may be begun still", x.draft(0, 0, 1, 0), 1);
    d.is("ASKS", x.count(2), 30);
    d.is("the last one", x.askOf(29, 7), 0);
    d.is("29 has a mark", x.mark(5, 29, 100), 1);
    d.is("its MARK", x.markOf(29), 100);
    d.is("29 gets a PLACE", x.give(29, 0, 199), 1);
    d.is("28 wishes for it", x.wish(28, 29, true), 1);
    d.is("and it for 28", x.wish(29, 28, true), 1);
    x.give(28, 0, 100);
    d.is("GROUP 0 both: no RING", x.ring(-1), 0);
  }

  // "a GROUP 0 .. 9, a LAND 0 .. 4, LONG (1 .. 4 ..), what it WANTS (0 .. 7), .. DANGER (0 .. 9)"
  private static void numbersOfAsks() {
    BeamHall x = Due.hall(1);
    d.is("the least of all", x.draft(0, 0, 1, 0) * 10 + x.ask(0, 0, 0, -1, 0, 0, 0), 10);
    d.is("the greatest of all", x.draft(9, 4, 4, 7) * 10 + x.ask(4, 63, 15, 5, 9, 0, 0), 11);
    int[] least = {0, 0, 0, 1, 0}, greatest = {4, 9, 4, 4, 9};
    for (int what = 0; what < 5; what++) {
      d.is("of the least: " + what, x.askOf(0, what), least[what]);
      d.is("of the greatest: " + what, x.askOf(1, what), greatest[what]);
    }
    d.is("DANGER to 9", x.danger(0, 9), 0);
    d.is("DANGER", x.askOf(0, 4), 9);
    d.is("DANGER to 0", x.danger(1, 0), 0);
    d.is("DANGER", x.askOf(1, 4), 0);
    d.is("LONG 4 up to 199", x.fit(1, 0, 196), 0);
    d.is("LONG 4 beyond", x.fit(1, 0, 197), 3);
    d.is("GROUP 9 is KIN of 5", x.kin(5, 9), 1);
  }

  // "1 TIED: between the last SHIFT of another ASK .. and its first one so many SHIFTS (0 .. 30) or more lie"
  private static void tiedBetween() {
    for (int many = 0; many <= 30; many += 10) {
      BeamHall x = Due.hall(2);
      Due.ask(x, 0, 4);
      Due.askOf(x, 1, 1, 2, 0, many);
      d.is("without a PLACE", x.fit(1, 1, 199 - 1), 10);
      x.give(0, 0, 3);
      d.is(many + ": one too few", x.fit(1, 1, 6 + many), 10);
      d.is(many + ": just so many", x.fit(1, 1, 7 + many), 0);
      d.is(many + ": more", x.fit(1, 1, 150), 0);
      d.is(many + ": in the same SHIFT", x.fit(1, 1, 3), 10);
      d.is(many + ": far ahead", x.fit(1, 1, 0), 10);
    }
    BeamHall y = Due.hall(1);
    Due.ask(y, 0, 1);
    Due.ask(y, 1, 1);
    Due.askOf(y, 1, 2, 1, 1, 0);
    d.is("TIED to the one right ahead of it", y.fit(2, 0, 9), 10);
    y.give(0, 0, 0);
    d.is("another one's PLACE is none of its", y.fit(2, 0, 9), 10);
    y.give(1, 0, 8);
    d.is("it is there", y.fit(2, 0, 9), 0);
    y.take(1);
    d.is("taken back", y.fit(2, 0, 9), 10);
    y.give(1, 0, 199);
    d.is("nothing is behind 199", y.fit(2, 0, 198), 10);
  }

  // "2 LIVING: all its SHIFTS within those from a to b"
  private static void livingDays() {
    BeamHall x = Due.hall(1);
    Due.askOf(x, 2, 0, 4, 10, 13);
    Due.askOf(x, 2, 1, 4, 10, 12);
    Due.askOf(x, 2, 2, 1, 20, 20);
    d.is("four of four", x.fit(0, 0, 10), 0);
    d.is("one ahead", x.fit(0, 0, 9), 11);
    d.is("one behind", x.fit(0, 0, 11), 11);
    for (int s = 5; s < 16; s++) d.is("four of three, from " + s, x.fit(1, 0, s), 11);
    d.is("one of one", x.fit(2, 0, 20), 0);
    d.is("19", x.fit(2, 0, 19), 11);
    d.is("21", x.fit(2, 0, 21), 11);
  }

  // "(SHIFTS, y not below x: -4)"
  private static void livingAtTheEnds() {
    BeamHall x = Due.hall(1);
    d.is("0 .. 0", Due.askOf(x, 2, 0, 1, 0, 0), 0);
    d.is("199 .. 199", Due.askOf(x, 2, 0, 1, 199, 199), 1);
    d.is("0 .. 199", Due.askOf(x, 2, 0, 4, 0, 199), 2);
    d.is("0", x.fit(0, 0, 0), 0);
    d.is("1", x.fit(0, 0, 1), 11);
    d.is("198", x.fit(1, 0, 198), 11);
    d.is("199", x.fit(1, 0, 199), 0);
    d.is("196 .. 199", x.fit(2, 0, 196), 0);
    d.is("1 .. 0", Due.askOf(x, 2, 0, 1, 1, 0), -4);
  }

  // "(Other KINDS: x, y count nothing.)"
  private static void otherKindsHaveNoDays() {
    int[] odd = {Integer.MIN_VALUE, -1, 0, 5, 31, 200, Integer.MAX_VALUE};
    for (int kind : new int[] {0, 3, 4}) {
      for (int i = 0; i < odd.length; i++) {
        BeamHall x = Due.hall(1);
        d.is("KIND " + kind + " with " + odd[i], Due.askOf(x, kind, 0, 1, odd[i], odd[odd.length - 1 - i]), 0);
        d.is("it has no days", x.fit(0, 0, 0) + x.fit(0, 0, 199), 0);
      }
    }
    BeamHall y = Due.hall(1);
    Due.ask(y, 0, 1);
    d.is("TIED: x is an ASK and no SHIFT", Due.askOf(y, 1, 1, 1, 0, 0), 1);
    y.give(0, 0, 0);
    d.is("TIED: it has no days", y.fit(1, 0, 1) + y.fit(1, 0, 199), 0);
  }

  // "WITHDRAWN (told): from NOW on it has no place; what it had is free."
  private static void withdrawnIsFree() {
    BeamHall x = new BeamHall();
    x.bench(1, 1);
    x.bench(1, 1);
    for (int i = 0; i < 2; i++) {
      x.draft(i, 0, 2, 0);
      x.ask(0, 63, 15, 3, 0, 0, 0);
    }
    Due.askOf(x, 1, 2, 1, 0, 0);
    x.give(0, 0, 5);
    x.hours(2);
    d.is("its BENCH", x.fit(1, 0, 6), 6);
    d.is("its GEAR", x.fit(1, 1, 6), 7);
    d.is("its HOST", x.fit(2, 1, 7), 9);
    d.is("withdraw", x.withdraw(0), 1);
    d.is("its BENCH is free", x.fit(1, 0, 6), 0);
    d.is("its GEAR and HOST are free", x.fit(1, 1, 6), 0);
    d.is("one TIED to it", x.fit(2, 1, 7), 10);
    d.is("no PLACE: BENCH", x.askOf(0, 5), -9);
    d.is("no PLACE: SHIFT", x.askOf(0, 6), -9);
    d.is("those with a PLACE", x.count(3), 0);
    d.is("SHIFTS given", x.count(6), 0);
    d.is("HAD till then", x.had(0, 6, 1), 0);
    d.is("HAD from then on", x.had(0, 6, 2), -9);
    d.is("one without a PLACE is WITHDRAWN as well", x.withdraw(1), 1);
    d.is("LEAD of what it never had", x.lead(1, 6), -9);
    d.is("one that is WITHDRAWN may be TIED to", Due.askOf(x, 1, 3, 1, 1, 0), 3);
    d.is("it has a DANGER still", x.danger(1, 7), 0);
    d.is("and marks", x.mark(0, 1, 7), 1);
    d.is("what it would FIT", x.fit(1, 0, 6), 0);
  }
}
