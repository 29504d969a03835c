/** Part II of the Terms, what it says of TEXTS, and the promises of the TAPE, edge by edge. */
public final class EdgesOfTextsTest {
  private static final Due d = new Due();
  // 2 to the 31st, which goes round to the least int.
  private static final String LEAST = "256*256*256*128";

  public static void main(String[] args) {
    tapeIsFifty();
    tapeBytes();
    textsAreTwenty();
    textsOfFifty();
    faultsAtBothEnds();
    numbersOfDigits();
    numbersEnd();
    deepIsFour();
    deepTogether();
    fromTheLeft();
    goesRound();
    factsAtTheirEnds();
    lostHoursOnlyInO();
    inForce();
    barredAndWatched();
    watchedWantsTwo();
    owedByEights();
    owedWithin();
    owedByTheLatest();
    quarrels();
    d.end("EdgesOfTextsTest");
  }

  private static String many(String part, int n) {
    StringBuilder t = new StringBuilder();
    for (int i = 0; i < n; i++) t.append(part);
    return t.toString();
  }

  private static void fault(String text, int place) {
    BeamHall x = new BeamHall();
    Due.feed(x, text);
    d.is("bytes of " + text, x.count(7), text.length());
    d.is("FAULT of " + text, x.text(0), place < 0 ? 0 : -20 - place);
    d.is("the TAPE has none after " + text, x.count(7), 0);
    d.is("TEXTS after " + text, x.count(4), place < 0 ? 1 : 0);
  }

  private static void holds(String rule, boolean due) {
    BeamHall x = Due.hall(1);
    Due.ask(x, 0, 1);
    d.is("it stands: " + rule, Due.text(x, "B:" + rule, 0), 0);
    d.is(rule, x.barred(0, 0, 0, 0), due ? 1 : 0);
  }

  // "n (1 .. 8) bytes come to the TAPE, the lowest first"; "-6 (above 50, too)"
  private static void tapeIsFifty() {
    BeamHall x = new BeamHall();
    d.is("0 bytes", x.feed(0, 0), -4);
    d.is("9 bytes", x.feed(9, 0), -6);
    for (int n = 1; n <= 8; n++) d.is(n + " bytes", x.feed(n, 0), n * (n + 1) / 2);
    d.is("8 to 44", x.feed(8, 0), 44);
    d.is("8 to 52", x.feed(8, 0), -6);
    d.is("7 to 51", x.feed(7, 0), -6);
    d.is("6 to 50", x.feed(6, 0), 50);
    d.is("1 to 51", x.feed(1, 0), -6);
    d.is("bytes", x.count(7), 50);
    d.is("an empty one again", x.text(0) + x.count(7), -20);
    d.is("8 to it", x.feed(8, 0), 8);
  }

  // "bytes": eight bits each, whatever the sign of the long
  private static void tapeBytes() {
    BeamHall x = new BeamHall();
    x.feed(1, 'B' | ~255L);
    d.is("what is above n bytes is left", x.feed(4, ':' | 'k' << 8 | '=' << 16 | '1' << 24), 5);
    d.is("it stands", x.text(0), 0);
    x.feed(8, Long.MIN_VALUE | 'B' | ':' << 8 | 'k' << 16 | '=' << 24 | (long) '1' << 32 | (long) '+' << 40 | (long) '1' << 48);
    d.is("the eighth byte is 128", x.text(0), -27);
    x.feed(8, -1L);
    d.is("255 first", x.text(0), -20);
    x.feed(3, 'B' | (':' + 256) << 8 | 'k' << 16);
    d.is("a carry is the next byte's: 'l' is a FACT, too", x.text(0), -23);
  }

  // "TEXTS have numbers from 0 on (20 at most)"
  private static void textsAreTwenty() {
    BeamHall x = Due.hall(1);
    Due.ask(x, 0, 1);
    for (int i = 0; i < 20; i++) d.is("TEXT " + i, Due.text(x, i == 19 ? "B:s=9" : "O:0", i), i);
    d.is("the last one bars from 19 on", x.barred(0, 0, 9, 2), -9);
    Due.feed(x, "B:s=9");
    d.is("TEXT 20", x.text(0), -6);
    d.is("it stays on the TAPE", x.count(7), 5);
    d.is("a struck one makes no room", x.strike(19, 0) * 10 + x.text(0), 4);
    d.is("TEXTS", x.count(4), 20);
  }

  // "TEXTS (50 bytes at most)"
  private static void textsOfFifty() {
    fault("B:" + many("1+", 23) + "1<", 50);
    fault("B:" + many("1+", 22) + "1<24", -1);
    fault("W:" + many("1=1&", 11) + "99=9", -1);
    fault("O:" + many("k+", 23) + "99", -1);
    fault("O:" + many("k+", 24), 50);
    fault("O:" + many("k+", 23) + "kk", 49);
    fault("O:" + many("k+", 23) + "1)", 49);
    BeamHall x = Due.hall(1);
    Due.ask(x, 0, 1);
    Due.text(x, "B:" + many("1+", 22) + "1<24", 0);
    d.is("all 50 bytes are read: 23 is below 24", x.barred(0, 0, 0, 0), 1);
    BeamHall y = Due.hall(1);
    Due.ask(y, 0, 1);
    Due.text(y, "B:" + many("1+", 22) + "1<23", 0);
    d.is("23 is not below 23", y.barred(0, 0, 0, 0), 0);
    Due.text(y, "B:k=k/" + many("k=k/", 10) + "k=k", 0);
    d.is("a row of eleven unless", y.barred(0, 0, 0, 0), 0);
    Due.text(y, "B:k=1|" + many("k=1|", 10) + "k=0", 0);
    d.is("a row of eleven or", y.barred(0, 0, 0, 2), 2);
  }

  // "FAULT: the place of the first byte that can not stand (the end, if something lacks ..)"
  private static void faultsAtBothEnds() {
    fault("", 0);
    fault("O", 1);
    fault("W:", 2);
    fault("BB:k=1", 1);
    fault(":k=1", 0);
    fault("BO:k=1", 1);
    fault("o:1", 0);
    fault("B:k<", 4);
    fault("B:k<1", -1);
    fault("B:k<1|", 6);
    fault("B:k<1/", 6);
    fault("B:k<1&", 6);
    fault("B:|k<1", 2);
    fault("B:k<1||k<1", 6);
    fault("B:k<1/|k<1", 6);
    fault("B:k>1)", 5);
    fault("B:(k>1)(k>1)", 7);
    fault("B:(k>1)!k>1", 7);
    fault("B:k>1!k>1", 5);
    fault("B:(k>1", 6);
    fault("B:(k>1|", 7);
    fault("B:(", 3);
    fault("B:()", 3);
    fault("B:!", 3);
    fault("B:!)", 3);
    fault("B:!|", 3);
    fault("B:(k>1)>1", 7);
    fault("B:k>(1)", 4);
    fault("B:k+(1)>1", 4);
    fault("B:k>!1", 4);
    fault("B:k+", 4);
    fault("B:k+>1", 4);
    fault("B:+k>1", 2);
    fault("B:-1<k", 2);
    fault("B:k<-1", 4);
    fault("B:k>=1", 4);
    fault("B:k<>1", 4);
    fault("B:k/1", 3);
    fault("B:k|l", 3);
    fault("B:K=1", 2);
    fault("B:kk=1", 3);
    fault("B:1k=1", 3);
    fault("B:k1=1", 3);
    fault("B:k =1", 3);
    fault("B:k=1\n", 5);
    fault("O:", 2);
    fault("O:k", -1);
    fault("O:k=1", 3);
    fault("O:k&k", 3);
    fault("O:!k", 2);
    fault("O:k+", 4);
    fault("O:*k", 2);
    fault("B:\u00ff", 2);
    fault("\u00c2:k=1", 0);
  }

  // "a NUMBER (1 to 3 digits)"
  private static void numbersOfDigits() {
    fault("O:0", -1);
    fault("O:00", -1);
    fault("O:000", -1);
    fault("O:999", -1);
    fault("O:0000", 5);
    fault("O:1000", 5);
    fault("O:9999", 5);
    fault("O:1+1000", 7);
    fault("O:1+100", -1);
    fault("O:100+100*100-100", -1);
    fault("B:1000=k", 5);
    fault("B:999=k", -1);
    fault("B:k=1000", 7);
    fault("B:k=1000&k=1000", 7);
    fault("O:/", 2);
    fault("O:9:", 3);
    fault("O::", 2);
    fault("B:k=1234)", 7);
  }

  // the least and the greatest NUMBER, and FACTS beside them
  private static void numbersEnd() {
    holds("0=k", true);
    holds("000=0", true);
    holds("010=10", true);
    holds("999=998+1", true);
    holds("999>998", true);
    holds("999<999", false);
    holds("999>999", false);
    holds("999+1>999", true);
    holds("0-999<0", true);
    holds("0*999=0", true);
  }

  // ""!" and "(" are 4 deep at most"; "of a fifth "!" or "(" its own"
  private static void deepIsFour() {
    for (int deep = 1; deep <= 6; deep++) {
      fault("B:" + many("!", deep) + "k=1", deep <= 4 ? -1 : 6);
      fault("B:" + many("(", deep) + "k=1" + many(")", deep), deep <= 4 ? -1 : 6);
    }
    fault("B:((((!k=1))))", 6);
    fault("B:!!!!(k=1)", 6);
    fault("B:k=1&(((((k=1", 10);
    fault("B:((((", 6);
    fault("B:(((((", 6);
    fault("B:((((k=1)))", 12);
    fault("B:((((k=1)))))", 13);
    fault("O:(((((1", 2);
    holds("!!!!k=0", true);
    holds("!!!k=0", false);
    holds("((((k=0))))", true);
    holds("!((!k=0))", true);
  }

  // deep is what is open around it, not how many there are
  private static void deepTogether() {
    fault("B:!(!(k=1))", -1);
    fault("B:(!(!k=1))", -1);
    fault("B:(!(!(k=1)))", 6);
    fault("B:!(!(!k=1))", 6);
    fault("B:((((k=1))))&((((k=1))))/!!!!k=1", -1);
    fault("B:(((!k=1&!k=1)&!k=1))", -1);
    fault("B:(((!k=1&!!k=1)&!k=1))", 11);
    fault("B:(!k=1|!k=1|!k=1|!k=1|!k=1|!k=1)", -1);
    fault("B:!k=1&!k=1&!k=1&!k=1&!k=1", -1);
    fault("B:(((k=1)))&!!!(!k=1)", 16);
    fault("B:(((k=1)))&!!!(k=1)", -1);
  }

  // "(a / b: a unless b; from the left on)"; "SUM: UNIT {..} (from the left on)"
  private static void fromTheLeft() {
    holds("0=0/0=1", true);
    holds("0=0/0=0", false);
    holds("0=1/0=0", false);
    holds("0=1/0=1", false);
    holds("0=0/0=0/0=0", false);
    holds("0=0/(0=0/0=0)", true);
    holds("0=0/0=1/0=1", true);
    holds("0=1|0=0/0=1|0=1", true);
    holds("0=0|0=0&0=1", true);
    holds("(0=0|0=0)&0=1", false);
    holds("!0=0|0=0", true);
    holds("!(0=0|0=0)", false);
    holds("!0=1/0=0", false);
    holds("2+3*4=20", true);
    holds("2*3+4=10", true);
    holds("9-3-2=4", true);
    holds("9-3*2=12", true);
    holds("9-3+2=8", true);
  }

  // "(Reckoned as ints: what is too great goes round.)"
  private static void goesRound() {
    holds(LEAST + "<0", true);
    holds(LEAST + "-1>0", true);
    holds(LEAST + "-1+1<0", true);
    holds(LEAST + "*2=0", true);
    holds("256*256*256*256=0", true);
    holds("256*256*256*255<0", true);
    holds(LEAST + "<" + LEAST + "-1", true);
    holds(LEAST + "-1>" + LEAST, true);
    holds(LEAST + ">1", false);
    holds("1>" + LEAST, true);
    holds("2*999+153*999+784*999+280>0", true);
    holds("2*999+153*999+784*999+280+1<0", true);
    holds("2*999+153*999+784*999+280+1=" + LEAST, true);
    holds("0-1*256*256*256*128=" + LEAST, true);
  }

  // "k KIND, g GROUP, l LAND, n LONG, d DANGER, m MARK (0 without), s the SHIFT, b the BENCH"
  private static void factsAtTheirEnds() {
    BeamHall x = Due.hall(6);
    x.draft(0, 0, 1, 0);
    x.ask(0, 63, 15, -1, 0, 0, 0);
    x.draft(9, 4, 4, 0);
    x.ask(4, 63, 15, -1, 9, 0, 0);
    x.mark(0, 1, 100);
    Due.text(x, "B:k+g+l+d+m+s+b=0&n=1", 0);
    Due.text(x, "B:k=4&g=9&l=4&n=4&d=9&m=100&s=199&b=5", 0);
    d.is("all at their least", x.barred(0, 0, 0, 2), 0);
    d.is("another BENCH", x.barred(0, 1, 0, 2), -9);
    d.is("another SHIFT", x.barred(0, 0, 1, 2), -9);
    d.is("all at their greatest", x.barred(1, 5, 199, 2), 1);
    d.is("another BENCH", x.barred(1, 4, 199, 2), -9);
    d.is("another SHIFT", x.barred(1, 5, 198, 2), -9);
    x.mark(0, 0, 0);
    d.is("a MARK of 0", x.barred(0, 0, 0, 2), 0);
    x.give(1, 5, 0);
    x.hours(8);
    x.trip(0, 8);
    d.is("one OWED", x.owe(1), 2);
    Due.text(x, "B:k=5", 0);
    d.is("its KIND is 5", x.barred(2, 0, 7, 2), 2);
    d.is("no other's is", x.barred(1, 0, 7, 2), -9);
  }

  // "t LOST HOURS (of all its SHIFTS, in "O"; 0 else)"
  private static void lostHoursOnlyInO() {
    BeamHall x = Due.hall(1);
    Due.ask(x, 0, 4);
    x.give(0, 0, 0);
    x.hours(32);
    x.trip(0, 32);
    Due.text(x, "B:t=0", 0);
    Due.text(x, "W:t>0", 0);
    Due.text(x, "O:t-30", 0);
    d.is("LOSS", x.askOf(0, 8), 32);
    d.is("32 less 30", x.askOf(0, 9), 2);
    d.is("0 in a B", x.barred(0, 0, 0, 0), 1);
    d.is("0 in a W", x.barred(0, 0, 0, 1), 0);
    Due.text(x, "B:t>0", 0);
    d.is("0 in a QUARREL: the first holds, the other does not", x.barred(0, 0, 0, 3) * 10 + x.barred(0, 0, 0, 4), 3);
    Due.text(x, "B:0=1", 1);
    Due.text(x, "B:t=0", 1);
    Due.text(x, "B:0=0", 1);
    x.strike(0, 1);
    d.is("0 in a QUARREL: 4 with 5, that holds", x.barred(0, 0, 1, 3) * 10 + x.barred(0, 0, 1, 4), 45);
  }

  // "in force from a SHIFT on, till STRUCK from a SHIFT on (told once)"
  private static void inForce() {
    BeamHall x = Due.hall(1);
    Due.ask(x, 0, 1);
    Due.text(x, "B:k=0", 199);
    d.is("from 199 on: 198", x.barred(0, 0, 198, 2), -9);
    d.is("from 199 on: 199", x.barred(0, 0, 199, 2), 0);
    d.is("struck from 199 on", x.strike(0, 199), 1);
    d.is("never", x.barred(0, 0, 199, 2), -9);
    Due.text(x, "B:k=0", 0);
    d.is("from 0 on: 0", x.barred(0, 0, 0, 2), 1);
    d.is("from 0 on: 199", x.barred(0, 0, 199, 2), 1);
    d.is("struck from 1 on", x.strike(1, 1), 1);
    d.is("in 0 it stands", x.barred(0, 0, 0, 2), 1);
    d.is("in 1 it does not", x.barred(0, 0, 1, 2), -9);
    Due.text(x, "B:k=0", 5);
    d.is("struck from 5 on, as it comes", x.strike(2, 5), 1);
    d.is("never", x.barred(0, 0, 5, 2), -9);
    Due.text(x, "B:k=0", 5);
    d.is("struck from 0 on", x.strike(3, 0), 1);
    d.is("never", x.barred(0, 0, 5, 2), -9);
    Due.text(x, "B:k=0", 5);
    d.is("struck from 199 on", x.strike(4, 199), 1);
    d.is("4", x.barred(0, 0, 4, 2), -9);
    d.is("5", x.barred(0, 0, 5, 2), 4);
    d.is("198", x.barred(0, 0, 198, 2), 4);
    d.is("199", x.barred(0, 0, 199, 2), -9);
    d.is("told once", x.strike(4, 0), -3);
    d.is("it holds in 5 still", x.barred(0, 0, 5, 2), 4);
    x.hours(1600);
    d.is("what is over may be struck", Due.text(x, "B:k=0", 0) * 10 + x.strike(5, 0), 51);
  }

  // "BARRED: .. if some "B" in force in it holds. WATCHED: if some "W" does."
  private static void barredAndWatched() {
    BeamHall x = Due.hall(1);
    Due.ask(x, 0, 2);
    d.is("no TEXTS: not BARRED", x.barred(0, 0, 0, 0), 0);
    d.is("no TEXTS: not WATCHED", x.barred(0, 0, 0, 1), 0);
    d.is("no TEXTS: none", x.barred(0, 0, 0, 2), -9);
    d.is("no TEXTS: no QUARREL", x.barred(0, 0, 0, 3) + x.barred(0, 0, 0, 4), -18);
    Due.text(x, "O:1", 0);
    Due.text(x, "W:s=9", 0);
    Due.text(x, "B:s=8", 0);
    d.is("an O bars nobody", x.barred(0, 0, 0, 0) + x.barred(0, 0, 0, 1), 0);
    d.is("a W bars nobody", x.barred(0, 0, 9, 0) * 10 + x.barred(0, 0, 9, 1), 1);
    d.is("a B watches nobody", x.barred(0, 0, 8, 0) * 10 + x.barred(0, 0, 8, 1), 10);
    d.is("the least", x.barred(0, 0, 8, 2), 2);
    d.is("FIT ahead of it", x.fit(0, 0, 6), 0);
    d.is("FIT: its second SHIFT is BARRED", x.fit(0, 0, 7), 8);
    d.is("FIT: its first SHIFT is BARRED", x.fit(0, 0, 8), 8);
    d.is("FIT behind it", x.fit(0, 0, 9), 0);
  }

  // "WATCHED: two such are wanted"; "one or, if it is WATCHED, two"
  private static void watchedWantsTwo() {
    for (int hosts = 0; hosts <= 3; hosts++) {
      BeamHall x = new BeamHall();
      x.bench(1, new int[] {0, 128, 130, 255}[hosts]);
      Due.ask(x, 0, 2);
      Due.text(x, "W:s=4", 0);
      d.is(hosts + " HOSTS: not WATCHED", x.fit(0, 0, 5), hosts > 0 ? 0 : 9);
      d.is(hosts + " HOSTS: WATCHED in its second", x.fit(0, 0, 3), hosts > 1 ? 0 : 9);
      d.is(hosts + " HOSTS: given", x.give(0, 0, 3), hosts > 1 ? 1 : -3);
      d.is(hosts + " HOSTS: in 3", x.hosts(0, 3), new int[] {0, 0, 2, 1}[hosts]);
      d.is(hosts + " HOSTS: in 4", x.hosts(0, 4), new int[] {0, 0, 130, 3}[hosts]);
    }
  }

  private static BeamHall lost(int hours) {
    BeamHall x = Due.hall(1);
    Due.ask(x, 0, 4);
    x.give(0, 0, 1);
    x.hours(40);
    if (hours > 0) x.trip(8, hours);
    return x;
  }

  // "without one: LOST HOURS by 8, cut"
  private static void owedByEights() {
    int[][] due = {{0, 0}, {1, 0}, {7, 0}, {8, 1}, {15, 1}, {16, 2}, {31, 3}, {32, 4}, {40, 4}};
    for (int[] n : due) {
      BeamHall x = lost(n[0]);
      d.is(n[0] + " from 8 on: LOSS", x.askOf(0, 8), Math.min(32, n[0]));
      d.is(n[0] + " from 8 on: OWED", x.askOf(0, 9), n[1]);
      d.is(n[0] + " from 8 on: owe", x.owe(0), n[1] == 0 ? -3 : 1);
      if (n[1] > 0) d.is("LONG of OWED SHIFTS", x.askOf(1, 3), n[1]);
    }
  }

  // "its SUM, 0 at least, LONG at most"
  private static void owedWithin() {
    String[] sums = {"O:0", "O:1", "O:4", "O:5", "O:999", "O:0-1", "O:0-999", "O:" + LEAST, "O:" + LEAST + "-1", "O:n", "O:n+1"};
    int[] due = {0, 1, 4, 4, 4, 0, 0, 0, 4, 4, 4};
    for (int i = 0; i < sums.length; i++) {
      BeamHall x = lost(1);
      Due.text(x, sums[i], 0);
      d.is(sums[i], x.askOf(0, 9), due[i]);
      d.is(sums[i] + ": owe", x.owe(0), due[i] == 0 ? -3 : 1);
      d.is(sums[i] + ": LONG", due[i] == 0 ? 0 : x.askOf(1, 3), due[i]);
      BeamHall y = lost(0);
      Due.text(y, sums[i], 0);
      d.is(sums[i] + ": without LOSS none is owed", y.owe(0), -3);
    }
  }

  // "OWED: by the "O" in force in the SHIFT in which the ASK begins, from the latest SHIFT on, of several the greatest number"
  private static void owedByTheLatest() {
    BeamHall x = lost(32);
    d.is("none is in force: by 8", x.askOf(0, 9), 4);
    Due.text(x, "O:0", 2);
    d.is("from its second SHIFT on: not in force as it begins", x.askOf(0, 9), 4);
    Due.text(x, "O:1", 1);
    d.is("from its first SHIFT on", x.askOf(0, 9), 1);
    Due.text(x, "O:2", 0);
    d.is("one from an earlier SHIFT on counts nothing", x.askOf(0, 9), 1);
    Due.text(x, "O:3", 1);
    d.is("of several the greatest number, though it is more", x.askOf(0, 9), 3);
    Due.text(x, "O:0", 1);
    d.is("of several the greatest number, though it is less", x.askOf(0, 9), 0);
    d.is("struck from 2 on: in force as it begins", x.strike(4, 2) * 10 + x.askOf(0, 9), 10);
    d.is("struck from 1 on", x.strike(3, 1) * 10 + x.askOf(0, 9), 10);
    x.strike(1, 0);
    Due.text(x, "O:2", 1);
    d.is("TEXT 5", x.askOf(0, 9), 2);
    x.strike(5, 1);
    BeamHall y = lost(32);
    Due.text(y, "O:1", 1);
    Due.text(y, "O:2", 0);
    y.strike(0, 1);
    d.is("the next one, from 0 on", y.askOf(0, 9), 2);
    y.strike(1, 0);
    d.is("none then: by 8", y.askOf(0, 9), 4);
    Due.text(y, "B:0=1", 1);
    d.is("a B says nothing of it", y.askOf(0, 9), 4);
  }

  // "QUARREL ..: two "B" in force then, from the same SHIFT on, of which just one holds: the least one .., and the least such other behind it"
  private static void quarrels() {
    String[][] rows = {{"B:0=0"}, {"B:0=0", "B:0=0"}, {"B:0=1", "B:0=1"}, {"B:0=0", "B:0=1"}, {"B:0=1", "B:0=0"},
        {"B:0=0", "B:0=0", "B:0=1"}, {"B:0=0", "W:0=1"}, {"B:0=0", "O:0", "B:0=1", "B:0=1"}, {"B:0=1", "B:0=1", "B:0=0", "B:0=0"}};
    int[][] due = {{-9, -9}, {-9, -9}, {-9, -9}, {0, 1}, {0, 1}, {0, 2}, {-9, -9}, {0, 2}, {0, 2}};
    for (int i = 0; i < rows.length; i++) {
      BeamHall x = Due.hall(1);
      Due.ask(x, 0, 1);
      for (String text : rows[i]) Due.text(x, text, 7);
      String row = String.join(" ", rows[i]);
      d.is(row + ": in 7", x.barred(0, 0, 7, 3), due[i][0]);
      d.is(row + ": in 7 the other", x.barred(0, 0, 7, 4), due[i][1]);
      d.is(row + ": in 6", x.barred(0, 0, 6, 3) + x.barred(0, 0, 6, 4), -18);
    }
    BeamHall y = Due.hall(1);
    Due.ask(y, 0, 1);
    Due.text(y, "B:0=0", 6);
    Due.text(y, "B:0=1", 7);
    d.is("not from the same SHIFT on", y.barred(0, 0, 7, 3), -9);
    Due.text(y, "B:0=1", 6);
    d.is("0 and 2", y.barred(0, 0, 7, 3) * 10 + y.barred(0, 0, 7, 4), 2);
    Due.text(y, "B:0=0", 7);
    y.strike(2, 7);
    d.is("in 6 both are in force", y.barred(0, 0, 6, 3) * 10 + y.barred(0, 0, 6, 4), 2);
    d.is("in 7 one is struck: 1 and 3", y.barred(0, 0, 7, 3) * 10 + y.barred(0, 0, 7, 4), 13);
  }
}
