/** Promises 12 to 15: the TAPE, TEXTS, what is STRUCK, and whom TEXTS bar. */
public final class TextsTest {
  private static final Due d = new Due();

  public static void main(String[] args) {
    promise12Feed();
    promise13Text();
    promise13Faults();
    promise14Strike();
    promise15Barred();
    promise15Facts();
    promise15Rules();
    promise15Quarrel();
    d.end("TextsTest");
  }

  private static void promise12Feed() {
    BeamHall x = new BeamHall();
    d.is("feed(0, 0)", x.feed(0, 0), -4);
    d.is("feed(-1, 0)", x.feed(-1, 0), -4);
    d.is("feed(9, 0)", x.feed(9, 0), -6);
    d.is("feed(1, 'B')", x.feed(1, 'B' | 0x7700), 1);
    for (int i = 1; i <= 6; i++) d.is("feed(8, ..)", x.feed(8, -1), 1 + 8 * i);
    d.is("feed(2, ..) above 50", x.feed(2, 0), -6);
    d.is("feed(1, ..)", x.feed(1, 0), 50);
    d.is("feed(1, ..) above 50", x.feed(1, 0), -6);
    d.is("bytes of the TAPE", x.count(7), 50);
    d.is("the lowest first, and no more than told", x.text(0), -21);
    d.is("bytes of the TAPE", x.count(7), 0);
    d.refusals("feed", x, 0, 0, 0, 2, 0, 3);
    BeamHall y = new BeamHall();
    y.feed(8, 'B' | ':' << 8 | 'd' << 16 | (long) '=' << 24 | (long) '1' << 32 | (long) '2' << 40 | (long) '3' << 48 | (long) '+' << 56);
    y.feed(1, 0x3534L);
    d.is("eight bytes and one", y.text(0), 0);
  }

  private static void promise13Text() {
    BeamHall x = new BeamHall();
    Due.feed(x, "B:d>5");
    d.is("text(200)", x.text(200), -1);
    d.is("text(-1)", x.text(-1), -1);
    d.is("refused: it stays", x.count(7), 5);
    for (int i = 0; i < 20; i++) {
      d.is("text " + i, x.text(i == 0 ? 0 : 199), i);
      d.is("the TAPE has none then", x.count(7), 0);
      Due.feed(x, "W:d>5");
    }
    d.is("text 20", x.text(0), -6);
    d.is("text 20 from 200: -1 first", x.text(200), -1);
    d.is("refused: it stays", x.count(7), 5);
    x.feed(1, 'x');
    d.is("text 20 with a FAULT: -6", x.text(0), -6);
    d.is("TEXTS", x.count(4), 20);
    d.refusals("text", x, 3, 0, 0, 0, 0, 2);
    BeamHall y = new BeamHall();
    d.is("a FAULT", Due.text(y, "B:d>", 0), -24);
    d.is("the TAPE has none then", y.count(7), 0);
    d.is("no TEXT", y.count(4), 0);
    d.refusals("a FAULT is no REFUSAL", y, 0, 0, 0, 0, 0, 0);
    d.is("50 bytes", Due.text(y, "O:1+1+1+1+1+1+1+1+1+1+1+1+1+1+1+1+1+1+1+1+1+1+1+10", 0), 0);
  }

  private static void fault(String text, int place) {
    d.is("FAULT of " + text, Due.text(new BeamHall(), text, 0), place < 0 ? 0 : -20 - place);
  }

  private static void promise13Faults() {
    for (String good : new String[] {"B:k=g", "W:l<n", "O:d", "O:1", "O:m*s-b+t", "B:1+2>3", "B:(k=1)", "B:!k=1",
        "B:!(k=1)", "B:k=1&g=2|l=3/n=4", "B:((((k=1))))", "B:!!!!k=1", "B:!(!(k=1))", "B:(k=1)&(g=1)|(l=1)",
        "B:!k=1&!k=2&!k=3&!k=4&!k=5", "B:(k=1)|(k=2)|(k=3)|(k=4)|(k=5)", "O:000*999", "B:((k=1)&(k=2))/(k=3)"}) {
      fault(good, -1);
    }
    fault("", 0);
    fault("b:k=1", 0);
    fault(" B:k=1", 0);
    fault("B", 1);
    fault("Bk=1", 1);
    fault("B:", 2);
    fault("O:", 2);
    fault("B:k", 3);
    fault("B:k+1", 5);
    fault("B:k=", 4);
    fault("B:k=1=2", 5);
    fault("B:k=1+", 6);
    fault("B:k==1", 4);
    fault("B:k=1&", 6);
    fault("B:k&g=1", 3);
    fault("B:k=1&&g=1", 6);
    fault("B:x=1", 2);
    fault("B:kg=1", 3);
    fault("B:1k=1", 3);
    fault("B:1234=1", 5);
    fault("B:k=1234", 7);
    fault("B:(k)=1", 4);
    fault("B:(k=1", 6);
    fault("B:k=1)", 5);
    fault("B:()", 3);
    fault("B:k=(1)", 4);
    fault("B:!", 3);
    fault("B:k!=1", 3);
    fault("B:!!!!!k=1", 6);
    fault("B:(((((k=1)))))", 6);
    fault("B:!(!(!k=1))", 6);
    fault("B:(!(!(k=1)))", 6);
    fault("B:((((k=1)))&!!!!k=1)", 16);
    fault("B:((((k=1)))&!!!k=1)", -1);
    fault("B:!!!!k=1&!!!!!k=1", 14);
    fault("B:!!!!", 6);
    fault("O:k=1", 3);
    fault("O:k/1", 3);
    fault("O:(k)", 2);
    fault("O:!k", 2);
    fault("O:-1", 2);
    fault("O:k 1", 3);
    fault("W:k=1 ", 5);
    fault("B:" + (char) 200, 2);
    fault("B:" + (char) 0, 2);
  }

  private static void promise14Strike() {
    BeamHall x = Due.hall(1);
    Due.ask(x, 0, 1);
    Due.text(x, "B:k=0", 10);
    Due.text(x, "B:k=0", 10);
    d.is("strike(2, 0)", x.strike(2, 0), -1);
    d.is("strike(-1, 0)", x.strike(-1, 0), -1);
    d.is("strike(0, 200)", x.strike(0, 200), -1);
    d.is("strike(0, -1)", x.strike(0, -1), -1);
    d.is("strike(0, 20)", x.strike(0, 20), 1);
    d.is("told so", x.strike(0, 20), -3);
    d.is("told so, with another SHIFT", x.strike(0, 30), -3);
    d.is("told so, no SHIFT: -1 first", x.strike(0, 200), -1);
    d.is("the least that holds in 19", x.barred(0, 0, 19, 2), 0);
    d.is("the least that holds in 20", x.barred(0, 0, 20, 2), 1);
    d.is("ahead of its first SHIFT", x.barred(0, 0, 9, 2), -9);
    d.is("struck from a SHIFT ahead of its first", x.strike(1, 5), 1);
    d.is("never in force", x.barred(0, 0, 30, 2), -9);
    d.is("a struck one is a TEXT still", x.count(4), 2);
    d.refusals("strike", x, 5, 0, 2, 0, 0, 0);
  }

  private static void promise15Barred() {
    BeamHall x = Due.hall(2);
    Due.ask(x, 0, 2);
    Due.text(x, "W:s=5", 0);
    Due.text(x, "B:s=4&b=1", 0);
    Due.text(x, "O:1", 0);
    Due.text(x, "B:s>3&s<6", 3);
    d.is("BARRED in 4", x.barred(0, 0, 4, 0), 1);
    d.is("BARRED in 3", x.barred(0, 0, 3, 0), 0);
    d.is("WATCHED in 5", x.barred(0, 0, 5, 1), 1);
    d.is("WATCHED in 4", x.barred(0, 0, 4, 1), 0);
    d.is("the least at 0", x.barred(0, 0, 4, 2), 3);
    d.is("the least at 1", x.barred(0, 1, 4, 2), 1);
    d.is("none", x.barred(0, 1, 6, 2), -9);
    d.is("no QUARREL", x.barred(0, 1, 4, 3), -9);
    d.is("no QUARREL", x.barred(0, 1, 4, 4), -9);
    d.is("barred(1, ..)", x.barred(1, 0, 0, 9), -1);
    d.is("barred(0, 2, ..)", x.barred(0, 2, 0, 0), -1);
    d.is("barred(0, 0, 200, 0)", x.barred(0, 0, 200, 0), -1);
    d.is("barred(0, 0, 0, 5)", x.barred(0, 0, 0, 5), -2);
    d.is("barred(0, 0, 0, -1)", x.barred(0, 0, 0, -1), -2);
    d.refusals("barred", x, 3, 2, 0, 0, 0, 0);
  }

  private static boolean holds(String rule) {
    BeamHall x = Due.hall(2);
    x.draft(6, 3, 2, 0);
    x.ask(4, 63, 15, -1, 7, 0, 0);
    x.mark(0, 0, 42);
    x.give(0, 1, 0);
    x.hours(3);
    x.trip(0, 3);
    int text = Due.text(x, "B:" + rule, 0);
    if (text != 0) d.is("text " + rule, text, 0);
    return x.barred(0, 1, 50, 0) == 1;
  }

  private static void holds(String rule, boolean due) {
    d.is(rule, holds(rule) ? 1 : 0, due ? 1 : 0);
  }

  private static void promise15Facts() {
    holds("k=4", true);
    holds("g=6", true);
    holds("l=3", true);
    holds("n=2", true);
    holds("d=7", true);
    holds("m=42", true);
    holds("s=50", true);
    holds("b=1", true);
    holds("t=0", true);
    holds("k=3|g=5|l=2|n=1|d=6|m=41|s=49|b=0|t=1", false);
    BeamHall x = Due.hall(1);
    Due.ask(x, 0, 1);
    Due.text(x, "B:m=0", 0);
    d.is("m is 0 without a MARK", x.barred(0, 0, 0, 0), 1);
    x.mark(0, 0, 1);
    d.is("m is 1 then", x.barred(0, 0, 0, 0), 0);
  }

  private static void promise15Rules() {
    holds("1+2*3=9", true);
    holds("2*3+1=7", true);
    holds("9-2-3=4", true);
    holds("1-2<0", true);
    holds("1<1", false);
    holds("1>0", true);
    holds("1=0|1=1&1=0", false);
    holds("1=1|1=1&1=0", true);
    holds("1=1&1=0|1=1", true);
    holds("1=1/1=1", false);
    holds("1=1/1=0", true);
    holds("1=1/1=0/1=1", false);
    holds("1=1/(1=1/1=1)", true);
    holds("1=0/1=0", false);
    holds("1=0|1=1/1=0|1=1", false);
    holds("!1=0", true);
    holds("!1=1", false);
    holds("!!1=1", true);
    holds("!!!(1=1)", false);
    holds("!1=0&1=0", false);
    holds("!(1=0&1=0)", true);
    holds("!!1=0", false);
    holds("!1=1|1=1", true);
    holds("007=7", true);
    holds("999*999*999*999=999*999*999*999", true);
    holds("999*999*999>0", true);
    // 999^3 is 997002999; times 5 is 4985014995, less 2^32 is 690047699: too great, it goes round.
    holds("999*999*999*3<0", true);
    holds("999*999*999*5>690*999*999", true);
    holds("999*999*999*5<692*999*999", true);
  }

  private static void promise15Quarrel() {
    BeamHall x = Due.hall(1);
    Due.ask(x, 0, 1);
    Due.text(x, "B:s>0", 0);
    Due.text(x, "W:1=0", 0);
    Due.text(x, "B:1=0", 1);
    Due.text(x, "B:s>0", 0);
    Due.text(x, "B:s=5", 0);
    Due.text(x, "B:s=9", 0);
    d.is("in 0 none holds of those from 0", x.barred(0, 0, 0, 3), -9);
    d.is("in 1", x.barred(0, 0, 1, 3), 0);
    d.is("in 1 the other", x.barred(0, 0, 1, 4), 4);
    d.is("in 5", x.barred(0, 0, 5, 3), 0);
    d.is("in 5 the other", x.barred(0, 0, 5, 4), 5);
    x.strike(0, 5);
    d.is("one struck", x.barred(0, 0, 5, 3), 3);
    x.strike(3, 5);
    d.is("one that holds behind one that does not", x.barred(0, 0, 9, 3) * 10 + x.barred(0, 0, 9, 4), 45);
    Due.text(x, "B:1=1", 1);
    d.is("of those from 1 on the least is ahead", x.barred(0, 0, 5, 3), 2);
    d.is("and its other", x.barred(0, 0, 5, 4), 6);
  }
}
