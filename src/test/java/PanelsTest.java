/** Promises 16 to 19: KIN, marks, MARK, HABIT and DOUBT. */
public final class PanelsTest {
  private static final Due d = new Due();

  public static void main(String[] args) {
    promise16Kin();
    promise17Mark();
    promise18MarkOf();
    promise18Scaled();
    promise19Habit();
    d.end("PanelsTest");
  }

  private static void promise16Kin() {
    BeamHall x = new BeamHall();
    d.is("kin(0, 0)", x.kin(0, 0), 1);
    d.is("kin(0, 0) again", x.kin(0, 0), 0);
    d.is("kin(5, 9)", x.kin(5, 9), 1);
    d.is("kin(0, 9)", x.kin(0, 9), 1);
    d.is("kin(6, 0)", x.kin(6, 0), -1);
    d.is("kin(-1, 0)", x.kin(-1, 0), -1);
    d.is("kin(0, 10)", x.kin(0, 10), -1);
    d.is("kin(0, -1)", x.kin(0, -1), -1);
    d.refusals("kin", x, 4, 0, 0, 0, 0, 0);
  }

  private static void promise17Mark() {
    BeamHall x = new BeamHall();
    Due.ask(x, 4, 1);
    Due.ask(x, 5, 1);
    x.kin(1, 4);
    d.is("mark(0, 0, 0)", x.mark(0, 0, 0), 1);
    d.is("mark by KIN", x.mark(1, 0, 50), 0);
    d.is("mark by KIN of another GROUP", x.mark(1, 1, 50), 1);
    d.is("told already, below: -3 first", x.mark(1, 0, -1), -3);
    d.is("mark(2, 0, -1)", x.mark(2, 0, -1), -4);
    d.is("mark(2, 0, 101)", x.mark(2, 0, 101), -6);
    d.is("mark(2, 0, 100)", x.mark(2, 0, 100), 1);
    d.is("3 were told, one of KIN too", x.mark(3, 0, 50), -3);
    d.is("mark(6, 0, 1)", x.mark(6, 0, 1), -1);
    d.is("mark(-1, 0, 1)", x.mark(-1, 0, 1), -1);
    d.is("mark(0, 2, 101): -1 first", x.mark(0, 2, 101), -1);
    d.is("mark(0, -1, 1)", x.mark(0, -1, 1), -1);
    d.is("the sum of those that count", x.markOf(0), 50);
    d.refusals("mark", x, 4, 0, 2, 1, 0, 1);
  }

  private static void promise18MarkOf() {
    BeamHall x = new BeamHall();
    Due.ask(x, 0, 1);
    Due.ask(x, 1, 1);
    d.is("without", x.markOf(0), -9);
    x.kin(0, 0);
    x.mark(0, 0, 90);
    d.is("one that does not count", x.markOf(0), -9);
    x.mark(1, 0, 0);
    d.is("0 is a MARK", x.markOf(0), 0);
    x.mark(2, 0, 7);
    d.is("7 by 2, cut", x.markOf(0), 3);
    x.kin(2, 0);
    d.is("later KIN changes nothing", x.markOf(0), 3);
    d.is("markOf(2)", x.markOf(2), -1);
    d.is("markOf(-1)", x.markOf(-1), -1);
    d.refusals("markOf", x, 2, 0, 0, 0, 0, 0);
  }

  private static void promise18Scaled() {
    BeamHall x = new BeamHall();
    for (int i = 0; i < 3; i++) Due.ask(x, i, 1);
    x.mark(0, 0, 100);
    x.mark(1, 0, 0);
    x.mark(0, 1, 20);
    x.mark(1, 2, 50);
    d.is("HABIT of 0", x.habit(0, 0), 100);
    d.is("HABIT of 1", x.habit(1, 0), -100);
    d.is("not SCALED at first", x.markOf(1), 20);
    x.set(2, 1);
    d.is("SCALED: 0 at least", x.markOf(1), 0);
    d.is("SCALED: 100 at most", x.markOf(2), 100);
    d.is("SCALED: both", x.markOf(0), 50);
    x.mark(1, 1, 20);
    d.is("HABIT of 0 then", x.habit(0, 0), 50);
    d.is("SCALED: 20 less 50 and 20 more 50", x.markOf(1), 20);
    d.is("SCALED: 50 more 50", x.markOf(2), 100);
    x.mark(2, 2, 90);
    d.is("HABIT of 1 over three others", x.habit(1, 0), -47);
    d.is("HABIT of 2", x.habit(2, 0), 40);
    d.is("SCALED: 97 and 50", x.markOf(2), 73);
    x.set(2, 0);
    d.is("no more", x.markOf(2), 70);
  }

  private static void promise19Habit() {
    BeamHall x = new BeamHall();
    for (int i = 0; i < 4; i++) Due.ask(x, i, 1);
    d.is("without", x.habit(0, 0), 0);
    d.is("without", x.habit(0, 1), 0);
    x.mark(0, 0, 90);
    d.is("of one alone", x.habit(0, 0), 0);
    x.mark(1, 0, 60);
    d.is("HABIT of one other", x.habit(0, 0), 30);
    d.is("DOUBT of one other", x.habit(0, 1), 0);
    x.mark(2, 0, 81);
    d.is("HABIT: 39 by 2, cut down", x.habit(0, 0), 19);
    d.is("HABIT of 1: -51 by 2, cut down", x.habit(1, 0), -26);
    d.is("DOUBT: 30 less 9", x.habit(0, 1), 21);
    x.kin(3, 1);
    x.mark(0, 1, 10);
    x.mark(3, 1, 100);
    d.is("those that do not count", x.habit(0, 0), 19);
    d.is("HABIT of one that does not count", x.habit(3, 0), 0);
    x.mark(1, 1, 40);
    d.is("HABIT: 39 less 30 by 3", x.habit(0, 0), 3);
    d.is("DOUBT: 30 more 30", x.habit(0, 1), 60);
    x.withdraw(1);
    d.is("HABIT stays as ASKS are withdrawn", x.habit(0, 0), 3);
    d.is("habit(6, 9): -1 first", x.habit(6, 9), 1000000001);
    d.is("habit(-1, 0)", x.habit(-1, 0), 1000000001);
    d.is("habit(0, 2)", x.habit(0, 2), 1000000002);
    d.is("habit(0, -1)", x.habit(0, -1), 1000000002);
    d.refusals("habit", x, 2, 2, 0, 0, 0, 0);
  }
}
