/** The calls that README.md shows under "Use", with the answers that it tells. */
public final class ReadmeTest {
  public static void main(String[] args) {
    Due d = new Due();
    BeamHall hall = new BeamHall();
    int bench = hall.bench(1, 3);
    d.is("draft", hall.draft(0, 0, 2, 0), 1);
    int ask = hall.ask(0, 1, 15, -1, 0, 0, 0);
    d.is("plan", hall.plan(0, 20), 1);
    d.is("its first SHIFT", hall.askOf(ask, 6), 0);
    d.is("a REFUSAL", hall.fit(ask, bench, 200), -1);
    d.is("is counted", hall.count(11), 1);
    d.is("five bytes", hall.feed(5, 0x353E643A42L), 5);
    d.is("a TEXT", hall.text(0), 0);
    d.is("BARRED now", hall.danger(ask, 6), 1);
    d.is("nobody has it", hall.had(bench, 0, 0), -9);
    d.end("ReadmeTest");
  }
}
