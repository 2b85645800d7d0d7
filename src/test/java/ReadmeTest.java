/** What README.md tells of the class: its example, call by call, with the answers told there. */
public final class ReadmeTest {
  public static void main(String[] args) {
    example();
    Check.close("ReadmeTest");
  }

  private static void example() {
    JointAnnuity desk = new JointAnnuity();
    int annuity = desk.add(0, 2000, 0);
    Check.same("the first annuity's number", annuity, 0);
    desk.setSurvivor(annuity, 50, true);
    desk.setCap(annuity, 20);
    Check.same("month 0", desk.run(), 2000);
    Check.same("month 1", desk.run(), 2000);
    Check.same("month 2", desk.run(), 2000);
    Check.same("inflation of year 0 at first", desk.setInflation(0, 35), 0);
    Check.same("from month 12 on", desk.fullAmount(annuity, 12), 2040);
    Check.same("what is carried", desk.carry(annuity, 12), 15);
    desk.die(annuity, 1, 1);
    Check.same("month 2 was paid whole", desk.owes(annuity), 1000);
    Check.same("some is given back", desk.giveBack(annuity, 400), 600);
    Check.same("the rest is set off", desk.run(), 400);
    Check.same("nothing is owed", desk.owes(annuity), 0);
  }
}
