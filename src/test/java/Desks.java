/** Small desks that the tests begin with. */
final class Desks {
  private Desks() {}

  /** A desk with one annuity, which has the number 0. */
  static JointAnnuity with(int start, int amount, int guarantee) {
    JointAnnuity x = new JointAnnuity();
    Check.same("add", x.add(start, amount, guarantee), 0);
    return x;
  }

  /** Runs months until this one goes on. */
  static void runTo(JointAnnuity x, int month) {
    for (int left = month - x.month(); left > 0; left--) {
      x.run();
    }
  }

  static void tellBothDeaths(JointAnnuity x, int annuity, int month) {
    x.die(annuity, 0, month);
    x.die(annuity, 1, month);
  }

  static void setInflations(JointAnnuity x, int value) {
    for (int year = 0; year < 20; year++) {
      x.setInflation(year, value);
    }
  }
}
