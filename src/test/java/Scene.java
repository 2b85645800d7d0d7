/**
 * Objects in the states that the boundary cases need: none, some or all annuities, and none, some
 * or all months run. An object is made by the same calls each time, by no more than 280 of them, so
 * that a test has more than 230 calls left.
 */
enum Scene {
  EMPTY(0, 0),
  EMPTY_OVER(0, 240),
  FIRST(3, 0),
  BUSY(3, 6),
  LAST(3, 239),
  OVER(3, 240),
  NINETEEN(19, 0),
  FULL(20, 0),
  FULL_BUSY(20, 6),
  FULL_OVER(20, 240),
  /** Its one annuity owes more than can be given back at once. */
  RICH(1, 240) {
    @Override
    JointAnnuity make() {
      JointAnnuity x = Desks.with(0, 100000, 0);
      x.setCap(0, 200);
      Desks.setInflations(x, 300);
      Desks.runTo(x, 240);
      Desks.tellBothDeaths(x, 0, 0);
      return x;
    }
  };

  final int annuities;
  final int monthsRun;

  Scene(int annuities, int monthsRun) {
    this.annuities = annuities;
    this.monthsRun = monthsRun;
  }

  /** The start of an annuity: the first months, a later one, and the last month. */
  static int startOf(int annuity) {
    switch (annuity) {
      case 1:
        return 12;
      case 2:
        return 239;
      default:
        return annuity;
    }
  }

  /** Behind six months, both deaths are told for annuity 0, which owes, and one for annuity 1. */
  JointAnnuity make() {
    JointAnnuity x = new JointAnnuity();
    for (int annuity = 0; annuity < annuities; annuity++) {
      x.add(startOf(annuity), 1000 + annuity, annuity % 3);
    }
    if (annuities > 0) {
      setTerms(x);
    }
    Desks.runTo(x, monthsRun);
    if (annuities > 0 && monthsRun >= 6) {
      x.die(0, 0, 2);
      x.die(0, 1, 3);
      x.die(1, 1, 5);
    }
    return x;
  }

  private static void setTerms(JointAnnuity x) {
    x.setSurvivor(0, 50, true);
    x.setCap(0, 20);
    x.setSurvivor(1, 60, false);
    x.setCap(1, 30);
    x.protect(1, 50000, 80);
    x.setInflation(0, 25);
    x.setInflation(1, 40);
    x.setInflation(5, -10);
    x.setInflation(19, 7);
  }
}
