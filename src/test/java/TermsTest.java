/**
 * The boundary cases in the document's words that all promises use: months and years, annuities,
 * increases, entitlement, the protection, and runs. Each test names its sentence.
 */
public final class TermsTest {
  public static void main(String[] args) {
    monthsAre0To239();
    yearsAreOf12Months();
    inflationOfTheLastYears();
    divisionsAreRoundedDown();
    annuitiesAreNumberedFrom0To19();
    percentageIs100AtFirst();
    stepsOnlyOnLife0AtFirst();
    capIs0AtFirst();
    priceIs0AtFirst();
    termsCanBeSetUntilTheStartIsRun();
    fullAmountFromTheStartOn();
    growsEvery12MonthsBehindTheStart();
    growsInTheLastMonth();
    noIncreaseInYear0();
    increaseIsAtMostTheCap();
    increaseIsAtLeast0();
    carryAddsToTheInflation();
    carryOfNoCap();
    aliveInTheMonthOfDeath();
    deathInTheFirstAndLastMonth();
    deathsAheadOfTheStart();
    guaranteedTermOfNoMonth();
    guaranteedTermOfOneMonth();
    guaranteedTermToTheLastMonth();
    guaranteedTermBehindTheLastMonth();
    lifeZeroAlone();
    lifeOneAlone();
    nobodyAlive();
    protectionOnlyIfBothAreTold();
    protectionBehindBothDeaths();
    protectionBehindTheGuaranteedTerm();
    protectionNotAheadOfTheStart();
    protectionInTheLastMonth();
    protectionIfAbove0();
    protectionIsPaidOnce();
    protectionAndDebtByAnEarlierDeath();
    runPaysIfAbove0();
    runPaysTheOneCentThatIsMissing();
    owesIfAbove0();
    owesOnlyByMonthsRun();
    Check.close("TermsTest");
  }

  // "There are the months 0 to 239"

  private static void monthsAre0To239() {
    JointAnnuity x = Desks.with(0, 7, 0);
    x.add(239, 11, 0);
    Check.same("month 0 goes on", x.month(), 0);
    Check.same("month 0 is run", x.run(), 7);
    Desks.runTo(x, 239);
    Check.same("month 239 goes on", x.month(), 239);
    Check.same("month 239 is run", x.run(), 18);
    Check.same("behind the last month", x.month(), 240);
    Check.same("paid in month 0", x.paid(0, 0), 7);
    Check.same("paid in month 239", x.paid(0, 239), 7);
    Check.same("paid in month 239", x.paid(1, 239), 11);
    Check.same("240 months in all", x.paidInAll(0), 240 * 7);
  }

  // "month m is in the year m / 12"

  private static void yearsAreOf12Months() {
    JointAnnuity x = new JointAnnuity();
    for (int start = 10; start <= 13; start++) {
      x.add(start, 1000, 0);
      x.setCap(start - 10, 200);
    }
    x.setInflation(0, 100);
    Check.same("month 22 is in year 1", x.fullAmount(0, 22), 1100);
    Check.same("month 23 is in year 1", x.fullAmount(1, 23), 1100);
    Check.same("month 24 is in year 2", x.fullAmount(2, 24), 1000);
    Check.same("month 25 is in year 2", x.fullAmount(3, 25), 1000);
    x.setInflation(0, 0);
    x.setInflation(1, 50);
    Check.same("month 23, not by its own year", x.fullAmount(1, 23), 1000);
    Check.same("month 24, by year 1", x.fullAmount(2, 24), 1050);
    Check.same("month 35, by year 1", x.fullAmount(1, 35), 1050);
    Check.same("month 36, not by year 1 once more", x.fullAmount(2, 36), 1050);
  }

  // "the years 0 to 19": the year 18 is the last one that an increase follows

  private static void inflationOfTheLastYears() {
    JointAnnuity x = new JointAnnuity();
    int[] starts = {0, 11, 12, 227, 228, 239};
    for (int i = 0; i < starts.length; i++) {
      x.add(starts[i], 1000, 0);
      x.setCap(i, 200);
    }
    x.setInflation(19, 300);
    for (int i = 0; i < starts.length; i++) {
      Check.same("nothing follows year 19", x.fullAmount(i, 239), 1000);
      Check.same("nothing follows year 19", x.carry(i, 239), 0);
    }
    x.setInflation(18, 100);
    Check.same("month 227 is ahead of it", x.fullAmount(0, 227), 1000);
    Check.same("month 228 follows year 18", x.fullAmount(0, 228), 1100);
    Check.same("month 239 follows year 18", x.fullAmount(1, 239), 1100);
    Check.same("month 238 is ahead of it", x.fullAmount(1, 238), 1000);
    Check.same("month 228 follows year 18", x.fullAmount(2, 228), 1100);
    Check.same("month 239 follows year 18", x.fullAmount(3, 239), 1100);
    Check.same("no year behind the start", x.fullAmount(4, 239), 1000);
    Check.same("no year behind the start", x.fullAmount(5, 239), 1000);
  }

  // "Divisions are rounded down."

  private static void divisionsAreRoundedDown() {
    JointAnnuity x = Desks.with(0, 999, 0);
    x.setCap(0, 1);
    x.add(0, 1000, 0);
    x.setCap(1, 1);
    x.setInflation(0, 1);
    Check.same("growth just below one cent", x.fullAmount(0, 12), 999);
    Check.same("growth of just one cent", x.fullAmount(1, 12), 1001);
    JointAnnuity y = Desks.with(0, 1, 0);
    y.add(0, 2, 0);
    y.setSurvivor(0, 99, false);
    y.setSurvivor(1, 99, false);
    y.die(0, 0, 0);
    y.die(1, 0, 0);
    Check.same("survivor's share just below one cent", y.entitled(0, 1), 0);
    Check.same("survivor's share just below two cents", y.entitled(1, 1), 1);
    JointAnnuity z = Desks.with(1, 1, 0);
    Desks.tellBothDeaths(z, 0, 0);
    z.protect(0, 1, 99);
    Check.same("protection just below one cent", z.protection(0), 0);
    z.protect(0, 199, 99);
    Check.same("protection just above 197", z.protection(0), 197);
    z.protect(0, 100, 99);
    Check.same("protection of just 99", z.protection(0), 99);
  }

  // "Annuities are numbered from 0; there are at most 20."

  private static void annuitiesAreNumberedFrom0To19() {
    JointAnnuity x = new JointAnnuity();
    for (int i = 0; i < 20; i++) {
      Check.same("number", x.add(0, 1 + i, 0), i);
    }
    for (int i = 0; i < 20; i++) {
      Check.same("each its own amount", x.fullAmount(i, 0), 1 + i);
    }
    Check.same("all are paid", x.run(), 210);
    Check.same("the first was paid", x.paid(0, 0), 1);
    Check.same("the last was paid", x.paid(19, 0), 20);
    Desks.tellBothDeaths(x, 19, 0);
    Check.same("all but the last are paid", x.run(), 190);
    Desks.tellBothDeaths(x, 0, 1);
    Check.same("all but the first and the last are paid", x.run(), 189);
  }

  // "a percentage, at first 100"

  private static void percentageIs100AtFirst() {
    JointAnnuity x = Desks.with(0, 100000, 0);
    x.die(0, 0, 0);
    Check.same("100 percent at first", x.entitled(0, 1), 100000);
    Check.same("100 percent at first", x.entitled(0, 239), 100000);
  }

  // "it steps on the first death of either, or, as at first, only on the death of life 0"

  private static void stepsOnlyOnLife0AtFirst() {
    JointAnnuity x = Desks.with(0, 1000, 0);
    Desks.runTo(x, 3);
    x.die(0, 1, 0);
    Check.same("no step at first", x.entitled(0, 1), 1000);
    Check.same("nothing was too much", x.owes(0), 0);
    JointAnnuity y = Desks.with(0, 1000, 0);
    y.setSurvivor(0, 0, false);
    y.die(0, 1, 0);
    Check.same("no step though the percentage is 0", y.entitled(0, 1), 1000);
    y.setSurvivor(0, 0, true);
    Check.same("a step", y.entitled(0, 1), 0);
    y.setSurvivor(0, 0, false);
    Check.same("set back", y.entitled(0, 1), 1000);
  }

  // "a cap for increases in thousandths, at first 0"

  private static void capIs0AtFirst() {
    JointAnnuity x = Desks.with(0, 100000, 0);
    x.setInflation(0, 300);
    Check.same("no increase at first", x.fullAmount(0, 12), 100000);
    Check.same("all is carried at first", x.carry(0, 12), 300);
  }

  // "a price with a protected percentage, both 0 at first"

  private static void priceIs0AtFirst() {
    JointAnnuity x = Desks.with(1, 1, 0);
    Desks.tellBothDeaths(x, 0, 0);
    Check.same("no protection at first", x.protection(0), 0);
    Check.same("nothing at all", x.entitledUpTo(0, 239), 0);
    x.protect(0, 10000000, 0);
    Check.same("a price alone", x.protection(0), 0);
    x.protect(0, 0, 100);
    Check.same("a percentage alone", x.protection(0), 0);
  }

  // "These terms can be set as long as its start has not been run."

  private static void termsCanBeSetUntilTheStartIsRun() {
    JointAnnuity x = Desks.with(1, 1000, 0);
    x.add(2, 1000, 0);
    x.run();
    setAllTerms(x, 0);
    Check.same("the start has not been run", x.entitledUpTo(0, 14), 12 * 1000 + 1100 * 2);
    x.run();
    Check.badState("it has been run", () -> x.setSurvivor(0, 50, true));
    Check.badState("it has been run", () -> x.setCap(0, 0));
    Check.badState("it has been run", () -> x.protect(0, 0, 0));
    setAllTerms(x, 1);
    x.die(0, 0, 0);
    x.die(0, 1, 1);
    Check.same("the last percentage stands", x.entitled(0, 2), 40000 - 1000 * 70 / 100);
    Check.same("the last protection stands", x.protection(0), 40000 - 700);
  }

  private static void setAllTerms(JointAnnuity x, int annuity) {
    x.setSurvivor(annuity, 70, true);
    x.setCap(annuity, 100);
    x.protect(annuity, 50000, 80);
    x.setInflation(0, 100);
  }

  // "The full amount of the months from the start on is the monthly amount."

  private static void fullAmountFromTheStartOn() {
    for (int start : new int[] {1, 12, 120, 239}) {
      JointAnnuity x = Desks.with(start, 100000, 0);
      Check.same("ahead of " + start, x.fullAmount(0, start - 1), 0);
      Check.same("not entitled ahead of " + start, x.entitled(0, start - 1), 0);
      Check.same("nor up to there", x.entitledUpTo(0, start - 1), 0);
      Check.same("ahead of " + start, x.fullAmount(0, 0), 0);
      Check.same("at " + start, x.fullAmount(0, start), 100000);
      Check.same("entitled at " + start, x.entitled(0, start), 100000);
      Check.same("and up to there", x.entitledUpTo(0, start), 100000);
      Check.same("to the end", x.fullAmount(0, 239), 100000);
    }
    JointAnnuity y = Desks.with(0, 1, 0);
    Check.same("from month 0", y.fullAmount(0, 0), 1);
    Check.same("from month 0", y.entitledUpTo(0, 0), 1);
  }

  // "It grows 12 months behind the start, 24 months behind it, and so on"

  private static void growsEvery12MonthsBehindTheStart() {
    for (int start : new int[] {0, 1, 11, 12}) {
      JointAnnuity x = Desks.with(start, 1000, 0);
      x.setCap(0, 10);
      Desks.setInflations(x, 11);
      Check.same("11 months behind " + start, x.fullAmount(0, start + 11), 1000);
      Check.same("11 months behind " + start, x.carry(0, start + 11), 0);
      Check.same("12 months behind " + start, x.fullAmount(0, start + 12), 1010);
      Check.same("12 months behind " + start, x.carry(0, start + 12), 1);
      Check.same("23 months behind " + start, x.fullAmount(0, start + 23), 1010);
      Check.same("23 months behind " + start, x.carry(0, start + 23), 1);
      Check.same("24 months behind " + start, x.fullAmount(0, start + 24), 1020);
      Check.same("24 months behind " + start, x.carry(0, start + 24), 2);
    }
  }

  private static void growsInTheLastMonth() {
    JointAnnuity x = new JointAnnuity();
    int[] starts = {11, 226, 227, 228};
    for (int i = 0; i < starts.length; i++) {
      x.add(starts[i], 1000, 0);
      x.setCap(i, 10);
    }
    x.setInflation(18, 30);
    Check.same("228 months behind the start", x.fullAmount(0, 239), 1010);
    Check.same("228 months behind the start", x.carry(0, 239), 20);
    Check.same("227 months behind the start", x.fullAmount(0, 238), 1000);
    Check.same("in the last month but one", x.fullAmount(1, 238), 1010);
    Check.same("in the last month", x.fullAmount(2, 239), 1010);
    Check.same("in the last month", x.carry(2, 239), 20);
    Check.same("it would be behind the last month", x.fullAmount(3, 239), 1000);
    Check.same("it would be behind the last month", x.carry(3, 239), 0);
  }

  // "For a month in the year 0 the inflation of the year before is 0."

  private static void noIncreaseInYear0() {
    JointAnnuity x = Desks.with(0, 1000, 0);
    x.setCap(0, 200);
    Desks.setInflations(x, 100);
    for (int month = 0; month < 12; month++) {
      Check.same("no increase in year 0", x.fullAmount(0, month), 1000);
      Check.same("no carry in year 0", x.carry(0, month), 0);
    }
    Check.same("the first month of year 1", x.fullAmount(0, 12), 1100);
  }

  // "the increase is i plus the carry, but at most the cap"

  private static void increaseIsAtMostTheCap() {
    JointAnnuity x = Desks.with(0, 1000, 0);
    x.setCap(0, 50);
    checkFirstIncrease(x, 49, 1049, 0);
    checkFirstIncrease(x, 50, 1050, 0);
    checkFirstIncrease(x, 51, 1050, 1);
    checkFirstIncrease(x, 300, 1050, 250);
    x.setCap(0, 200);
    checkFirstIncrease(x, 199, 1199, 0);
    checkFirstIncrease(x, 200, 1200, 0);
    checkFirstIncrease(x, 201, 1200, 1);
    x.setCap(0, 0);
    checkFirstIncrease(x, 1, 1000, 1);
    checkFirstIncrease(x, 0, 1000, 0);
    x.setCap(0, 1);
    checkFirstIncrease(x, 1, 1001, 0);
    checkFirstIncrease(x, 2, 1001, 1);
  }

  // "and at least 0", "the carry ... can be below 0"

  private static void increaseIsAtLeast0() {
    JointAnnuity x = Desks.with(0, 1000, 0);
    x.setCap(0, 50);
    checkFirstIncrease(x, 1, 1001, 0);
    checkFirstIncrease(x, 0, 1000, 0);
    checkFirstIncrease(x, -1, 1000, -1);
    checkFirstIncrease(x, -100, 1000, -100);
  }

  private static void checkFirstIncrease(JointAnnuity x, int inflation, int full, int carry) {
    x.setInflation(0, inflation);
    Check.same("full amount by " + inflation, x.fullAmount(0, 12), full);
    Check.same("carry by " + inflation, x.carry(0, 12), carry);
  }

  // "the carry becomes i plus the carry less the increase"

  private static void carryAddsToTheInflation() {
    JointAnnuity x = Desks.with(0, 1000, 0);
    x.setCap(0, 50);
    x.setInflation(0, -20);
    checkSecondIncrease(x, 19, 1000, -1);
    checkSecondIncrease(x, 20, 1000, 0);
    checkSecondIncrease(x, 21, 1001, 0);
    checkSecondIncrease(x, 70, 1050, 0);
    checkSecondIncrease(x, 71, 1050, 1);
    x.setInflation(0, 60);
    checkSecondIncrease(x, 40, 1050 + 52, 0);
    checkSecondIncrease(x, 41, 1050 + 52, 1);
    checkSecondIncrease(x, -10, 1050, 0);
    checkSecondIncrease(x, -11, 1050, -1);
  }

  private static void checkSecondIncrease(JointAnnuity x, int inflation, int full, int carry) {
    x.setInflation(1, inflation);
    Check.same("second full amount by " + inflation, x.fullAmount(0, 24), full);
    Check.same("second carry by " + inflation, x.carry(0, 24), carry);
  }

  private static void carryOfNoCap() {
    JointAnnuity x = Desks.with(0, 100000, 0);
    Desks.setInflations(x, 300);
    Check.same("the largest carry", x.carry(0, 239), 19 * 300);
    Check.same("no increase", x.fullAmount(0, 239), 100000);
    Desks.setInflations(x, -100);
    Check.same("the least carry", x.carry(0, 239), -1900);
    Check.same("no decrease", x.fullAmount(0, 239), 100000);
    x.setCap(0, 200);
    Check.same("the least carry", x.carry(0, 228), -1900);
    Check.same("one year less of it", x.carry(0, 227), -1800);
  }

  // "A life whose death is told for a month is alive in that month, and not in later ones."

  private static void aliveInTheMonthOfDeath() {
    JointAnnuity x = Desks.with(0, 1000, 0);
    x.setSurvivor(0, 50, true);
    Desks.runTo(x, 9);
    x.die(0, 0, 4);
    Check.same("life 0 ahead of it", x.entitled(0, 3), 1000);
    Check.same("life 0 in that month", x.entitled(0, 4), 1000);
    Check.same("life 0 in the next one", x.entitled(0, 5), 500);
    x.die(0, 1, 7);
    Check.same("life 1 ahead of it", x.entitled(0, 6), 500);
    Check.same("life 1 in that month", x.entitled(0, 7), 500);
    Check.same("life 1 in the next one", x.entitled(0, 8), 0);
    x.takeBack(0, 0);
    Check.same("life 1 in that month", x.entitled(0, 7), 1000);
    Check.same("life 1 in the next one", x.entitled(0, 8), 500);
  }

  private static void deathInTheFirstAndLastMonth() {
    JointAnnuity x = Desks.with(0, 1000, 0);
    x.setSurvivor(0, 50, false);
    x.die(0, 0, 0);
    Check.same("alive in month 0", x.entitled(0, 0), 1000);
    Check.same("not in month 1", x.entitled(0, 1), 500);
    x.takeBack(0, 0);
    Desks.runTo(x, 240);
    Desks.tellBothDeaths(x, 0, 239);
    Check.same("alive in month 239", x.entitled(0, 239), 1000);
    Check.same("all was due", x.owes(0), 0);
    x.takeBack(0, 0);
    x.die(0, 0, 238);
    Check.same("alive in month 238", x.entitled(0, 238), 1000);
    Check.same("not in month 239", x.entitled(0, 239), 500);
    Check.same("the last month was too much", x.owes(0), 500);
  }

  private static void deathsAheadOfTheStart() {
    JointAnnuity x = Desks.with(3, 1000, 0);
    x.setSurvivor(0, 50, false);
    Desks.runTo(x, 3);
    x.die(0, 0, 2);
    Check.same("one, in the month ahead of the start", x.entitled(0, 3), 500);
    x.die(0, 1, 3);
    Check.same("the other in the start", x.entitled(0, 3), 500);
    Check.same("behind both", x.entitled(0, 4), 0);
    x.takeBack(0, 1);
    x.die(0, 1, 2);
    Check.same("both ahead of the start", x.entitled(0, 3), 0);
    Check.same("never anything", x.entitledUpTo(0, 239), 0);
    Check.same("nothing is paid", x.run(), 0);
  }

  // "the full amount, if the month is one of the guaranteed term, the first months from the start
  // on"

  private static void guaranteedTermOfNoMonth() {
    JointAnnuity x = Desks.with(1, 1000, 0);
    Desks.tellBothDeaths(x, 0, 0);
    Check.same("not even the start", x.entitled(0, 1), 0);
    Check.same("never", x.entitledUpTo(0, 239), 0);
  }

  private static void guaranteedTermOfOneMonth() {
    JointAnnuity x = Desks.with(1, 1000, 1);
    x.setSurvivor(0, 0, true);
    x.die(0, 0, 0);
    Check.same("ahead of the start", x.entitled(0, 0), 0);
    Check.same("the start, life 1 alone", x.entitled(0, 1), 1000);
    Check.same("behind the term, life 1 alone", x.entitled(0, 2), 0);
    x.die(0, 1, 0);
    Check.same("the start, nobody alive", x.entitled(0, 1), 1000);
    Check.same("behind the term, nobody alive", x.entitled(0, 2), 0);
    x.takeBack(0, 0);
    Check.same("the start, life 0 alone", x.entitled(0, 1), 1000);
    Check.same("behind the term, life 0 alone", x.entitled(0, 2), 0);
  }

  private static void guaranteedTermToTheLastMonth() {
    JointAnnuity x = new JointAnnuity();
    for (int annuity = 0; annuity < 3; annuity++) {
      x.add(100, 1000, 139 + annuity);
      Desks.tellBothDeaths(x, annuity, 0);
    }
    Check.same("the term ends ahead of it", x.entitled(0, 239), 0);
    Check.same("139 months", x.entitledUpTo(0, 239), 139000);
    Check.same("the term ends with it", x.entitled(1, 239), 1000);
    Check.same("140 months", x.entitledUpTo(1, 239), 140000);
    Check.same("the term ends behind it", x.entitled(2, 239), 1000);
    Check.same("no more months", x.entitledUpTo(2, 239), 140000);
  }

  private static void guaranteedTermBehindTheLastMonth() {
    JointAnnuity x = Desks.with(0, 1000, 240);
    x.add(239, 1000, 240);
    x.add(0, 1000, 239);
    for (int annuity = 0; annuity < 3; annuity++) {
      Desks.tellBothDeaths(x, annuity, 0);
    }
    Check.same("240 months from month 0", x.entitledUpTo(0, 239), 240000);
    Check.same("240 months from month 239", x.entitledUpTo(1, 239), 1000);
    Check.same("239 months from month 0", x.entitledUpTo(2, 239), 239000);
    Check.same("239 months from month 0", x.entitled(2, 238), 1000);
    Check.same("behind them", x.entitled(2, 239), 0);
    Desks.runTo(x, 240);
    Check.same("all was due", x.owes(0) + x.owes(1) + x.owes(2), 0);
    Check.same("all was paid", x.paidInAll(0), 240000);
  }

  // "if life 0 alone is alive: the full amount, if it steps only on the death of life 0; if it
  // steps on the first death, full amount * percentage / 100"

  private static void lifeZeroAlone() {
    JointAnnuity x = Desks.with(0, 999, 0);
    x.die(0, 1, 0);
    for (int percent : new int[] {0, 1, 50, 99, 100}) {
      x.setSurvivor(0, percent, false);
      Check.same("steps only on life 0, " + percent, x.entitled(0, 1), 999);
      x.setSurvivor(0, percent, true);
      Check.same("steps on the first, " + percent, x.entitled(0, 1), 999 * percent / 100);
    }
  }

  // "if life 1 alone is alive: full amount * percentage / 100"

  private static void lifeOneAlone() {
    JointAnnuity x = Desks.with(0, 999, 0);
    x.die(0, 0, 0);
    for (int percent : new int[] {0, 1, 50, 99, 100}) {
      x.setSurvivor(0, percent, false);
      Check.same("steps only on life 0, " + percent, x.entitled(0, 1), 999 * percent / 100);
      x.setSurvivor(0, percent, true);
      Check.same("steps on the first, " + percent, x.entitled(0, 1), 999 * percent / 100);
    }
  }

  // "otherwise nothing"

  private static void nobodyAlive() {
    JointAnnuity x = Desks.with(0, 100000, 0);
    Desks.runTo(x, 2);
    Desks.tellBothDeaths(x, 0, 1);
    Check.same("the month of both deaths", x.entitled(0, 1), 100000);
    Check.same("the next one", x.entitled(0, 2), 0);
    Check.same("the last one", x.entitled(0, 239), 0);
    Check.same("nothing to pay", x.run(), 0);
  }

  // "if both deaths are told"

  private static void protectionOnlyIfBothAreTold() {
    JointAnnuity x = Desks.with(1, 1, 0);
    x.protect(0, 10000000, 100);
    Check.same("none", x.protection(0), 0);
    x.die(0, 0, 0);
    Check.same("life 0 alone", x.protection(0), 0);
    x.die(0, 1, 0);
    Check.same("both", x.protection(0), 10000000);
    x.takeBack(0, 0);
    Check.same("life 1 alone", x.protection(0), 0);
    x.takeBack(0, 1);
    Check.same("none any more", x.protection(0), 0);
    Check.same("none any more", x.entitledUpTo(0, 239), 239);
  }

  // "in the first month that is behind both deaths"

  private static void protectionBehindBothDeaths() {
    int[][] deaths = {{2, 5}, {5, 2}, {5, 5}};
    for (int[] each : deaths) {
      JointAnnuity x = Desks.with(0, 100, 0);
      x.protect(0, 10000, 100);
      Desks.runTo(x, 5);
      x.die(0, 0, each[0]);
      x.die(0, 1, each[1]);
      Check.same("both", x.protection(0), 9400);
      Check.same("up to a month ahead", x.entitledUpTo(0, 4), 500);
      Check.same("in the month of the later one", x.entitled(0, 5), 100);
      Check.same("up to there", x.entitledUpTo(0, 5), 600);
      Check.same("behind both", x.entitled(0, 6), 9400);
      Check.same("up to there", x.entitledUpTo(0, 6), 10000);
      Check.same("later", x.entitled(0, 7), 0);
    }
  }

  // "and behind the guaranteed term"

  private static void protectionBehindTheGuaranteedTerm() {
    int[] firstMonths = {3, 3, 3, 4};
    for (int guarantee = 0; guarantee < 4; guarantee++) {
      JointAnnuity x = Desks.with(1, 100, guarantee);
      x.protect(0, 10000, 100);
      x.run();
      x.run();
      Desks.tellBothDeaths(x, 0, 2);
      int first = firstMonths[guarantee];
      int rest = 10000 - (first - 1) * 100;
      Check.same("a term of " + guarantee, x.protection(0), rest);
      Check.same("the month ahead", x.entitled(0, first - 1), 100);
      Check.same("its month", x.entitled(0, first), rest);
      Check.same("the next month", x.entitled(0, first + 1), 0);
    }
  }

  // "and not ahead of the start"

  private static void protectionNotAheadOfTheStart() {
    JointAnnuity x = Desks.with(0, 100, 0);
    for (int start = 1; start <= 3; start++) {
      x.add(start, 100, 0);
      x.protect(start, 10000, 100);
      Desks.tellBothDeaths(x, start, 0);
      Check.same("ahead of the start " + start, x.entitledUpTo(start, 0), 0);
      Check.same("ahead of the start " + start, x.entitledUpTo(start, start - 1), 0);
      Check.same("in the start " + start, x.entitled(start, start), 10000);
      Check.same("all of it", x.protection(start), 10000);
    }
    x.add(3, 100, 1);
    x.protect(4, 10000, 100);
    Desks.tellBothDeaths(x, 4, 0);
    Check.same("the term has the start", x.entitled(4, 3), 100);
    Check.same("behind it", x.entitled(4, 4), 9900);
  }

  private static void protectionInTheLastMonth() {
    JointAnnuity x = new JointAnnuity();
    int[] guarantees = {38, 39, 40, 41, 240};
    for (int annuity = 0; annuity < guarantees.length; annuity++) {
      x.add(200, 100, guarantees[annuity]);
      x.protect(annuity, 10000, 100);
      Desks.tellBothDeaths(x, annuity, 0);
    }
    Check.same("in the last month but one", x.entitled(0, 238), 6200);
    Check.same("in the last month", x.entitled(1, 239), 6100);
    Check.same("in the last month", x.protection(1), 6100);
    for (int annuity = 2; annuity < guarantees.length; annuity++) {
      Check.same("behind all months", x.protection(annuity), 0);
      Check.same("behind all months", x.entitled(annuity, 239), 100);
      Check.same("behind all months", x.entitledUpTo(annuity, 239), 4000);
    }
    JointAnnuity y = Desks.with(239, 100, 0);
    y.protect(0, 10000, 100);
    Desks.runTo(y, 239);
    y.die(0, 0, 0);
    y.die(0, 1, 238);
    Check.same("the death one ahead of the last month", y.protection(0), 10000);
    Check.same("and it is paid", y.run(), 10000);
    y.takeBack(0, 1);
    y.die(0, 1, 239);
    Check.same("the death in the last month", y.protection(0), 0);
    Check.same("it was paid too much", y.owes(0), 9900);
  }

  // "less all that the annuity was entitled to in the months ahead, if that is above 0"

  private static void protectionIfAbove0() {
    JointAnnuity x = Desks.with(0, 100, 3);
    Desks.tellBothDeaths(x, 0, 0);
    checkProtection(x, 299, 0);
    checkProtection(x, 300, 0);
    checkProtection(x, 301, 1);
    checkProtection(x, 0, 0);
    checkProtection(x, 10000000, 9999700);
  }

  private static void checkProtection(JointAnnuity x, int price, int protection) {
    x.protect(0, price, 100);
    Check.same("protection of " + price, x.protection(0), protection);
    Check.same("its month, of " + price, x.entitled(0, 3), protection);
    Check.same("up to it, of " + price, x.entitledUpTo(0, 3), 300 + protection);
  }

  private static void protectionIsPaidOnce() {
    JointAnnuity x = Desks.with(0, 100, 0);
    x.protect(0, 1000, 100);
    Desks.tellBothDeaths(x, 0, 0);
    Check.same("month 0", x.run(), 100);
    Check.same("month 1, the protection", x.run(), 900);
    for (int month = 2; month < 240; month++) {
      Check.same("nothing more", x.run(), 0);
    }
    Check.same("in all", x.paidInAll(0), 1000);
  }

  private static void protectionAndDebtByAnEarlierDeath() {
    JointAnnuity x = Desks.with(0, 100, 0);
    x.protect(0, 1000, 100);
    Desks.runTo(x, 10);
    Desks.tellBothDeaths(x, 0, 0);
    Check.same("what was paid is just what is secured", x.owes(0), 0);
    Check.same("nothing is due", x.run(), 0);
    JointAnnuity y = Desks.with(0, 100, 0);
    y.protect(0, 999, 100);
    Desks.runTo(y, 10);
    Desks.tellBothDeaths(y, 0, 0);
    Check.same("one cent less is secured", y.owes(0), 1);
    JointAnnuity z = Desks.with(0, 100, 0);
    z.protect(0, 1001, 100);
    Desks.runTo(z, 10);
    Desks.tellBothDeaths(z, 0, 0);
    Check.same("one cent more is secured", z.owes(0), 0);
    Check.same("and paid late", z.run(), 1);
  }

  // "When a month is run, each annuity gets what it is entitled to in all months up to this one,
  // less all that it was paid, plus what it gave back, if that is above 0."

  private static void runPaysIfAbove0() {
    JointAnnuity x = Desks.with(0, 100, 0);
    x.setSurvivor(0, 50, false);
    x.add(0, 7, 0);
    Desks.runTo(x, 3);
    x.die(0, 0, 0);
    Check.same("too much was paid", x.owes(0), 100);
    Check.same("below 0, the other alone", x.run(), 7);
    Check.same("still too much", x.owes(0), 50);
    Check.same("just 0, the other alone", x.run(), 7);
    Check.same("set off", x.owes(0), 0);
    Check.same("just 0", x.paid(0, 4), 0);
    Check.same("above 0", x.run(), 57);
    Check.same("above 0", x.paid(0, 5), 50);
  }

  private static void runPaysTheOneCentThatIsMissing() {
    JointAnnuity x = Desks.with(0, 100, 0);
    x.setSurvivor(0, 49, false);
    Desks.runTo(x, 2);
    x.die(0, 0, 0);
    Check.same("51 was too much", x.owes(0), 51);
    Check.same("2 are left of the debt", x.run(), 0);
    Check.same("2 are left of the debt", x.owes(0), 2);
    x.giveBack(0, 1);
    Check.same("1 is left of the debt", x.owes(0), 1);
    Check.same("49 less 1", x.run(), 48);
    x.takeBack(0, 0);
    Check.same("with what was given back", x.run(), 500 - (200 + 48) + 1);
    Check.same("nothing is left", x.owes(0), 0);
  }

  // "An annuity owes what it was paid, less what it gave back, less what it is entitled to in all
  // months that have been run, if that is above 0."

  private static void owesIfAbove0() {
    JointAnnuity x = Desks.with(0, 100, 0);
    x.setCap(0, 20);
    x.setInflation(0, 20);
    Desks.runTo(x, 13);
    Check.same("just 0", x.owes(0), 0);
    x.setInflation(0, 19);
    Check.same("one cent", x.owes(0), 1);
    x.setInflation(0, 20);
    Check.same("just 0", x.owes(0), 0);
    x.setInflation(0, 19);
    Check.same("given back", x.giveBack(0, 1), 0);
    x.setInflation(0, 20);
    Check.same("below 0", x.owes(0), 0);
    Check.same("what is missing is paid", x.run(), 103);
  }

  private static void owesOnlyByMonthsRun() {
    JointAnnuity x = Desks.with(0, 100, 0);
    Check.same("no month has been run", x.owes(0), 0);
    x.run();
    x.setSurvivor(x.add(1, 100, 0), 50, false);
    Desks.tellBothDeaths(x, 1, 0);
    Check.same("an annuity that has not begun", x.owes(1), 0);
    Desks.runTo(x, 3);
    x.die(0, 0, 0);
    x.die(0, 1, 1);
    Check.same("the month that goes on does not count", x.owes(0), 100);
    JointAnnuity y = Desks.with(0, 100, 240);
    Desks.tellBothDeaths(y, 0, 0);
    Desks.runTo(y, 240);
    Check.same("all months run, all was due", y.owes(0), 0);
    JointAnnuity z = Desks.with(0, 100, 239);
    Desks.runTo(z, 240);
    Desks.tellBothDeaths(z, 0, 0);
    Check.same("all months run, the last was too much", z.owes(0), 100);
  }
}
