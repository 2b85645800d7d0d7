/**
 * What each call answers and does at its limits: no annuity and 20, the first and the last month,
 * all months run, the least and the largest value of each argument, the largest sums, and the last
 * call of an object.
 */
public final class LimitsTest {
  public static void main(String[] args) {
    newObjectHasNoAnnuities();
    newObjectIsInMonth0();
    addReturnsNumbers();
    addTakesTheLeastAndTheLargest();
    addInEachMonthFromTheOneThatGoesOn();
    setSurvivorAtItsLimits();
    setCapAtItsLimits();
    protectAtItsLimits();
    setInflationReturnsWhatWasToldBefore();
    setInflationOfAYearThatIsOver();
    setInflationWithoutAnnuitiesHoldsForLaterOnes();
    dieFromMonth0ToTheOneThatGoesOn();
    dieWhenAllMonthsHaveBeenRun();
    takeBackReturnsItsMonth();
    takeBackWhenAllMonthsHaveBeenRun();
    runWithoutAnnuities();
    runWith20Annuities();
    runPaysMoreThanAnIntHolds();
    monthFrom0To240();
    giveBackToJust0();
    giveBackTheLargestAmount();
    giveBackWhenAllMonthsHaveBeenRun();
    paidIsOfEachMonth();
    paidIs0IfThereWasNoSuchAnnuityThen();
    paidInAllFrom0();
    paidInAllOfTheLargest();
    owesAtItsLimits();
    fullAmountOfTheLeastAndTheLargest();
    carryAtItsLimits();
    entitledAtItsLimits();
    entitledUpToAtItsLimits();
    protectionAtItsLimits();
    theLast512thCall();
    Check.close("LimitsTest");
  }

  /** The largest annuity that can be: amount, cap and inflations are the largest. */
  private static JointAnnuity largest(int annuities) {
    JointAnnuity x = new JointAnnuity();
    for (int annuity = 0; annuity < annuities; annuity++) {
      x.add(0, 100000, 0);
      x.setCap(annuity, 200);
    }
    Desks.setInflations(x, 200);
    return x;
  }

  private static long largestFullAmount(int year) {
    long full = 100000;
    for (int i = 0; i < year; i++) {
      full += full * 200 / 1000;
    }
    return full;
  }

  private static long largestUpTo(int month) {
    long sum = 0;
    for (int i = 0; i <= month; i++) {
      sum += largestFullAmount(i / 12);
    }
    return sum;
  }

  // Promise 1: "No annuities; month 0 goes on."

  private static void newObjectHasNoAnnuities() {
    JointAnnuity x = new JointAnnuity();
    Check.noIndex("1 setSurvivor", () -> x.setSurvivor(0, 0, false));
    Check.noIndex("1 setCap", () -> x.setCap(0, 0));
    Check.noIndex("1 protect", () -> x.protect(0, 0, 0));
    Check.noIndex("1 die", () -> x.die(0, 0, 0));
    Check.noIndex("1 takeBack", () -> x.takeBack(0, 0));
    Check.noIndex("1 giveBack", () -> x.giveBack(0, 1));
    Check.noIndex("1 paid", () -> x.paid(0, 0));
    Check.noIndex("1 paidInAll", () -> x.paidInAll(0));
    Check.noIndex("1 owes", () -> x.owes(0));
    Check.noIndex("1 fullAmount", () -> x.fullAmount(0, 0));
    Check.noIndex("1 carry", () -> x.carry(0, 0));
    Check.noIndex("1 entitled", () -> x.entitled(0, 0));
    Check.noIndex("1 entitledUpTo", () -> x.entitledUpTo(0, 0));
    Check.noIndex("1 protection", () -> x.protection(0));
    Check.same("1 the first annuity", x.add(0, 1, 0), 0);
  }

  private static void newObjectIsInMonth0() {
    JointAnnuity x = new JointAnnuity();
    Check.same("1 month 0 goes on", x.month(), 0);
    Check.same("1 still", x.month(), 0);
    JointAnnuity y = new JointAnnuity();
    y.run();
    y.setInflation(3, 5);
    Check.same("1 objects are apart", x.month(), 0);
    Check.same("1 objects are apart", x.setInflation(3, 0), 0);
  }

  // Promise 2: "Returns its number."

  private static void addReturnsNumbers() {
    JointAnnuity x = new JointAnnuity();
    for (int i = 0; i < 20; i++) {
      Check.same("2 number", x.add(239, 1, 240), i);
    }
    Check.badState("2 the 21st", () -> x.add(239, 1, 240));
    JointAnnuity y = new JointAnnuity();
    Check.badArgument("2 refused", () -> y.add(0, 0, 0));
    Check.same("2 a refused one takes no number", y.add(0, 1, 0), 0);
    Check.badArgument("2 refused", () -> y.add(240, 1, 0));
    Check.same("2 a refused one takes no number", y.add(0, 1, 0), 1);
  }

  // "amount: 1 to 100000", "start: ... to 239", "guarantee: 0 to 240"

  private static void addTakesTheLeastAndTheLargest() {
    JointAnnuity x = new JointAnnuity();
    x.add(0, 1, 0);
    x.add(239, 100000, 240);
    Check.same("2 the least amount", x.entitled(0, 0), 1);
    Check.same("2 the largest amount", x.entitled(1, 239), 100000);
    Check.same("2 the least start is run", x.run(), 1);
    Desks.runTo(x, 239);
    Check.same("2 the largest start is run", x.run(), 100001);
  }

  // "start: from the month that goes on to 239"

  private static void addInEachMonthFromTheOneThatGoesOn() {
    JointAnnuity x = new JointAnnuity();
    for (int month = 0; month < 240; month++) {
      int behind = month - 1;
      Check.badArgument("2 start was run", () -> x.add(behind, 1, 0));
      if (month % 12 == 11) {
        Check.same("2 start goes on", x.add(month, 1, 0), month / 12);
      }
      x.run();
    }
    Check.same("2 there are 20", x.paid(19, 239), 1);
  }

  // Promise 3: "percent: 0 to 100"

  private static void setSurvivorAtItsLimits() {
    JointAnnuity x = largest(1);
    x.die(0, 0, 0);
    long full = largestFullAmount(19);
    x.setSurvivor(0, 0, true);
    Check.same("3 nothing", x.entitled(0, 239), 0);
    x.setSurvivor(0, 1, true);
    Check.same("3 the least share", x.entitled(0, 239), full / 100);
    x.setSurvivor(0, 99, true);
    Check.same("3 nearly all", x.entitled(0, 239), full * 99 / 100);
    x.setSurvivor(0, 100, true);
    Check.same("3 all", x.entitled(0, 239), full);
  }

  // Promise 4: "cap: 0 to 200"

  private static void setCapAtItsLimits() {
    JointAnnuity x = Desks.with(0, 1000, 0);
    x.setInflation(0, 300);
    x.setCap(0, 200);
    Check.same("4 the largest cap", x.fullAmount(0, 12), 1200);
    Check.same("4 the largest cap", x.carry(0, 12), 100);
    Check.same("4 the rest a year later", x.fullAmount(0, 24), 1320);
    x.setCap(0, 0);
    Check.same("4 the least cap", x.fullAmount(0, 12), 1000);
    Check.same("4 the least cap", x.carry(0, 239), 300);
  }

  // Promise 5: "price: 0 to 10000000", "percent: 0 to 100"

  private static void protectAtItsLimits() {
    JointAnnuity x = Desks.with(1, 1, 0);
    Desks.tellBothDeaths(x, 0, 0);
    x.protect(0, 10000000, 100);
    Check.same("5 the largest", x.protection(0), 10000000);
    x.protect(0, 9999999, 99);
    Check.same("5 no wrap-around", x.protection(0), 9899999);
    x.protect(0, 10000000, 1);
    Check.same("5 percent 1", x.protection(0), 100000);
    x.protect(0, 10000000, 0);
    Check.same("5 percent 0", x.protection(0), 0);
    x.protect(0, 1, 100);
    Check.same("5 price 1", x.protection(0), 1);
    x.protect(0, 0, 100);
    Check.same("5 price 0", x.protection(0), 0);
  }

  // Promise 6: "Returns what was told before; 0 at first."

  private static void setInflationReturnsWhatWasToldBefore() {
    JointAnnuity x = new JointAnnuity();
    for (int year = 0; year < 20; year++) {
      Check.same("6 at first", x.setInflation(year, -100), 0);
    }
    for (int year = 0; year < 20; year++) {
      Check.same("6 the least", x.setInflation(year, 300), -100);
    }
    for (int year = 0; year < 20; year++) {
      Check.same("6 the largest", x.setInflation(year, year), 300);
    }
    Check.badArgument("6 refused", () -> x.setInflation(7, 301));
    for (int year = 0; year < 20; year++) {
      Check.same("6 each year its own", x.setInflation(year, 0), year);
    }
  }

  // "also of one that is over"

  private static void setInflationOfAYearThatIsOver() {
    JointAnnuity x = Desks.with(0, 1000, 0);
    x.setCap(0, 200);
    Desks.runTo(x, 239);
    Check.same("6 year 0 is over", x.setInflation(0, 100), 0);
    Check.same("6 what was missing", x.run(), 227 * 100 + 1100);
    x.setInflation(0, 0);
    Check.same("6 all months are over", x.owes(0), 228 * 100);
    Check.same("6 the last year is over", x.setInflation(19, 300), 0);
    Check.same("6 no month follows it", x.fullAmount(0, 239), 1000);
    Check.same("6 year 18 is over", x.setInflation(18, 300), 0);
    Check.same("6 the last 12 months follow it", x.owes(0), 228 * 100 - 12 * 200);
  }

  private static void setInflationWithoutAnnuitiesHoldsForLaterOnes() {
    JointAnnuity x = new JointAnnuity();
    x.setInflation(0, 200);
    x.add(0, 1000, 0);
    Check.same("6 no cap, all carried", x.carry(0, 12), 200);
    x.setCap(0, 150);
    Check.same("6 told ahead of the annuity", x.fullAmount(0, 12), 1150);
    Check.same("6 told ahead of the annuity", x.carry(0, 12), 50);
  }

  // Promise 7: "month: 0 to the month that goes on, at most 239"

  private static void dieFromMonth0ToTheOneThatGoesOn() {
    JointAnnuity x = Desks.with(0, 1, 0);
    for (int month = 0; month < 240; month += 1) {
      int next = month + 1;
      if (month < 3 || month > 236) {
        Check.badArgument("7 month 0 is the first", () -> x.die(0, 0, -1));
        Check.badArgument("7 a month to come", () -> x.die(0, 0, next));
        x.die(0, 0, 0);
        x.die(0, 1, month);
        Check.same("7 month 0", x.takeBack(0, 0), 0);
        Check.same("7 the month that goes on", x.takeBack(0, 1), month);
      }
      x.run();
    }
  }

  private static void dieWhenAllMonthsHaveBeenRun() {
    JointAnnuity x = Desks.with(0, 1000, 0);
    Desks.runTo(x, 240);
    Check.badArgument("7 240 is no month", () -> x.die(0, 0, 240));
    x.die(0, 0, 239);
    Check.same("7 at most 239", x.takeBack(0, 0), 239);
    Desks.tellBothDeaths(x, 0, 0);
    Check.same("7 all but month 0 was too much", x.owes(0), 239000);
  }

  // Promise 8: "Returns the month for which it was told."

  private static void takeBackReturnsItsMonth() {
    JointAnnuity x = Desks.with(239, 1, 0);
    x.die(0, 0, 0);
    Check.same("8 month 0", x.takeBack(0, 0), 0);
    Desks.runTo(x, 239);
    x.die(0, 0, 239);
    x.die(0, 1, 238);
    Check.same("8 month 238", x.takeBack(0, 1), 238);
    Check.same("8 month 239", x.takeBack(0, 0), 239);
    Check.badState("8 no more", () -> x.takeBack(0, 0));
    Check.badState("8 no more", () -> x.takeBack(0, 1));
  }

  private static void takeBackWhenAllMonthsHaveBeenRun() {
    JointAnnuity x = Desks.with(0, 1000, 0);
    Desks.tellBothDeaths(x, 0, 0);
    Desks.runTo(x, 240);
    Check.same("8 one month was paid", x.paidInAll(0), 1000);
    Check.same("8 month 0", x.takeBack(0, 0), 0);
    Check.same("8 entitled again", x.entitledUpTo(0, 239), 240000);
    Check.same("8 nothing owed", x.owes(0), 0);
    Check.badState("8 but no month is left to pay it", () -> x.run());
  }

  // Promise 9: "Returns what is paid to all annuities, together."

  private static void runWithoutAnnuities() {
    JointAnnuity x = new JointAnnuity();
    for (int month = 0; month < 240; month++) {
      Check.same("9 nothing to pay", x.run(), 0);
    }
    Check.badState("9 all months have been run", () -> x.run());
    Check.same("9 all months have been run", x.month(), 240);
  }

  private static void runWith20Annuities() {
    JointAnnuity x = new JointAnnuity();
    for (int annuity = 0; annuity < 20; annuity++) {
      x.add(annuity, 1 << annuity % 10, 0);
    }
    long due = 0;
    for (int month = 0; month < 20; month++) {
      due += 1 << month % 10;
      Check.same("9 one more begins", x.run(), due);
    }
    Desks.runTo(x, 239);
    Check.same("9 all of them in the last month", x.run(), 2 * 1023);
    Check.badState("9 all months have been run", () -> x.run());
  }

  private static void runPaysMoreThanAnIntHolds() {
    JointAnnuity x = largest(20);
    for (int annuity = 0; annuity < 20; annuity++) {
      Desks.tellBothDeaths(x, annuity, 0);
    }
    Desks.runTo(x, 239);
    for (int annuity = 0; annuity < 20; annuity++) {
      x.takeBack(annuity, 0);
    }
    long each = largestUpTo(239) - 100000;
    Check.same("9 the largest sum, without a wrap-around", x.run(), 20 * each);
    Check.same("9 of each", x.paid(19, 239), each);
  }

  // Promise 10: "Returns the month that goes on; 240 if all have been run."

  private static void monthFrom0To240() {
    JointAnnuity x = new JointAnnuity();
    for (int month = 0; month < 240; month++) {
      Check.same("10 the month that goes on", x.month(), month);
      x.run();
    }
    Check.same("10 all have been run", x.month(), 240);
    Check.badState("10 none is left", () -> x.run());
    Check.same("10 all have been run", x.month(), 240);
  }

  // Promise 11: "Returns what it owes then."

  private static void giveBackToJust0() {
    JointAnnuity x = Desks.with(0, 3, 0);
    Desks.runTo(x, 2);
    Desks.tellBothDeaths(x, 0, 0);
    Check.badState("11 one cent more than it owes", () -> x.giveBack(0, 4));
    Check.same("11 one cent", x.giveBack(0, 1), 2);
    Check.badState("11 one cent more than it owes", () -> x.giveBack(0, 3));
    Check.same("11 all of it", x.giveBack(0, 2), 0);
    Check.badState("11 it owes nothing", () -> x.giveBack(0, 1));
    Check.same("11 it owes nothing", x.owes(0), 0);
    Check.same("11 what it is entitled to is left", x.paidInAll(0), 3);
  }

  // "amount: 1 to 100000000"

  private static void giveBackTheLargestAmount() {
    JointAnnuity x = largest(1);
    Desks.runTo(x, 240);
    Desks.tellBothDeaths(x, 0, 0);
    long debt = largestUpTo(239) - 100000;
    Check.same("11 it owes", x.owes(0), debt);
    Check.badArgument("11 too much at once", () -> x.giveBack(0, 100000001));
    Check.same("11 the largest amount", x.giveBack(0, 100000000), debt - 100000000);
    Check.same("11 once more", x.giveBack(0, 100000000), debt - 200000000);
    Check.badState("11 it owes less", () -> x.giveBack(0, 100000000));
    Check.same("11 the rest", x.giveBack(0, (int) (debt - 200000000)), 0);
    Check.same("11 only month 0 is left", x.paidInAll(0), 100000);
  }

  private static void giveBackWhenAllMonthsHaveBeenRun() {
    JointAnnuity x = Desks.with(239, 100, 0);
    Desks.runTo(x, 240);
    Desks.tellBothDeaths(x, 0, 0);
    Check.same("11 the last month was too much", x.giveBack(0, 99), 1);
    Check.same("11 nothing is left", x.giveBack(0, 1), 0);
    Check.same("11 nothing is left", x.paidInAll(0), 0);
    Check.same("11 it was paid all the same", x.paid(0, 239), 100);
  }

  // Promise 12: "Returns what an annuity was paid in a month that has been run"

  private static void paidIsOfEachMonth() {
    JointAnnuity x = Desks.with(1, 1, 0);
    x.setCap(0, 200);
    Desks.runTo(x, 240);
    Check.same("12 month 0, ahead of the start", x.paid(0, 0), 0);
    Check.same("12 the start", x.paid(0, 1), 1);
    Check.same("12 the last month", x.paid(0, 239), 1);
    Desks.tellBothDeaths(x, 0, 0);
    Check.same("12 it was paid though not due", x.paid(0, 239), 1);
  }

  // "0 if there was no such annuity then"

  private static void paidIs0IfThereWasNoSuchAnnuityThen() {
    JointAnnuity x = new JointAnnuity();
    Desks.runTo(x, 239);
    x.add(239, 100, 0);
    Check.same("12 the first month", x.paid(0, 0), 0);
    Check.same("12 the month that was run last", x.paid(0, 238), 0);
    Check.badArgument("12 the month that goes on", () -> x.paid(0, 239));
    x.run();
    Check.same("12 still", x.paid(0, 238), 0);
    Check.same("12 the month of its start", x.paid(0, 239), 100);
  }

  // Promise 13: "Returns all that an annuity was paid, less what it gave back."

  private static void paidInAllFrom0() {
    JointAnnuity x = Desks.with(1, 100, 0);
    Check.same("13 nothing", x.paidInAll(0), 0);
    x.run();
    Check.same("13 nothing ahead of the start", x.paidInAll(0), 0);
    x.run();
    Check.same("13 the start", x.paidInAll(0), 100);
    Desks.tellBothDeaths(x, 0, 0);
    Check.same("13 owing does not change it", x.paidInAll(0), 100);
    x.giveBack(0, 100);
    Check.same("13 all was given back", x.paidInAll(0), 0);
    x.takeBack(0, 0);
    Check.same("13 not yet", x.paidInAll(0), 0);
    x.run();
    Check.same("13 paid once more", x.paidInAll(0), 200);
  }

  private static void paidInAllOfTheLargest() {
    JointAnnuity x = largest(1);
    Desks.runTo(x, 240);
    Check.same("13 the largest", x.paidInAll(0), largestUpTo(239));
    Check.same("13 the largest month", x.paid(0, 239), largestFullAmount(19));
  }

  // Promise 14: "Returns what an annuity owes."

  private static void owesAtItsLimits() {
    JointAnnuity x = largest(1);
    Check.same("14 no month run", x.owes(0), 0);
    Desks.runTo(x, 240);
    Check.same("14 all months run", x.owes(0), 0);
    x.die(0, 0, 239);
    x.die(0, 1, 238);
    Check.same("14 life 1 is alive in the last month but one", x.owes(0), 0);
    x.takeBack(0, 0);
    x.die(0, 0, 238);
    Check.same("14 the last month", x.owes(0), largestFullAmount(19));
    x.takeBack(0, 0);
    x.takeBack(0, 1);
    Desks.tellBothDeaths(x, 0, 0);
    Check.same("14 the most", x.owes(0), largestUpTo(239) - 100000);
  }

  // Promise 15: "0 ahead of its start"

  private static void fullAmountOfTheLeastAndTheLargest() {
    JointAnnuity x = largest(1);
    for (int year = 0; year < 20; year++) {
      long due = largestFullAmount(year);
      Check.same("15 the first month of " + year, x.fullAmount(0, 12 * year), due);
      Check.same("15 the last month of " + year, x.fullAmount(0, 12 * year + 11), due);
    }
    Desks.setInflations(x, 300);
    Check.same("15 no more than the cap", x.fullAmount(0, 239), largestFullAmount(19));
    x.add(0, 1, 0);
    x.setCap(1, 200);
    Check.same("15 the least never grows", x.fullAmount(1, 239), 1);
    x.add(239, 1, 0);
    Check.same("15 ahead of its start", x.fullAmount(2, 0), 0);
    Check.same("15 ahead of its start", x.fullAmount(2, 238), 0);
    Check.same("15 at its start", x.fullAmount(2, 239), 1);
  }

  // Promise 16: "0 ahead of its start"

  private static void carryAtItsLimits() {
    JointAnnuity x = Desks.with(13, 1, 0);
    Desks.setInflations(x, 300);
    Check.same("16 month 0", x.carry(0, 0), 0);
    Check.same("16 ahead of its start", x.carry(0, 12), 0);
    Check.same("16 its first 12 months", x.carry(0, 24), 0);
    Check.same("16 12 months behind it", x.carry(0, 25), 300);
    Check.same("16 the last month", x.carry(0, 239), 18 * 300);
    Desks.setInflations(x, -100);
    Check.same("16 ahead of its start", x.carry(0, 12), 0);
    Check.same("16 12 months behind it", x.carry(0, 25), -100);
    Check.same("16 the last month", x.carry(0, 239), -1800);
  }

  // Promise 17: "the protection included; 0 ahead of its start"

  private static void entitledAtItsLimits() {
    JointAnnuity x = largest(1);
    Check.same("17 the largest", x.entitled(0, 239), largestFullAmount(19));
    x.add(239, 1, 240);
    Check.same("17 month 0, ahead of its start", x.entitled(1, 0), 0);
    Check.same("17 ahead of its start", x.entitled(1, 238), 0);
    Check.same("17 its start", x.entitled(1, 239), 1);
    x.add(1, 1, 0);
    x.protect(2, 10000000, 100);
    Desks.tellBothDeaths(x, 2, 0);
    Check.same("17 ahead of the protection", x.entitled(2, 0), 0);
    Check.same("17 the protection included", x.entitled(2, 1), 10000000);
    Check.same("17 behind it", x.entitled(2, 2), 0);
    Check.same("17 behind it", x.entitled(2, 239), 0);
  }

  // Promise 18: "in all months up to one, that one included"

  private static void entitledUpToAtItsLimits() {
    JointAnnuity x = largest(1);
    Check.same("18 month 0 included", x.entitledUpTo(0, 0), 100000);
    Check.same("18 two months", x.entitledUpTo(0, 1), 200000);
    Check.same("18 the first year", x.entitledUpTo(0, 11), 1200000);
    Check.same("18 month 12 included", x.entitledUpTo(0, 12), 1320000);
    Check.same("18 the last month left out", x.entitledUpTo(0, 238), largestUpTo(238));
    Check.same("18 the last month included", x.entitledUpTo(0, 239), largestUpTo(239));
    x.add(1, 1, 0);
    x.protect(1, 10000000, 100);
    Desks.tellBothDeaths(x, 1, 0);
    Check.same("18 ahead of the protection", x.entitledUpTo(1, 0), 0);
    Check.same("18 the protection included", x.entitledUpTo(1, 1), 10000000);
    Check.same("18 to the end", x.entitledUpTo(1, 239), 10000000);
  }

  // Promise 19: "0 if it is not paid in one of the months 0 to 239"

  private static void protectionAtItsLimits() {
    JointAnnuity x = new JointAnnuity();
    int[] guarantees = {0, 1, 239, 240};
    long[] due = {9999999, 9999999, 9999761, 0};
    for (int annuity = 0; annuity < 4; annuity++) {
      x.add(0, 1, guarantees[annuity]);
      x.protect(annuity, 10000000, 100);
      Desks.tellBothDeaths(x, annuity, 0);
      Check.same("19 a term of " + guarantees[annuity], x.protection(annuity), due[annuity]);
    }
    x.add(239, 1, 0);
    x.protect(4, 10000000, 100);
    Desks.tellBothDeaths(x, 4, 0);
    Check.same("19 the start is the last month", x.protection(4), 10000000);
    int[] terms = {1, 2, 240};
    for (int i = 0; i < terms.length; i++) {
      x.add(239, 1, terms[i]);
      x.protect(5 + i, 10000000, 100);
      Desks.tellBothDeaths(x, 5 + i, 0);
      Check.same("19 the term has the last month", x.protection(5 + i), 0);
      Check.same("19 no protection in it", x.entitledUpTo(5 + i, 239), 1);
    }
  }

  // "An object is used for at most 512 calls after it has been made"

  private static void theLast512thCall() {
    JointAnnuity x = new JointAnnuity();
    int calls = 0;
    for (; calls < 20; calls++) {
      x.add(0, 100000, 240);
    }
    for (; calls < 20 + 239; calls++) {
      x.run();
    }
    while (calls < 511) {
      Check.same("earlier calls", x.entitledUpTo(19, 239), 24000000);
      calls++;
    }
    Check.same("the 512th call", x.run(), 2000000);
  }
}
