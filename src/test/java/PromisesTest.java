/** The promises one by one: ordinary inputs, the edges that the document names, wrong inputs. */
public final class PromisesTest {
  private static final int[] BELOW_AND_ABOVE = {Integer.MIN_VALUE, -1, 20, Integer.MAX_VALUE};

  public static void main(String[] args) {
    newObject();
    addNumbersAndTerms();
    addRefuses();
    setSurvivorSteps();
    setSurvivorRefuses();
    setCapHolds();
    setCapRefuses();
    protectSecures();
    protectRefuses();
    setInflationTells();
    setInflationReachesBack();
    setInflationRefuses();
    dieTells();
    dieRefuses();
    takeBackUndoes();
    takeBackRefuses();
    runPays();
    runPaysWhatIsMissing();
    runEnds();
    monthCounts();
    giveBackLowersTheDebt();
    giveBackRefuses();
    paidTellsEachMonth();
    paidRefuses();
    paidInAllSums();
    owesWhatWasTooMuch();
    fullAmountGrows();
    carryCarries();
    entitledByWhoIsAlive();
    entitledUpToSums();
    protectionIsFound();
    protectionWaits();
    queriesRefuse();
    throwingChangesNothing();
    Check.close("PromisesTest");
  }

  // Promise 1

  private static void newObject() {
    JointAnnuity x = new JointAnnuity();
    Check.same("1 month", x.month(), 0);
    Check.noIndex("1 owes(0)", () -> x.owes(0));
    Check.same("1 inflation", x.setInflation(0, 0), 0);
    Check.same("1 inflation", x.setInflation(19, 0), 0);
    Check.same("1 run of nothing", x.run(), 0);
    JointAnnuity other = new JointAnnuity();
    x.add(5, 1, 0);
    Check.noIndex("1 objects are apart", () -> other.owes(0));
    Check.same("1 objects are apart", other.month(), 0);
  }

  // Promise 2

  private static void addNumbersAndTerms() {
    JointAnnuity x = new JointAnnuity();
    for (int i = 0; i < 20; i++) {
      Check.same("2 number", x.add(i, 100 + i, 0), i);
    }
    Check.badState("2 the 21st", () -> x.add(0, 1, 0));
    Check.badArgument("2 wrong and full", () -> x.add(0, 0, 0));
    Check.same("2 the last one stands", x.fullAmount(19, 19), 119);
    JointAnnuity y = Desks.with(239, 100000, 240);
    Check.same("2 largest", y.entitledUpTo(0, 239), 100000);
    Check.same("2 largest", y.entitledUpTo(0, 238), 0);
    Check.same("2 terms at first: cap", y.add(0, 1000, 0), 1);
    y.setInflation(0, 300);
    Check.same("2 cap 0 at first", y.fullAmount(1, 12), 1000);
    y.die(1, 1, 0);
    Check.same("2 steps only on life 0 at first", y.entitled(1, 1), 1000);
    y.die(0, 0, 0);
    Check.same("2 whole percentage at first", y.entitled(0, 239), 100000);
    y.die(1, 0, 0);
    Check.same("2 no protection at first", y.protection(1), 0);
    JointAnnuity z = Desks.with(0, 1000, 0);
    z.die(0, 0, 0);
    Check.same("2 100 percent at first", z.entitled(0, 1), 1000);
  }

  private static void addRefuses() {
    JointAnnuity x = new JointAnnuity();
    Check.badArgument("2 start", () -> x.add(-1, 1, 0));
    Check.badArgument("2 start", () -> x.add(240, 1, 0));
    Check.badArgument("2 start", () -> x.add(Integer.MIN_VALUE, 1, 0));
    Check.badArgument("2 amount", () -> x.add(0, 0, 0));
    Check.badArgument("2 amount", () -> x.add(0, 100001, 0));
    Check.badArgument("2 guarantee", () -> x.add(0, 1, -1));
    Check.badArgument("2 guarantee", () -> x.add(0, 1, 241));
    Check.badArgument("2 guarantee", () -> x.add(0, 1, Integer.MAX_VALUE));
    Check.same("2 none was added", x.add(0, 1, 0), 0);
    x.run();
    x.run();
    Check.badArgument("2 start has been run", () -> x.add(1, 1, 0));
    Check.same("2 start is the month that goes on", x.add(2, 1, 0), 1);
    Desks.runTo(x, 240);
    Check.badArgument("2 behind the last month", () -> x.add(239, 1, 0));
    Check.badArgument("2 behind the last month", () -> x.add(240, 1, 0));
  }

  // Promise 3

  private static void setSurvivorSteps() {
    JointAnnuity x = Desks.with(0, 999, 0);
    x.setSurvivor(0, 50, true);
    x.die(0, 1, 0);
    Check.same("3 in the month of death", x.entitled(0, 0), 999);
    Check.same("3 rounded down", x.entitled(0, 1), 499);
    x.setSurvivor(0, 50, false);
    Check.same("3 not on the death of life 1", x.entitled(0, 1), 999);
    x.takeBack(0, 1);
    x.die(0, 0, 0);
    Check.same("3 on the death of life 0", x.entitled(0, 1), 499);
    x.setSurvivor(0, 0, true);
    Check.same("3 percent 0", x.entitled(0, 1), 0);
    x.setSurvivor(0, 100, true);
    Check.same("3 percent 100", x.entitled(0, 1), 999);
    x.add(0, 500, 0);
    Check.same("3 only this one", x.entitled(1, 1), 500);
  }

  private static void setSurvivorRefuses() {
    JointAnnuity x = Desks.with(1, 1000, 0);
    Check.noIndex("3 before percent", () -> x.setSurvivor(1, 101, true));
    Check.noIndex("3 annuity", () -> x.setSurvivor(-1, 1, true));
    Check.badArgument("3 percent", () -> x.setSurvivor(0, -1, true));
    Check.badArgument("3 percent", () -> x.setSurvivor(0, 101, true));
    x.run();
    x.setSurvivor(0, 10, false);
    x.run();
    Check.badState("3 start run", () -> x.setSurvivor(0, 10, false));
    Check.badArgument("3 percent before start run", () -> x.setSurvivor(0, 101, false));
    Check.noIndex("3 annuity before start run", () -> x.setSurvivor(1, 1, true));
  }

  // Promise 4

  private static void setCapHolds() {
    JointAnnuity x = Desks.with(0, 1000, 0);
    x.setInflation(0, 300);
    x.setCap(0, 200);
    Check.same("4 cap 200", x.fullAmount(0, 12), 1200);
    Check.same("4 cap 200 carries", x.carry(0, 12), 100);
    x.setCap(0, 1);
    Check.same("4 cap 1", x.fullAmount(0, 12), 1001);
    x.setCap(0, 0);
    Check.same("4 cap 0", x.fullAmount(0, 12), 1000);
    Check.same("4 cap 0 carries", x.carry(0, 12), 300);
  }

  private static void setCapRefuses() {
    JointAnnuity x = Desks.with(1, 1000, 0);
    Check.noIndex("4 before cap", () -> x.setCap(1, 201));
    Check.noIndex("4 annuity", () -> x.setCap(-1, 0));
    Check.badArgument("4 cap", () -> x.setCap(0, -1));
    Check.badArgument("4 cap", () -> x.setCap(0, 201));
    x.run();
    x.setCap(0, 3);
    x.run();
    Check.badState("4 start run", () -> x.setCap(0, 3));
    Check.badArgument("4 cap before start run", () -> x.setCap(0, 201));
    Check.noIndex("4 annuity before start run", () -> x.setCap(1, 1));
  }

  // Promise 5

  private static void protectSecures() {
    JointAnnuity x = Desks.with(0, 100, 0);
    x.die(0, 0, 0);
    x.die(0, 1, 0);
    x.protect(0, 999, 50);
    Check.same("5 rounded down, less the month ahead", x.protection(0), 399);
    x.protect(0, 10000000, 100);
    Check.same("5 largest", x.protection(0), 9999900);
    x.protect(0, 100, 100);
    Check.same("5 used up", x.protection(0), 0);
    x.protect(0, 101, 100);
    Check.same("5 one above", x.protection(0), 1);
    x.protect(0, 0, 100);
    Check.same("5 never below 0", x.protection(0), 0);
    x.protect(0, 10000000, 1);
    Check.same("5 percent 1", x.protection(0), 99900);
    x.protect(0, 10000000, 0);
    Check.same("5 percent 0", x.protection(0), 0);
  }

  private static void protectRefuses() {
    JointAnnuity x = Desks.with(1, 1000, 0);
    Check.noIndex("5 before price", () -> x.protect(1, -1, 0));
    Check.noIndex("5 annuity", () -> x.protect(-1, 0, 0));
    Check.badArgument("5 price", () -> x.protect(0, -1, 0));
    Check.badArgument("5 price", () -> x.protect(0, 10000001, 0));
    Check.badArgument("5 percent", () -> x.protect(0, 0, -1));
    Check.badArgument("5 percent", () -> x.protect(0, 0, 101));
    x.run();
    x.protect(0, 1, 1);
    x.run();
    Check.badState("5 start run", () -> x.protect(0, 1, 1));
    Check.badArgument("5 price before start run", () -> x.protect(0, -1, 1));
    Check.badArgument("5 percent before start run", () -> x.protect(0, 1, 101));
    Check.noIndex("5 annuity before start run", () -> x.protect(1, 1, 1));
  }

  // Promise 6

  private static void setInflationTells() {
    JointAnnuity x = new JointAnnuity();
    Check.same("6 at first", x.setInflation(0, 300), 0);
    Check.same("6 before", x.setInflation(0, -100), 300);
    Check.same("6 before", x.setInflation(0, 7), -100);
    Check.same("6 another year", x.setInflation(19, 5), 0);
    Check.same("6 another year", x.setInflation(19, 6), 5);
    Check.same("6 not touched", x.setInflation(0, 7), 7);
  }

  private static void setInflationReachesBack() {
    JointAnnuity x = Desks.with(0, 1000, 0);
    x.setCap(0, 100);
    x.add(12, 500, 0);
    x.setCap(1, 100);
    Desks.runTo(x, 14);
    x.setInflation(0, 50);
    Check.same("6 a year that is over", x.fullAmount(0, 12), 1050);
    Check.same("6 what was missing", x.run(), 1050 + 50 + 50 + 500);
    x.setInflation(0, 20);
    Check.same("6 less than told", x.owes(0), 90);
    Check.same("6 not its year", x.fullAmount(1, 24), 500);
    x.setInflation(1, 100);
    Check.same("6 the year before that month", x.fullAmount(1, 24), 550);
    Check.same("6 its own year counts later", x.fullAmount(1, 23), 500);
    Check.same("6 on top of the earlier year", x.fullAmount(0, 24), 1122);
  }

  private static void setInflationRefuses() {
    JointAnnuity x = new JointAnnuity();
    for (int year : BELOW_AND_ABOVE) {
      Check.badArgument("6 year " + year, () -> x.setInflation(year, 0));
    }
    Check.badArgument("6 value", () -> x.setInflation(0, -101));
    Check.badArgument("6 value", () -> x.setInflation(0, 301));
    Check.same("6 nothing was told", x.setInflation(0, 0), 0);
  }

  // Promise 7

  private static void dieTells() {
    JointAnnuity x = Desks.with(0, 1000, 0);
    Desks.runTo(x, 3);
    x.die(0, 0, 3);
    Check.same("7 the month that goes on", x.takeBack(0, 0), 3);
    x.die(0, 0, 0);
    x.die(0, 1, 2);
    Check.same("7 alive in that month", x.entitled(0, 2), 1000);
    Check.same("7 not alive behind it", x.entitled(0, 3), 0);
    x.takeBack(0, 1);
    Desks.runTo(x, 240);
    x.die(0, 1, 239);
    Check.same("7 at most 239", x.takeBack(0, 1), 239);
    JointAnnuity y = Desks.with(9, 1000, 0);
    y.die(0, 0, 0);
    Check.same("7 ahead of the start", y.takeBack(0, 0), 0);
  }

  private static void dieRefuses() {
    JointAnnuity x = Desks.with(0, 1000, 0);
    Check.noIndex("7 annuity first", () -> x.die(1, 2, -1));
    Check.noIndex("7 annuity", () -> x.die(-1, 0, 0));
    Check.badArgument("7 life", () -> x.die(0, -1, 0));
    Check.badArgument("7 life", () -> x.die(0, 2, 0));
    Check.badArgument("7 month", () -> x.die(0, 0, -1));
    Check.badArgument("7 a month to come", () -> x.die(0, 0, 1));
    x.die(0, 0, 0);
    Check.badState("7 told", () -> x.die(0, 0, 0));
    Check.badArgument("7 month before told", () -> x.die(0, 0, 1));
    Check.same("7 the first stands", x.takeBack(0, 0), 0);
    Desks.runTo(x, 240);
    Check.badArgument("7 240 is no month", () -> x.die(0, 0, 240));
  }

  // Promise 8

  private static void takeBackUndoes() {
    JointAnnuity x = Desks.with(0, 1000, 0);
    x.setSurvivor(0, 50, true);
    Desks.runTo(x, 6);
    x.die(0, 0, 2);
    x.die(0, 1, 4);
    Check.same("8 its month", x.takeBack(0, 0), 2);
    Check.same("8 the other stays", x.entitled(0, 5), 500);
    Check.same("8 its month", x.takeBack(0, 1), 4);
    Check.same("8 as if not told", x.entitled(0, 5), 1000);
    Check.same("8 nothing owed", x.owes(0), 0);
    x.die(0, 0, 5);
    Check.same("8 told anew", x.takeBack(0, 0), 5);
  }

  private static void takeBackRefuses() {
    JointAnnuity x = Desks.with(0, 1000, 0);
    Check.noIndex("8 annuity first", () -> x.takeBack(1, 2));
    Check.noIndex("8 annuity", () -> x.takeBack(-1, 0));
    Check.badArgument("8 life", () -> x.takeBack(0, -1));
    Check.badArgument("8 life", () -> x.takeBack(0, 2));
    Check.badState("8 not told", () -> x.takeBack(0, 0));
    x.die(0, 0, 0);
    Check.badState("8 the other not told", () -> x.takeBack(0, 1));
    x.takeBack(0, 0);
    Check.badState("8 taken back", () -> x.takeBack(0, 0));
  }

  // Promise 9

  private static void runPays() {
    JointAnnuity x = Desks.with(1, 1000, 0);
    x.add(0, 70, 0);
    x.add(2, 5, 0);
    Check.same("9 month 0", x.run(), 70);
    Check.same("9 month 1", x.run(), 1070);
    Check.same("9 month 2", x.run(), 1075);
    x.die(0, 0, 2);
    x.die(0, 1, 2);
    Check.same("9 one has ended", x.run(), 75);
  }

  private static void runPaysWhatIsMissing() {
    JointAnnuity x = Desks.with(0, 1000, 0);
    x.setSurvivor(0, 40, false);
    Desks.runTo(x, 4);
    x.die(0, 0, 1);
    Check.same("9 too much was paid", x.owes(0), 1200);
    Check.same("9 set off", x.run(), 0);
    Check.same("9 set off", x.owes(0), 800);
    Check.same("9 given back", x.giveBack(0, 700), 100);
    Check.same("9 the rest is set off", x.run(), 300);
    Check.same("9 from here on", x.run(), 400);
    x.takeBack(0, 0);
    Check.same("9 not paid yet, and what was given back", x.run(), 8000 - 4700 + 700);
    Check.same("9 from here on", x.run(), 1000);
  }

  private static void runEnds() {
    JointAnnuity x = Desks.with(239, 100, 0);
    for (int i = 0; i < 239; i++) {
      Check.same("9 ahead of the start", x.run(), 0);
    }
    Check.same("9 the last month", x.run(), 100);
    Check.badState("9 all have been run", () -> x.run());
    Check.same("9 nothing more", x.paidInAll(0), 100);
    Check.same("9 nothing more", x.month(), 240);
  }

  // Promise 10

  private static void monthCounts() {
    JointAnnuity x = new JointAnnuity();
    for (int i = 0; i < 240; i++) {
      Check.same("10 month", x.month(), i);
      x.run();
    }
    Check.same("10 behind all", x.month(), 240);
  }

  // Promise 11

  private static JointAnnuity indebted() {
    JointAnnuity x = Desks.with(0, 1000, 0);
    Desks.runTo(x, 5);
    x.die(0, 0, 1);
    x.die(0, 1, 2);
    return x;
  }

  private static void giveBackLowersTheDebt() {
    JointAnnuity x = indebted();
    Check.same("11 owes", x.owes(0), 2000);
    Check.same("11 what it owes then", x.giveBack(0, 1), 1999);
    Check.same("11 what it owes then", x.giveBack(0, 1999), 0);
    Check.same("11 owes nothing", x.owes(0), 0);
    Check.same("11 less what it gave back", x.paidInAll(0), 3000);
    Check.same("11 nothing is due", x.run(), 0);
  }

  private static void giveBackRefuses() {
    JointAnnuity x = indebted();
    Check.noIndex("11 annuity first", () -> x.giveBack(1, 0));
    Check.noIndex("11 annuity", () -> x.giveBack(-1, 1));
    Check.badArgument("11 amount", () -> x.giveBack(0, 0));
    Check.badArgument("11 amount", () -> x.giveBack(0, -1));
    Check.badArgument("11 amount before debt", () -> x.giveBack(0, 100000001));
    Check.badState("11 largest amount", () -> x.giveBack(0, 100000000));
    Check.badState("11 owes less", () -> x.giveBack(0, 2001));
    Check.same("11 still owes", x.owes(0), 2000);
  }

  // Promise 12

  private static void paidTellsEachMonth() {
    JointAnnuity x = Desks.with(2, 1000, 0);
    Desks.runTo(x, 4);
    x.add(4, 30, 0);
    x.die(0, 0, 3);
    x.die(0, 1, 2);
    Desks.runTo(x, 6);
    x.takeBack(0, 0);
    x.run();
    Check.same("12 ahead of the start", x.paid(0, 1), 0);
    Check.same("12 paid", x.paid(0, 2), 1000);
    Check.same("12 paid", x.paid(0, 3), 1000);
    Check.same("12 nothing", x.paid(0, 5), 0);
    Check.same("12 what was missing", x.paid(0, 6), 3000);
    Check.same("12 no such annuity then", x.paid(1, 3), 0);
    Check.same("12 the other", x.paid(1, 4), 30);
    JointAnnuity y = indebted();
    y.giveBack(0, 2000);
    Check.same("12 giving back takes nothing from it", y.paid(0, 4), 1000);
  }

  private static void paidRefuses() {
    JointAnnuity x = Desks.with(0, 1000, 0);
    Check.badArgument("12 no month has been run", () -> x.paid(0, 0));
    Check.noIndex("12 annuity first", () -> x.paid(1, -1));
    Check.noIndex("12 annuity", () -> x.paid(-1, 0));
    x.run();
    Check.badArgument("12 month", () -> x.paid(0, -1));
    Check.badArgument("12 the month that goes on", () -> x.paid(0, 1));
    Check.same("12 the month run", x.paid(0, 0), 1000);
    Desks.runTo(x, 240);
    Check.same("12 the last month", x.paid(0, 239), 1000);
    Check.badArgument("12 behind all", () -> x.paid(0, 240));
  }

  // Promise 13

  private static void paidInAllSums() {
    JointAnnuity x = indebted();
    x.add(5, 10, 0);
    Check.same("13 all", x.paidInAll(0), 5000);
    Check.same("13 nothing yet", x.paidInAll(1), 0);
    x.giveBack(0, 300);
    x.run();
    Check.same("13 less what it gave back", x.paidInAll(0), 4700);
    Check.same("13 the other", x.paidInAll(1), 10);
    Check.noIndex("13 annuity", () -> x.paidInAll(2));
    Check.noIndex("13 annuity", () -> x.paidInAll(-1));
    Check.noIndex("13 annuity", () -> x.paidInAll(20));
  }

  // Promise 14

  private static void owesWhatWasTooMuch() {
    JointAnnuity x = Desks.with(0, 1000, 0);
    x.setSurvivor(0, 50, false);
    Check.same("14 nothing at first", x.owes(0), 0);
    Desks.runTo(x, 3);
    Check.same("14 nothing", x.owes(0), 0);
    x.die(0, 0, 0);
    Check.same("14 too much", x.owes(0), 1000);
    x.takeBack(0, 0);
    Check.same("14 nothing", x.owes(0), 0);
    x.die(0, 1, 0);
    Check.same("14 no step on life 1", x.owes(0), 0);
    x.die(0, 0, 1);
    Check.same("14 both", x.owes(0), 1000);
    Desks.runTo(x, 240);
    Check.same("14 behind all months", x.owes(0), 1000);
    x.takeBack(0, 0);
    Check.same("14 never below 0", x.owes(0), 0);
    Check.noIndex("14 annuity", () -> x.owes(1));
    Check.noIndex("14 annuity", () -> x.owes(-1));
  }

  // Promise 15

  private static void fullAmountGrows() {
    JointAnnuity x = Desks.with(7, 999, 0);
    x.setCap(0, 100);
    x.setInflation(0, 100);
    x.setInflation(1, 15);
    Check.same("15 ahead of the start", x.fullAmount(0, 6), 0);
    Check.same("15 at the start", x.fullAmount(0, 7), 999);
    Check.same("15 until 12 months behind it", x.fullAmount(0, 18), 999);
    Check.same("15 rounded down", x.fullAmount(0, 19), 1098);
    Check.same("15 rounded down again", x.fullAmount(0, 31), 1114);
    Check.same("15 to the end", x.fullAmount(0, 239), 1114);
    JointAnnuity y = Desks.with(0, 100000, 0);
    y.setCap(0, 200);
    int due = 100000;
    for (int year = 0; year < 20; year++) {
      y.setInflation(year, 300);
    }
    for (int year = 0; year < 20; year++) {
      Check.same("15 the most that can be", y.fullAmount(0, 12 * year), due);
      due += due * 200 / 1000;
    }
    Check.same("15 the last increase", y.fullAmount(0, 227), y.fullAmount(0, 216));
  }

  // Promise 16

  private static void carryCarries() {
    JointAnnuity x = Desks.with(3, 1000, 0);
    x.setCap(0, 40);
    x.setInflation(0, 70);
    x.setInflation(1, -50);
    x.setInflation(2, 100);
    Check.same("16 ahead of the start", x.carry(0, 2), 0);
    Check.same("16 at the start", x.carry(0, 3), 0);
    Check.same("16 until 12 months behind it", x.carry(0, 14), 0);
    Check.same("16 above the cap", x.carry(0, 15), 30);
    Check.same("16 below 0", x.carry(0, 27), -20);
    Check.same("16 no increase below 0", x.fullAmount(0, 27), 1040);
    Check.same("16 out of it", x.carry(0, 39), 40);
    Check.same("16 to the cap", x.fullAmount(0, 39), 1081);
    Check.same("16 all used", x.carry(0, 51), 0);
    Check.same("16 carried", x.fullAmount(0, 51), 1124);
    Check.same("16 to the end", x.carry(0, 239), 0);
    JointAnnuity y = Desks.with(0, 1000, 0);
    for (int year = 0; year < 20; year++) {
      y.setInflation(year, -100);
    }
    Check.same("16 far below 0", y.carry(0, 239), -1900);
  }

  // Promise 17

  private static void entitledByWhoIsAlive() {
    JointAnnuity x = Desks.with(1, 1000, 3);
    x.setSurvivor(0, 60, true);
    Desks.runTo(x, 9);
    Check.same("17 ahead of the start", x.entitled(0, 0), 0);
    x.die(0, 0, 0);
    Check.same("17 guaranteed, first month", x.entitled(0, 1), 1000);
    Check.same("17 guaranteed, last month", x.entitled(0, 3), 1000);
    Check.same("17 life 1 alone", x.entitled(0, 4), 600);
    x.die(0, 1, 5);
    Check.same("17 its last month", x.entitled(0, 5), 600);
    Check.same("17 nothing", x.entitled(0, 6), 0);
    x.takeBack(0, 0);
    Check.same("17 life 0 alone, steps", x.entitled(0, 6), 600);
    Check.same("17 both alive", x.entitled(0, 5), 1000);
    JointAnnuity y = Desks.with(0, 1000, 0);
    y.setSurvivor(0, 60, false);
    y.protect(0, 5000, 100);
    y.die(0, 1, 0);
    Check.same("17 life 0 alone, no step", y.entitled(0, 1), 1000);
    y.run();
    y.run();
    y.die(0, 0, 1);
    Check.same("17 the protection included", y.entitled(0, 2), 3000);
    Check.same("17 once", y.entitled(0, 3), 0);
  }

  // Promise 18

  private static void entitledUpToSums() {
    JointAnnuity x = Desks.with(2, 1000, 0);
    x.setCap(0, 50);
    x.protect(0, 20000, 50);
    x.setInflation(0, 50);
    Check.same("18 ahead of the start", x.entitledUpTo(0, 1), 0);
    Check.same("18 the start", x.entitledUpTo(0, 2), 1000);
    Check.same("18 a year", x.entitledUpTo(0, 13), 12000);
    Check.same("18 with the increase", x.entitledUpTo(0, 14), 13050);
    Desks.runTo(x, 5);
    x.die(0, 0, 3);
    x.die(0, 1, 4);
    Check.same("18 ahead of the protection", x.entitledUpTo(0, 4), 3000);
    Check.same("18 the protection included", x.entitledUpTo(0, 5), 10000);
    Check.same("18 to the end", x.entitledUpTo(0, 239), 10000);
  }

  // Promise 19

  private static void protectionIsFound() {
    JointAnnuity x = Desks.with(0, 1000, 0);
    x.setSurvivor(0, 50, true);
    x.protect(0, 12345, 99);
    Desks.runTo(x, 8);
    Check.same("19 none is told", x.protection(0), 0);
    x.die(0, 0, 1);
    Check.same("19 one is told", x.protection(0), 0);
    x.die(0, 1, 3);
    Check.same("19 both, less what was entitled", x.protection(0), 12221 - 3000);
    Check.same("19 in the month behind both", x.entitled(0, 4), 9221);
    x.takeBack(0, 0);
    Check.same("19 taken back", x.protection(0), 0);
    x.die(0, 0, 7);
    Check.same("19 behind the later one", x.protection(0), 12221 - 6000);
    Check.same("19 behind the later one", x.entitled(0, 8), 6221);
    Check.noIndex("19 annuity", () -> x.protection(1));
    Check.noIndex("19 annuity", () -> x.protection(-1));
    Check.noIndex("19 annuity", () -> x.protection(20));
  }

  private static void protectionWaits() {
    JointAnnuity x = Desks.with(5, 1000, 4);
    x.protect(0, 10000, 100);
    x.die(0, 0, 0);
    x.die(0, 1, 0);
    Check.same("19 behind the guaranteed term", x.protection(0), 6000);
    Check.same("19 the term's last month", x.entitled(0, 8), 1000);
    Check.same("19 behind the guaranteed term", x.entitled(0, 9), 6000);
    JointAnnuity y = Desks.with(5, 1000, 0);
    y.protect(0, 10000, 100);
    y.die(0, 0, 0);
    y.die(0, 1, 0);
    Check.same("19 not ahead of the start", y.entitled(0, 4), 0);
    Check.same("19 in the start", y.entitled(0, 5), 10000);
    JointAnnuity z = Desks.with(100, 1, 140);
    z.protect(0, 10000, 100);
    z.die(0, 0, 0);
    z.die(0, 1, 0);
    Check.same("19 behind all months", z.protection(0), 0);
    Check.same("19 behind all months", z.entitledUpTo(0, 239), 140);
    z.add(100, 1, 139);
    z.protect(1, 10000, 100);
    z.die(1, 0, 0);
    z.die(1, 1, 0);
    Check.same("19 in the last month", z.protection(1), 9861);
    Check.same("19 in the last month", z.entitled(1, 239), 9861);
    Desks.runTo(z, 240);
    z.takeBack(1, 1);
    z.die(1, 1, 239);
    Check.same("19 death in the last month", z.protection(1), 0);
    z.takeBack(1, 1);
    z.die(1, 1, 238);
    Check.same("19 death one ahead of it", z.protection(1), 10000 - 139);
  }

  // Promises 15 to 18, and that a call that throws changes nothing

  private static void queriesRefuse() {
    JointAnnuity x = Desks.with(0, 1000, 0);
    int[] wrongMonths = {Integer.MIN_VALUE, -1, 240, Integer.MAX_VALUE};
    for (int month : wrongMonths) {
      Check.badArgument("15 month " + month, () -> x.fullAmount(0, month));
      Check.badArgument("16 month " + month, () -> x.carry(0, month));
      Check.badArgument("17 month " + month, () -> x.entitled(0, month));
      Check.badArgument("18 month " + month, () -> x.entitledUpTo(0, month));
      Check.noIndex("15 annuity first", () -> x.fullAmount(1, month));
      Check.noIndex("16 annuity first", () -> x.carry(1, month));
      Check.noIndex("17 annuity first", () -> x.entitled(1, month));
      Check.noIndex("18 annuity first", () -> x.entitledUpTo(1, month));
    }
    for (int annuity : BELOW_AND_ABOVE) {
      Check.noIndex("15 annuity " + annuity, () -> x.fullAmount(annuity, 0));
      Check.noIndex("16 annuity " + annuity, () -> x.carry(annuity, 0));
      Check.noIndex("17 annuity " + annuity, () -> x.entitled(annuity, 0));
      Check.noIndex("18 annuity " + annuity, () -> x.entitledUpTo(annuity, 0));
    }
  }

  private static String shown(JointAnnuity x, int annuities) {
    StringBuilder text = new StringBuilder();
    text.append(x.month());
    for (int i = 0; i < annuities; i++) {
      text.append(' ').append(x.paidInAll(i)).append(' ').append(x.owes(i));
      text.append(' ').append(x.protection(i));
      for (int month = 0; month < 240; month += 29) {
        text.append(' ').append(x.fullAmount(i, month)).append(' ').append(x.carry(i, month));
        text.append(' ').append(x.entitled(i, month)).append(' ').append(x.entitledUpTo(i, month));
      }
    }
    return text.toString();
  }

  private static void unchangedBy(JointAnnuity x, String what, Check.Act act) {
    String before = shown(x, 2);
    try {
      act.go();
      Check.tell(what + " was to throw");
    } catch (RuntimeException thrown) {
      Check.same(what + " changes nothing", shown(x, 2), before);
    }
  }

  private static JointAnnuity busy() {
    JointAnnuity x = Desks.with(0, 1000, 2);
    x.setSurvivor(0, 50, true);
    x.setCap(0, 20);
    x.protect(0, 50000, 80);
    x.add(9, 300, 0);
    x.setInflation(0, 30);
    Desks.runTo(x, 6);
    x.die(0, 0, 3);
    x.die(0, 1, 4);
    return x;
  }

  private static void throwingChangesNothing() {
    JointAnnuity x = busy();
    unchangedBy(x, "add", () -> x.add(6, 1, 241));
    unchangedBy(x, "setSurvivor", () -> x.setSurvivor(0, 10, false));
    unchangedBy(x, "setSurvivor", () -> x.setSurvivor(1, 101, true));
    JointAnnuity y = busy();
    unchangedBy(y, "setCap", () -> y.setCap(0, 10));
    unchangedBy(y, "setCap", () -> y.setCap(1, 201));
    unchangedBy(y, "protect", () -> y.protect(0, 1, 1));
    JointAnnuity z = busy();
    unchangedBy(z, "protect", () -> z.protect(1, 1, 101));
    unchangedBy(z, "setInflation", () -> z.setInflation(0, 301));
    unchangedBy(z, "die", () -> z.die(0, 1, 2));
    JointAnnuity u = busy();
    unchangedBy(u, "die", () -> u.die(1, 0, 7));
    unchangedBy(u, "takeBack", () -> u.takeBack(1, 0));
    unchangedBy(u, "giveBack", () -> u.giveBack(0, 100000000));
    JointAnnuity v = busy();
    unchangedBy(v, "paid", () -> v.paid(0, 6));
    JointAnnuity w = busy();
    Desks.runTo(w, 240);
    unchangedBy(w, "run", () -> w.run());
  }
}
