import java.util.List;

/**
 * Each sentence of the document that refuses a call: which values are the last ones that are taken,
 * which exception is thrown behind them, which one if several apply, and that a call that throws
 * changes nothing.
 */
public final class RefusalsTest {
  private static final Class<?> NO_INDEX = IndexOutOfBoundsException.class;
  private static final Class<?> BAD_ARGUMENT = IllegalArgumentException.class;
  private static final Class<?> BAD_STATE = IllegalStateException.class;

  /** A call with one argument that varies: an annuity's number or another value. */
  private interface With {
    void on(JointAnnuity x, int value);
  }

  public static void main(String[] args) {
    addStart();
    addAmount();
    addGuarantee();
    addWhenThereAre20();
    setSurvivorAnnuity();
    setSurvivorPercent();
    setSurvivorStartRun();
    setCapAnnuity();
    setCapRange();
    setCapStartRun();
    protectAnnuity();
    protectPrice();
    protectPercent();
    protectStartRun();
    setInflationYear();
    setInflationValue();
    dieAnnuity();
    dieLife();
    dieMonth();
    dieTold();
    takeBackAnnuity();
    takeBackLife();
    takeBackNotTold();
    runAllMonths();
    giveBackAnnuity();
    giveBackAmount();
    giveBackOwesLess();
    paidAnnuity();
    paidMonth();
    paidInAllAnnuity();
    owesAnnuity();
    fullAmountRefuses();
    carryRefuses();
    entitledRefuses();
    entitledUpToRefuses();
    protectionAnnuity();
    Check.close("RefusalsTest");
  }

  private static void refused(String what, Class<?> due, Scene scene, Seen.Call call) {
    String label = what + " in " + scene;
    JointAnnuity x = scene.make();
    Check.fails(label, due, () -> call.on(x));
    List<String> before = Seen.untouched(scene);
    List<String> behind = Seen.behind(scene, call);
    Check.same(label + ", looks", behind.size(), before.size());
    for (int i = 0; i < Math.min(before.size(), behind.size()); i++) {
      Check.same(label + " changes nothing", behind.get(i), before.get(i));
    }
  }

  private static void taken(String what, Scene scene, Seen.Call call) {
    JointAnnuity x = scene.make();
    Check.passes(what + " in " + scene, () -> call.on(x));
  }

  /** IndexOutOfBoundsException comes ahead of the others, so the other arguments may be wrong. */
  private static void noSuchAnnuity(String what, With call) {
    for (Scene scene : List.of(Scene.EMPTY, Scene.BUSY, Scene.OVER, Scene.FULL)) {
      refusedFor(what, NO_INDEX, scene, call, -1, scene.annuities);
      throwsFor(what, NO_INDEX, scene, call, Integer.MIN_VALUE, -20, 20, Integer.MAX_VALUE);
    }
    for (Scene scene : List.of(Scene.EMPTY_OVER, Scene.NINETEEN, Scene.FULL_OVER)) {
      throwsFor(what, NO_INDEX, scene, call, -1, scene.annuities, 20, 21);
    }
  }

  private static void refusedFor(
      String what, Class<?> due, Scene scene, With call, int... values) {
    for (int value : values) {
      refused(what + " " + value, due, scene, x -> call.on(x, value));
    }
  }

  private static void throwsFor(
      String what, Class<?> due, Scene scene, With call, int... values) {
    for (int value : values) {
      JointAnnuity x = scene.make();
      Check.fails(what + " " + value + " in " + scene, due, () -> call.on(x, value));
    }
  }

  /** Takes the least and the largest value, and refuses those beyond them. */
  private static void range(String what, Scene scene, int least, int most, With call) {
    taken(what + " " + least, scene, x -> call.on(x, least));
    taken(what + " " + most, scene, x -> call.on(x, most));
    beyond(what, scene, least, most, call);
  }

  private static void beyond(String what, Scene scene, int least, int most, With call) {
    refusedFor(what, BAD_ARGUMENT, scene, call, least - 1, most + 1);
    throwsFor(what, BAD_ARGUMENT, scene, call, Integer.MIN_VALUE, Integer.MAX_VALUE);
  }

  /** The terms can be set in the month of the start, and no more when that has been run. */
  private static void asLongAsStartNotRun(String what, With call) {
    for (int annuity = 0; annuity < 3; annuity++) {
      int each = annuity;
      taken(what + " " + each, Scene.FIRST, x -> call.on(x, each));
    }
    taken(what + ", start is to come", Scene.BUSY, x -> call.on(x, 1));
    taken(what + ", start goes on", Scene.FULL_BUSY, x -> call.on(x, 6));
    refusedFor(what + ", start was run last", BAD_STATE, Scene.FULL_BUSY, call, 5);
    taken(what + ", start is the last month and goes on", Scene.LAST, x -> call.on(x, 2));
    refusedFor(what + ", start was run", BAD_STATE, Scene.BUSY, call, 0);
    refusedFor(what + ", start was run", BAD_STATE, Scene.LAST, call, 0, 1);
    refusedFor(what + ", all months run", BAD_STATE, Scene.OVER, call, 0, 1, 2);
  }

  // Promise 2: "Throws IllegalArgumentException if an argument is out of range",
  // "Throws IllegalStateException if there are 20"

  private static void addStart() {
    With start = (x, value) -> x.add(value, 1, 0);
    range("2 start, no month run", Scene.EMPTY, 0, 239, start);
    range("2 start, from the month that goes on", Scene.BUSY, 6, 239, start);
    range("2 start, the last month goes on", Scene.LAST, 239, 239, start);
    for (Scene over : List.of(Scene.EMPTY_OVER, Scene.OVER)) {
      refusedFor("2 start, none is left", BAD_ARGUMENT, over, start, -1, 0, 239, 240, 241);
    }
  }

  private static void addAmount() {
    range("2 amount", Scene.EMPTY, 1, 100000, (x, value) -> x.add(0, value, 0));
    range("2 amount", Scene.BUSY, 1, 100000, (x, value) -> x.add(239, value, 240));
  }

  private static void addGuarantee() {
    range("2 guarantee", Scene.EMPTY, 0, 240, (x, value) -> x.add(0, 1, value));
    range("2 guarantee", Scene.BUSY, 0, 240, (x, value) -> x.add(239, 100000, value));
  }

  private static void addWhenThereAre20() {
    taken("2 the 20th", Scene.NINETEEN, x -> x.add(0, 1, 0));
    for (Scene full : List.of(Scene.FULL, Scene.FULL_BUSY)) {
      int now = full.monthsRun;
      refused("2 there are 20", BAD_STATE, full, x -> x.add(now, 1, 0));
      refused("2 there are 20", BAD_STATE, full, x -> x.add(239, 100000, 240));
      beyond("2 start and 20", full, now, 239, (x, value) -> x.add(value, 1, 0));
      beyond("2 amount and 20", full, 1, 100000, (x, value) -> x.add(now, value, 0));
      beyond("2 guarantee and 20", full, 0, 240, (x, value) -> x.add(now, 1, value));
    }
    With start = (x, value) -> x.add(value, 1, 0);
    refusedFor("2 no start is left and 20", BAD_ARGUMENT, Scene.FULL_OVER, start, 0, 239, 240);
  }

  // Promise 3: "IndexOutOfBoundsException if there is no such annuity", "IllegalArgumentException
  // if percent is out of range", "IllegalStateException if its start has been run"

  private static void setSurvivorAnnuity() {
    noSuchAnnuity("3 annuity", (x, value) -> x.setSurvivor(value, 50, true));
    noSuchAnnuity("3 annuity and percent", (x, value) -> x.setSurvivor(value, 101, false));
    noSuchAnnuity("3 annuity and percent", (x, value) -> x.setSurvivor(value, -1, true));
  }

  private static void setSurvivorPercent() {
    for (Scene scene : List.of(Scene.FIRST, Scene.BUSY)) {
      range("3 percent", scene, 0, 100, (x, value) -> x.setSurvivor(1, value, true));
      range("3 percent", scene, 0, 100, (x, value) -> x.setSurvivor(1, value, false));
    }
  }

  private static void setSurvivorStartRun() {
    asLongAsStartNotRun("3 start", (x, value) -> x.setSurvivor(value, 7, true));
    asLongAsStartNotRun("3 start", (x, value) -> x.setSurvivor(value, 50, false));
    With percent = (x, value) -> x.setSurvivor(0, value, false);
    beyond("3 percent and start run", Scene.BUSY, 0, 100, percent);
    beyond("3 percent and start run", Scene.OVER, 0, 100, percent);
  }

  // Promise 4: "if there is no such annuity", "if cap is out of range", "if its start has been run"

  private static void setCapAnnuity() {
    noSuchAnnuity("4 annuity", (x, value) -> x.setCap(value, 50));
    noSuchAnnuity("4 annuity and cap", (x, value) -> x.setCap(value, 201));
    noSuchAnnuity("4 annuity and cap", (x, value) -> x.setCap(value, -1));
  }

  private static void setCapRange() {
    range("4 cap", Scene.FIRST, 0, 200, (x, value) -> x.setCap(0, value));
    range("4 cap", Scene.BUSY, 0, 200, (x, value) -> x.setCap(1, value));
  }

  private static void setCapStartRun() {
    asLongAsStartNotRun("4 start", (x, value) -> x.setCap(value, 200));
    asLongAsStartNotRun("4 start", (x, value) -> x.setCap(value, 0));
    With cap = (x, value) -> x.setCap(0, value);
    beyond("4 cap and start run", Scene.BUSY, 0, 200, cap);
    beyond("4 cap and start run", Scene.OVER, 0, 200, cap);
  }

  // Promise 5: "if there is no such annuity", "if price or percent is out of range", "if its start
  // has been run"

  private static void protectAnnuity() {
    noSuchAnnuity("5 annuity", (x, value) -> x.protect(value, 10000000, 100));
    noSuchAnnuity("5 annuity and price", (x, value) -> x.protect(value, -1, 100));
    noSuchAnnuity("5 annuity and price", (x, value) -> x.protect(value, 10000001, 100));
    noSuchAnnuity("5 annuity and percent", (x, value) -> x.protect(value, 0, -1));
    noSuchAnnuity("5 annuity and percent", (x, value) -> x.protect(value, 0, 101));
  }

  private static void protectPrice() {
    range("5 price", Scene.FIRST, 0, 10000000, (x, value) -> x.protect(0, value, 100));
    range("5 price", Scene.BUSY, 0, 10000000, (x, value) -> x.protect(1, value, 0));
  }

  private static void protectPercent() {
    range("5 percent", Scene.FIRST, 0, 100, (x, value) -> x.protect(0, 10000000, value));
    range("5 percent", Scene.BUSY, 0, 100, (x, value) -> x.protect(1, 0, value));
  }

  private static void protectStartRun() {
    asLongAsStartNotRun("5 start", (x, value) -> x.protect(value, 10000000, 100));
    asLongAsStartNotRun("5 start", (x, value) -> x.protect(value, 0, 0));
    for (Scene scene : List.of(Scene.BUSY, Scene.OVER)) {
      beyond("5 price, start run", scene, 0, 10000000, (x, value) -> x.protect(0, value, 99));
      beyond("5 percent, start run", scene, 0, 100, (x, value) -> x.protect(0, 9999999, value));
    }
  }

  // Promise 6: "Throws IllegalArgumentException if an argument is out of range"

  private static void setInflationYear() {
    for (Scene scene : List.of(Scene.EMPTY, Scene.BUSY, Scene.FULL, Scene.OVER)) {
      range("6 year", scene, 0, 19, (x, value) -> x.setInflation(value, 99));
    }
  }

  private static void setInflationValue() {
    for (Scene scene : List.of(Scene.EMPTY, Scene.BUSY, Scene.FULL, Scene.OVER)) {
      range("6 value", scene, -100, 300, (x, value) -> x.setInflation(0, value));
      range("6 value", scene, -100, 300, (x, value) -> x.setInflation(19, value));
    }
  }

  // Promise 7: "if there is no such annuity", "if life or month is out of range", "if its death has
  // been told"

  private static void dieAnnuity() {
    noSuchAnnuity("7 annuity", (x, value) -> x.die(value, 0, 0));
    noSuchAnnuity("7 annuity and life", (x, value) -> x.die(value, 2, 0));
    noSuchAnnuity("7 annuity and life", (x, value) -> x.die(value, -1, 0));
    noSuchAnnuity("7 annuity and month", (x, value) -> x.die(value, 1, -1));
    noSuchAnnuity("7 annuity and month", (x, value) -> x.die(value, 1, 240));
  }

  private static void dieLife() {
    for (Scene scene : List.of(Scene.FIRST, Scene.BUSY, Scene.OVER)) {
      range("7 life", scene, 0, 1, (x, value) -> x.die(2, value, 0));
    }
  }

  private static void dieMonth() {
    for (int life = 0; life < 2; life++) {
      int each = life;
      With month = (x, value) -> x.die(2, each, value);
      range("7 month, no month run", Scene.FIRST, 0, 0, month);
      range("7 month, to the month that goes on", Scene.BUSY, 0, 6, month);
      range("7 month, the last month goes on", Scene.LAST, 0, 239, month);
      range("7 month, at most 239", Scene.OVER, 0, 239, month);
    }
  }

  private static void dieTold() {
    With told = (x, value) -> x.die(0, value, 0);
    for (Scene scene : List.of(Scene.BUSY, Scene.LAST, Scene.OVER)) {
      refusedFor("7 told", BAD_STATE, scene, told, 0, 1);
      refused("7 told for the same month", BAD_STATE, scene, x -> x.die(0, 1, 3));
      int most = Math.min(scene.monthsRun, 239);
      refused("7 told", BAD_STATE, scene, x -> x.die(0, 0, most));
      beyond("7 life and told", scene, 0, 1, told);
      beyond("7 month and told", scene, 0, most, (x, value) -> x.die(0, 1, value));
      refused("7 the other is told", BAD_STATE, scene, x -> x.die(1, 1, 0));
      taken("7 only the other is told", scene, x -> x.die(1, 0, 0));
    }
  }

  // Promise 8: "if there is no such annuity", "if life is out of range", "if its death has not been
  // told"

  private static void takeBackAnnuity() {
    noSuchAnnuity("8 annuity", (x, value) -> x.takeBack(value, 0));
    noSuchAnnuity("8 annuity and life", (x, value) -> x.takeBack(value, 2));
    noSuchAnnuity("8 annuity and life", (x, value) -> x.takeBack(value, -1));
  }

  private static void takeBackLife() {
    for (Scene scene : List.of(Scene.BUSY, Scene.LAST, Scene.OVER)) {
      range("8 life", scene, 0, 1, (x, value) -> x.takeBack(0, value));
    }
    beyond("8 life, none is told", Scene.FIRST, 0, 1, (x, value) -> x.takeBack(0, value));
  }

  private static void takeBackNotTold() {
    With life = (x, value) -> x.takeBack(2, value);
    for (Scene scene : List.of(Scene.FIRST, Scene.BUSY, Scene.OVER)) {
      refusedFor("8 not told", BAD_STATE, scene, life, 0, 1);
    }
    refused("8 only the other is told", BAD_STATE, Scene.BUSY, x -> x.takeBack(1, 0));
    taken("8 only this one is told", Scene.BUSY, x -> x.takeBack(1, 1));
    JointAnnuity x = Scene.BUSY.make();
    x.takeBack(0, 0);
    Check.badState("8 taken back", () -> x.takeBack(0, 0));
    Check.passes("8 the other is still told", () -> x.takeBack(0, 1));
  }

  // Promise 9: "Throws IllegalStateException if all months have been run"

  private static void runAllMonths() {
    taken("9 the last month", Scene.LAST, x -> x.run());
    for (Scene over : List.of(Scene.EMPTY_OVER, Scene.OVER, Scene.FULL_OVER, Scene.RICH)) {
      refused("9 all months have been run", BAD_STATE, over, x -> x.run());
    }
  }

  // Promise 11: "if there is no such annuity", "if amount is out of range", "if it owes less"

  private static void giveBackAnnuity() {
    noSuchAnnuity("11 annuity", (x, value) -> x.giveBack(value, 1));
    noSuchAnnuity("11 annuity and amount", (x, value) -> x.giveBack(value, 0));
    noSuchAnnuity("11 annuity and amount", (x, value) -> x.giveBack(value, 100000001));
  }

  private static void giveBackAmount() {
    range("11 amount", Scene.RICH, 1, 100000000, (x, value) -> x.giveBack(0, value));
    With amount = (x, value) -> x.giveBack(0, value);
    beyond("11 amount, and it owes less", Scene.BUSY, 1, 100000000, amount);
    beyond("11 amount, and it owes nothing", Scene.FIRST, 1, 100000000, amount);
  }

  private static void giveBackOwesLess() {
    JointAnnuity x = Scene.BUSY.make();
    Check.same("11 this is owed", x.owes(0), 2500);
    taken("11 some of it", Scene.BUSY, y -> y.giveBack(0, 1));
    taken("11 all of it", Scene.BUSY, y -> y.giveBack(0, 2500));
    With amount = (y, value) -> y.giveBack(0, value);
    refusedFor("11 owes less", BAD_STATE, Scene.BUSY, amount, 2501, 100000000);
    for (Scene scene : List.of(Scene.FIRST, Scene.FULL)) {
      refusedFor("11 owes nothing", BAD_STATE, scene, amount, 1, 100000000);
    }
    refused("11 owes nothing", BAD_STATE, Scene.OVER, y -> y.giveBack(2, 1));
    x.giveBack(0, 2500);
    Check.badState("11 owes nothing more", () -> x.giveBack(0, 1));
  }

  // Promise 12: "if there is no such annuity", "if month is out of range"

  private static void paidAnnuity() {
    noSuchAnnuity("12 annuity", (x, value) -> x.paid(value, 0));
    noSuchAnnuity("12 annuity and month", (x, value) -> x.paid(value, -1));
    noSuchAnnuity("12 annuity and month", (x, value) -> x.paid(value, 240));
  }

  private static void paidMonth() {
    With month = (x, value) -> x.paid(2, value);
    refusedFor("12 no month has been run", BAD_ARGUMENT, Scene.FIRST, month, -2, -1, 0, 1, 239);
    throwsFor("12 no month", BAD_ARGUMENT, Scene.FIRST, month, Integer.MIN_VALUE);
    range("12 month", Scene.BUSY, 0, 5, month);
    range("12 the last month goes on", Scene.LAST, 0, 238, month);
    range("12 all months run", Scene.OVER, 0, 239, month);
    JointAnnuity x = new JointAnnuity();
    x.add(0, 5, 0);
    x.run();
    Check.same("12 month, one has been run", x.paid(0, 0), 5);
    Check.badArgument("12 month, one has been run", () -> x.paid(0, 1));
  }

  // Promises 13 and 14: "if there is no such annuity"

  private static void paidInAllAnnuity() {
    noSuchAnnuity("13 annuity", (x, value) -> x.paidInAll(value));
    firstAndLast("13 annuity", (x, value) -> x.paidInAll(value));
  }

  private static void owesAnnuity() {
    noSuchAnnuity("14 annuity", (x, value) -> x.owes(value));
    firstAndLast("14 annuity", (x, value) -> x.owes(value));
  }

  private static void firstAndLast(String what, With call) {
    for (Scene scene : List.of(Scene.FIRST, Scene.FULL, Scene.FULL_OVER)) {
      taken(what + " the first", scene, x -> call.on(x, 0));
      taken(what + " the last", scene, x -> call.on(x, scene.annuities - 1));
    }
  }

  // Promises 15 to 18: "if there is no such annuity", "if month is out of range"; promise 19: "if
  // there is no such annuity"

  private static void fullAmountRefuses() {
    noSuchAnnuity("15 annuity", (x, value) -> x.fullAmount(value, 0));
    noSuchAnnuity("15 annuity and month", (x, value) -> x.fullAmount(value, 240));
    monthFrom0To239("15 month", (x, value) -> x.fullAmount(1, value));
  }

  private static void carryRefuses() {
    noSuchAnnuity("16 annuity", (x, value) -> x.carry(value, 0));
    noSuchAnnuity("16 annuity and month", (x, value) -> x.carry(value, 240));
    monthFrom0To239("16 month", (x, value) -> x.carry(1, value));
  }

  private static void entitledRefuses() {
    noSuchAnnuity("17 annuity", (x, value) -> x.entitled(value, 0));
    noSuchAnnuity("17 annuity and month", (x, value) -> x.entitled(value, 240));
    monthFrom0To239("17 month", (x, value) -> x.entitled(1, value));
  }

  private static void entitledUpToRefuses() {
    noSuchAnnuity("18 annuity", (x, value) -> x.entitledUpTo(value, 0));
    noSuchAnnuity("18 annuity and month", (x, value) -> x.entitledUpTo(value, 240));
    monthFrom0To239("18 month", (x, value) -> x.entitledUpTo(1, value));
  }

  private static void monthFrom0To239(String what, With call) {
    for (Scene scene : List.of(Scene.FIRST, Scene.BUSY, Scene.LAST, Scene.OVER)) {
      range(what, scene, 0, 239, call);
    }
  }

  private static void protectionAnnuity() {
    noSuchAnnuity("19 annuity", (x, value) -> x.protection(value));
    firstAndLast("19 annuity", (x, value) -> x.protection(value));
  }
}
