/**
 * An annuity desk for two lives: monthly payments by who is alive, steps on the first death,
 * guaranteed terms, yearly increases by inflation with a cap that carries, value protection, and
 * deaths that are told late, so that too much was paid.
 */
public final class JointAnnuity {
  private static final int MONTHS = 240;
  private static final int MONTHS_OF_A_YEAR = 12;
  private static final int YEARS = 20;
  private static final int LIVES = 2;
  private static final int MOST_ANNUITIES = 20;
  private static final int MOST_AMOUNT = 100000;
  private static final int MOST_CAP = 200;
  private static final int MOST_PRICE = 10000000;
  private static final int LEAST_INFLATION = -100;
  private static final int MOST_INFLATION = 300;
  private static final int MOST_GIVEN_BACK = 100000000;
  private static final int WHOLE_PERCENT = 100;
  private static final int WHOLE_THOUSANDTHS = 1000;

  /** Behind all months, so that a life whose death is not told is alive in each of them. */
  private static final int NOT_TOLD = MONTHS;

  /** Behind all months: what falls there is not paid in any. */
  private static final int NEVER = MONTHS;

  private final Annuity[] annuities;
  private final int[] inflation;
  private int count;
  private int monthThatGoesOn;

  public JointAnnuity() {
    annuities = new Annuity[MOST_ANNUITIES];
    inflation = new int[YEARS];
    count = 0;
    monthThatGoesOn = 0;
  }

  // ---- annuities

  public int add(int start, int amount, int guarantee)
      throws IllegalArgumentException, IllegalStateException {
    requireRange(start, monthThatGoesOn, MONTHS - 1);
    requireRange(amount, 1, MOST_AMOUNT);
    requireRange(guarantee, 0, MONTHS);
    if (count >= annuities.length) {
      throw new IllegalStateException("there is no room for another annuity");
    }
    Annuity added = new Annuity(start, amount, guarantee);
    added.growBy(inflation);
    annuities[count] = added;
    count++;
    return count - 1;
  }

  public void setSurvivor(int annuity, int percent, boolean stepsOnFirst)
      throws IndexOutOfBoundsException, IllegalArgumentException, IllegalStateException {
    Annuity chosen = find(annuity);
    requireRange(percent, 0, WHOLE_PERCENT);
    requireStartNotRun(chosen);
    chosen.survivorPercent = percent;
    chosen.stepsOnFirst = stepsOnFirst;
  }

  public void setCap(int annuity, int cap)
      throws IndexOutOfBoundsException, IllegalArgumentException, IllegalStateException {
    Annuity chosen = find(annuity);
    requireRange(cap, 0, MOST_CAP);
    requireStartNotRun(chosen);
    chosen.cap = cap;
    chosen.growBy(inflation);
  }

  public void protect(int annuity, int price, int percent)
      throws IndexOutOfBoundsException, IllegalArgumentException, IllegalStateException {
    Annuity chosen = find(annuity);
    requireRange(price, 0, MOST_PRICE);
    requireRange(percent, 0, WHOLE_PERCENT);
    requireStartNotRun(chosen);
    chosen.price = price;
    chosen.protectedPercent = percent;
  }

  public int setInflation(int year, int value) throws IllegalArgumentException {
    requireRange(year, 0, YEARS - 1);
    requireRange(value, LEAST_INFLATION, MOST_INFLATION);
    int before = inflation[year];
    inflation[year] = value;
    for (Annuity each : annuities) {
      if (each != null) {
        each.growBy(inflation);
      }
    }
    return before;
  }

  public void die(int annuity, int life, int month)
      throws IndexOutOfBoundsException, IllegalArgumentException, IllegalStateException {
    Annuity chosen = find(annuity);
    requireRange(life, 0, LIVES - 1);
    requireRange(month, 0, Math.min(monthThatGoesOn, MONTHS - 1));
    if (chosen.deaths[life] != NOT_TOLD) {
      throw new IllegalStateException("the death of this life has been told");
    }
    chosen.deaths[life] = month;
  }

  public int takeBack(int annuity, int life)
      throws IndexOutOfBoundsException, IllegalArgumentException, IllegalStateException {
    Annuity chosen = find(annuity);
    requireRange(life, 0, LIVES - 1);
    int told = chosen.deaths[life];
    if (told == NOT_TOLD) {
      throw new IllegalStateException("the death of this life has not been told");
    }
    chosen.deaths[life] = NOT_TOLD;
    return told;
  }

  // ---- runs

  public long run() throws IllegalStateException {
    if (monthThatGoesOn >= MONTHS) {
      throw new IllegalStateException("all months have been run");
    }
    long together = 0;
    for (Annuity each : annuities) {
      if (each != null) {
        together += each.payIn(monthThatGoesOn);
      }
    }
    monthThatGoesOn++;
    return together;
  }

  public int month() {
    return monthThatGoesOn;
  }

  public long giveBack(int annuity, int amount)
      throws IndexOutOfBoundsException, IllegalArgumentException, IllegalStateException {
    Annuity chosen = find(annuity);
    requireRange(amount, 1, MOST_GIVEN_BACK);
    long debt = chosen.debtAhead(monthThatGoesOn);
    if (debt < amount) {
      throw new IllegalStateException("the annuity owes less");
    }
    chosen.keptInAll -= amount;
    return debt - amount;
  }

  public long paid(int annuity, int month)
      throws IndexOutOfBoundsException, IllegalArgumentException {
    Annuity chosen = find(annuity);
    requireRange(month, 0, monthThatGoesOn - 1);
    return chosen.payments[month];
  }

  public long paidInAll(int annuity) throws IndexOutOfBoundsException {
    return find(annuity).keptInAll;
  }

  public long owes(int annuity) throws IndexOutOfBoundsException {
    return find(annuity).debtAhead(monthThatGoesOn);
  }

  // ---- what follows from what has been told

  public int fullAmount(int annuity, int month)
      throws IndexOutOfBoundsException, IllegalArgumentException {
    Annuity chosen = find(annuity);
    requireMonth(month);
    return chosen.fullIn(month);
  }

  public int carry(int annuity, int month)
      throws IndexOutOfBoundsException, IllegalArgumentException {
    Annuity chosen = find(annuity);
    requireMonth(month);
    return chosen.carryIn(month);
  }

  public long entitled(int annuity, int month)
      throws IndexOutOfBoundsException, IllegalArgumentException {
    Annuity chosen = find(annuity);
    requireMonth(month);
    return chosen.dueIn(month);
  }

  public long entitledUpTo(int annuity, int month)
      throws IndexOutOfBoundsException, IllegalArgumentException {
    Annuity chosen = find(annuity);
    requireMonth(month);
    return chosen.dueAhead(month + 1);
  }

  public long protection(int annuity) throws IndexOutOfBoundsException {
    return find(annuity).protectionSum();
  }

  // ---- what the calls above need of their arguments

  private Annuity find(int annuity) {
    Annuity found =
        annuity >= 0 && annuity < annuities.length ? annuities[annuity] : null;
    if (found == null) {
      throw new IndexOutOfBoundsException("there is no such annuity");
    }
    return found;
  }

  private void requireStartNotRun(Annuity annuity) {
    if (annuity.start < monthThatGoesOn) {
      throw new IllegalStateException("the start of this annuity has been run");
    }
  }

  private static void requireMonth(int month) {
    requireRange(month, 0, MONTHS - 1);
  }

  private static void requireRange(int value, int least, int most) {
    if (value < least || value > most) {
      throw new IllegalArgumentException("an argument is out of range");
    }
  }

  /** One annuity: its terms, the deaths told for it, and what it was paid. */
  private static final class Annuity {
    final int start;
    final int amount;

    /** The first month behind the guaranteed term. */
    final int guaranteeEnd;

    int survivorPercent;
    boolean stepsOnFirst;
    int cap;
    int price;
    int protectedPercent;
    final int[] deaths;

    /** The full amounts and the carries by whole years from the start; see growBy. */
    final int[] fullAmounts;

    final int[] carries;
    final long[] payments;

    /** All that was paid less what was given back: no answer needs these two apart. */
    long keptInAll;

    Annuity(int start, int amount, int guarantee) {
      this.start = start;
      this.amount = amount;
      guaranteeEnd = start + guarantee;
      survivorPercent = WHOLE_PERCENT;
      stepsOnFirst = false;
      cap = 0;
      price = 0;
      protectedPercent = 0;
      deaths = new int[] {NOT_TOLD, NOT_TOLD};
      fullAmounts = new int[YEARS];
      carries = new int[YEARS];
      payments = new long[MONTHS];
      keptInAll = 0;
    }

    /**
     * Finds the full amounts and carries anew. To be called whenever the cap or an inflation has
     * changed: each later year follows from the earlier ones, also from those that are over.
     */
    void growBy(int[] inflation) {
      int full = amount;
      int carried = 0;
      fullAmounts[0] = full;
      carries[0] = carried;
      for (int age = 1; age < YEARS; age++) {
        int yearBefore = start / MONTHS_OF_A_YEAR + age - 1;
        if (yearBefore < inflation.length) {
          int wanted = inflation[yearBefore] + carried;
          int increase = Math.max(0, Math.min(wanted, cap));
          carried = wanted - increase;
          full += full * increase / WHOLE_THOUSANDTHS;
        }
        fullAmounts[age] = full;
        carries[age] = carried;
      }
    }

    int fullIn(int month) {
      return month < start ? 0 : fullAmounts[(month - start) / MONTHS_OF_A_YEAR];
    }

    int carryIn(int month) {
      return month < start ? 0 : carries[(month - start) / MONTHS_OF_A_YEAR];
    }

    /** What the lives and the guaranteed term give in a month, without the protection. */
    private long shareIn(int month) {
      if (month < start) {
        return 0;
      }
      long full = fullIn(month);
      boolean firstAlive = month <= deaths[0];
      boolean secondAlive = month <= deaths[1];
      if (month < guaranteeEnd || firstAlive && secondAlive) {
        return full;
      }
      if (firstAlive && !stepsOnFirst) {
        return full;
      }
      return firstAlive || secondAlive ? full * survivorPercent / WHOLE_PERCENT : 0;
    }

    private long sharesAhead(int end) {
      long sum = 0;
      for (int month = start; month < end; month++) {
        sum += shareIn(month);
      }
      return sum;
    }

    /** The month in which the protection is paid, or NEVER. */
    private int protectionMonth() {
      if (deaths[0] == NOT_TOLD || deaths[1] == NOT_TOLD) {
        return NEVER;
      }
      int behindDeaths = Math.max(deaths[0], deaths[1]) + 1;
      return Math.min(Math.max(behindDeaths, guaranteeEnd), NEVER);
    }

    long protectionSum() {
      int payMonth = protectionMonth();
      if (payMonth == NEVER) {
        return 0;
      }
      long secured = (long) price * protectedPercent / WHOLE_PERCENT;
      return Math.max(0, secured - sharesAhead(payMonth));
    }

    long dueIn(int month) {
      long share = shareIn(month);
      return month == protectionMonth() ? share + protectionSum() : share;
    }

    /** All that is due in the months ahead of one, that one left out. */
    long dueAhead(int end) {
      long shares = sharesAhead(end);
      return protectionMonth() < end ? shares + protectionSum() : shares;
    }

    long payIn(int month) {
      long payment = Math.max(0, dueAhead(month + 1) - keptInAll);
      payments[month] = payment;
      keptInAll += payment;
      return payment;
    }

    /** What is owed when the months ahead of one have been run. */
    long debtAhead(int end) {
      return Math.max(0, keptInAll - dueAhead(end));
    }
  }
}
