import java.util.ArrayList;
import java.util.List;

/**
 * The document's words as they stand, in another form than the class has: each question is found
 * anew from what has been told, month by month, by recursion where the document looks back.
 */
public final class ReferenceDesk {
  private static final class Contract {
    int start;
    int amount;
    int guarantee;
    int percent = 100;
    boolean stepsOnFirst = false;
    int cap = 0;
    long price = 0;
    int protectedPercent = 0;
    final Integer[] told = new Integer[2];
    final long[] got = new long[240];
    long gaveBack = 0;

    boolean alive(int life, int month) {
      return told[life] == null || month <= told[life];
    }

    long wasPaid() {
      long sum = 0;
      for (long each : got) {
        sum += each;
      }
      return sum;
    }
  }

  private final List<Contract> contracts = new ArrayList<>();
  private final int[] inflation = new int[20];
  private int now = 0;

  int size() {
    return contracts.size();
  }

  private Contract of(int annuity) {
    if (annuity < 0 || annuity >= contracts.size()) {
      throw new IndexOutOfBoundsException();
    }
    return contracts.get(annuity);
  }

  private static void in(int least, int value, int most) {
    if (!(least <= value && value <= most)) {
      throw new IllegalArgumentException();
    }
  }

  private static void state(boolean fine) {
    if (!fine) {
      throw new IllegalStateException();
    }
  }

  public int add(int start, int amount, int guarantee) {
    in(now, start, 239);
    in(1, amount, 100_000);
    in(0, guarantee, 240);
    state(contracts.size() < 20);
    Contract c = new Contract();
    c.start = start;
    c.amount = amount;
    c.guarantee = guarantee;
    contracts.add(c);
    return contracts.size() - 1;
  }

  public void setSurvivor(int annuity, int percent, boolean stepsOnFirst) {
    Contract c = of(annuity);
    in(0, percent, 100);
    state(c.start >= now);
    c.percent = percent;
    c.stepsOnFirst = stepsOnFirst;
  }

  public void setCap(int annuity, int cap) {
    Contract c = of(annuity);
    in(0, cap, 200);
    state(c.start >= now);
    c.cap = cap;
  }

  public void protect(int annuity, int price, int percent) {
    Contract c = of(annuity);
    in(0, price, 10_000_000);
    in(0, percent, 100);
    state(c.start >= now);
    c.price = price;
    c.protectedPercent = percent;
  }

  public int setInflation(int year, int value) {
    in(0, year, 19);
    in(-100, value, 300);
    int before = inflation[year];
    inflation[year] = value;
    return before;
  }

  public void die(int annuity, int life, int month) {
    Contract c = of(annuity);
    in(0, life, 1);
    in(0, month, now == 240 ? 239 : now);
    state(c.told[life] == null);
    c.told[life] = month;
  }

  public int takeBack(int annuity, int life) {
    Contract c = of(annuity);
    in(0, life, 1);
    state(c.told[life] != null);
    int month = c.told[life];
    c.told[life] = null;
    return month;
  }

  public long run() {
    state(now < 240);
    long all = 0;
    for (Contract c : contracts) {
      long open = upTo(c, now) - c.wasPaid() + c.gaveBack;
      if (open > 0) {
        c.got[now] = open;
        all += open;
      }
    }
    now++;
    return all;
  }

  public int month() {
    return now;
  }

  public long giveBack(int annuity, int amount) {
    Contract c = of(annuity);
    in(1, amount, 100_000_000);
    state(owes(annuity) >= amount);
    c.gaveBack += amount;
    return owes(annuity);
  }

  public long paid(int annuity, int month) {
    Contract c = of(annuity);
    in(0, month, now - 1);
    return c.got[month];
  }

  public long paidInAll(int annuity) {
    Contract c = of(annuity);
    return c.wasPaid() - c.gaveBack;
  }

  public long owes(int annuity) {
    Contract c = of(annuity);
    long debt = c.wasPaid() - c.gaveBack - upTo(c, now - 1);
    return debt > 0 ? debt : 0;
  }

  public int fullAmount(int annuity, int month) {
    Contract c = of(annuity);
    in(0, month, 239);
    return (int) full(c, month);
  }

  public int carry(int annuity, int month) {
    Contract c = of(annuity);
    in(0, month, 239);
    return (int) carried(c, month);
  }

  public long entitled(int annuity, int month) {
    Contract c = of(annuity);
    in(0, month, 239);
    return plain(c, month) + extra(c, month);
  }

  public long entitledUpTo(int annuity, int month) {
    Contract c = of(annuity);
    in(0, month, 239);
    return upTo(c, month);
  }

  public long protection(int annuity) {
    Contract c = of(annuity);
    long sum = 0;
    for (int month = 0; month < 240; month++) {
      sum += extra(c, month);
    }
    return sum;
  }

  private long wanted(Contract c, int month) {
    return inflation[month / 12 - 1] + carried(c, month - 12);
  }

  private static long increase(Contract c, long wanted) {
    long held = wanted > c.cap ? c.cap : wanted;
    return held < 0 ? 0 : held;
  }

  private long full(Contract c, int month) {
    if (month < c.start) {
      return 0;
    }
    if (month < c.start + 12) {
      return c.amount;
    }
    int grows = month - (month - c.start) % 12;
    long before = full(c, grows - 12);
    return before + Math.floorDiv(before * increase(c, wanted(c, grows)), 1000L);
  }

  private long carried(Contract c, int month) {
    if (month < c.start + 12) {
      return 0;
    }
    int grows = month - (month - c.start) % 12;
    long wanted = wanted(c, grows);
    return wanted - increase(c, wanted);
  }

  private long plain(Contract c, int month) {
    long full = full(c, month);
    long survivor = Math.floorDiv(full * c.percent, 100L);
    if (month - c.start < c.guarantee || c.alive(0, month) && c.alive(1, month)) {
      return full;
    }
    if (c.alive(0, month)) {
      return c.stepsOnFirst ? survivor : full;
    }
    return c.alive(1, month) ? survivor : 0;
  }

  /** Whether the protection could be paid in a month; the first such month is the one. */
  private boolean open(Contract c, int month) {
    if (c.told[0] == null || c.told[1] == null || month < c.start) {
      return false;
    }
    return !c.alive(0, month) && !c.alive(1, month) && month - c.start >= c.guarantee;
  }

  private long extra(Contract c, int month) {
    if (!open(c, month) || month > 0 && open(c, month - 1)) {
      return 0;
    }
    long rest = Math.floorDiv(c.price * c.protectedPercent, 100L);
    for (int ahead = 0; ahead < month; ahead++) {
      rest -= plain(c, ahead);
    }
    return rest > 0 ? rest : 0;
  }

  private long upTo(Contract c, int month) {
    long sum = 0;
    for (int each = 0; each <= month; each++) {
      sum += plain(c, each) + extra(c, each);
    }
    return sum;
  }
}
