import java.lang.reflect.InvocationTargetException;
import java.lang.reflect.Method;
import java.util.HashMap;
import java.util.Map;
import java.util.Random;

/**
 * Random runs of 512 calls, always the same ones, on the class and on the document's words in
 * ReferenceDesk: each answer and each exception must be the same, so that a call that throws and
 * yet changes something is found by what follows.
 */
public final class RandomRunsTest {
  private static final int RUNS = 1200;
  private static final int CALLS = 512;
  private static final String[] SETTERS = {
    "add", "setSurvivor", "setCap", "protect", "setInflation", "die", "takeBack", "giveBack",
  };
  private static final String[] QUERIES = {
    "month", "paid", "paidInAll", "owes", "fullAmount", "carry", "entitled", "entitledUpTo",
    "protection",
  };

  private static final Map<String, Method> REAL = methodsOf(JointAnnuity.class);
  private static final Map<String, Method> REFERENCE = methodsOf(ReferenceDesk.class);

  public static void main(String[] args) throws IllegalAccessException {
    for (int seed = 0; seed < RUNS; seed++) {
      new RandomRunsTest(seed).go();
    }
    Check.close("RandomRunsTest");
  }

  private final int seed;
  private final Random random;
  private final JointAnnuity real = new JointAnnuity();
  private final ReferenceDesk reference = new ReferenceDesk();

  /** Of 16 calls these many run a month, and these many tell something. */
  private final int runs;

  private final int tells;
  private final int addsAtFirst;

  private RandomRunsTest(int seed) {
    this.seed = seed;
    random = new Random(seed);
    runs = random.nextInt(10);
    tells = 1 + random.nextInt(5);
    addsAtFirst = random.nextInt(8) == 0 ? 25 : 1 + random.nextInt(3);
  }

  private void go() throws IllegalAccessException {
    for (int call = 0; call < CALLS; call++) {
      String name = anyName(call);
      Object[] arguments = argumentsOf(name);
      String got = answer(REAL.get(name), real, arguments);
      String due = answer(REFERENCE.get(name), reference, arguments);
      Check.same("seed " + seed + " call " + call + " " + shown(name, arguments), got, due);
    }
  }

  private String anyName(int call) {
    if (call < addsAtFirst) {
      return "add";
    }
    int kind = random.nextInt(16);
    if (kind < runs) {
      return "run";
    }
    return kind < runs + tells
        ? SETTERS[random.nextInt(SETTERS.length)]
        : QUERIES[random.nextInt(QUERIES.length)];
  }

  private Object[] argumentsOf(String name) {
    switch (name) {
      case "run":
      case "month":
        return new Object[0];
      case "paidInAll":
      case "owes":
      case "protection":
        return new Object[] {annuity()};
      case "add":
        return new Object[] {start(), amount(), between(0, 240, 30)};
      case "setSurvivor":
        return new Object[] {annuity(), between(0, 100, 100), random.nextBoolean()};
      case "setCap":
        return new Object[] {annuity(), between(0, 200, 40)};
      case "protect":
        return new Object[] {annuity(), between(0, 10_000_000, 200_000), between(0, 100, 100)};
      case "setInflation":
        return new Object[] {between(0, 19, 19), between(-100, 300, 60)};
      case "die":
        return new Object[] {annuity(), between(0, 1, 1), pastMonth()};
      case "takeBack":
        return new Object[] {annuity(), between(0, 1, 1)};
      case "giveBack":
        int debtor = annuity();
        return new Object[] {debtor, someOfTheDebt(debtor)};
      case "paid":
        return new Object[] {annuity(), pastMonth()};
      default:
        return new Object[] {annuity(), between(0, 239, 239)};
    }
  }

  /** Mostly within the bounds and often low, at times at a bound, seldom behind one. */
  private int between(int least, int most, int usual) {
    switch (random.nextInt(24)) {
      case 0:
        return least - 1 - random.nextInt(2);
      case 1:
        return random.nextInt(8) == 0 ? Integer.MAX_VALUE : most + 1;
      case 2:
        return random.nextInt(8) == 0 ? Integer.MIN_VALUE : least;
      case 3:
        return most;
      case 4:
      case 5:
        return least + random.nextInt(most - least + 1);
      default:
        return least + random.nextInt(usual - least + 1);
    }
  }

  private int annuity() {
    return random.nextInt(12) == 0 ? random.nextInt(24) - 2 : random.nextInt(1 + reference.size());
  }

  private int start() {
    int now = reference.month();
    return random.nextInt(6) == 0 ? between(0, 239, 239) : now + random.nextInt(20) - 1;
  }

  private int amount() {
    return random.nextInt(3) == 0 ? between(1, 100_000, 50) : between(1, 100_000, 5000);
  }

  private int pastMonth() {
    int now = reference.month();
    return random.nextInt(6) == 0 ? now + random.nextInt(4) - 2 : random.nextInt(now + 1);
  }

  private int someOfTheDebt(int annuity) {
    if (random.nextInt(3) == 0 || annuity < 0 || annuity >= reference.size()) {
      return between(1, 100_000_000, 2000);
    }
    int debt = (int) Math.min(100_000_000, reference.owes(annuity));
    return debt < 2 || random.nextInt(3) == 0 ? debt : 1 + random.nextInt(debt);
  }

  private static String answer(Method method, Object object, Object[] arguments)
      throws IllegalAccessException {
    try {
      return String.valueOf(method.invoke(object, arguments));
    } catch (InvocationTargetException thrown) {
      return thrown.getCause().getClass().getName();
    }
  }

  private static Map<String, Method> methodsOf(Class<?> face) {
    Map<String, Method> found = new HashMap<>();
    for (Method method : face.getDeclaredMethods()) {
      found.put(method.getName(), method);
    }
    return found;
  }

  private static String shown(String name, Object[] arguments) {
    StringBuilder text = new StringBuilder(name);
    for (Object argument : arguments) {
      text.append(' ').append(argument);
    }
    return text.toString();
  }
}
