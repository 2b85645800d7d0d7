/** Compares answers with what is due and counts what is wrong. */
final class Check {
  private static int checks = 0;
  private static int wrong = 0;

  private Check() {}

  /** A call of the face that is to throw. */
  interface Act {
    void go();
  }

  static void same(String what, long got, long due) {
    checks++;
    if (got != due) {
      tell(what + " answered " + got + ", due is " + due);
    }
  }

  static void same(String what, String got, String due) {
    checks++;
    if (!got.equals(due)) {
      tell(what + " answered " + got + ", due is " + due);
    }
  }

  /** The call must throw just this class: what the machine throws is of a class below it. */
  static void fails(String what, Class<?> due, Act act) {
    checks++;
    try {
      act.go();
      tell(what + " threw nothing, due is " + due.getName());
    } catch (RuntimeException thrown) {
      if (thrown.getClass() != due) {
        tell(what + " threw " + thrown.getClass().getName() + ", due is " + due.getName());
      }
    }
  }

  static void passes(String what, Act act) {
    checks++;
    try {
      act.go();
    } catch (RuntimeException thrown) {
      tell(what + " threw " + thrown.getClass().getName() + ", due is an answer");
    }
  }

  static void noIndex(String what, Act act) {
    fails(what, IndexOutOfBoundsException.class, act);
  }

  static void badArgument(String what, Act act) {
    fails(what, IllegalArgumentException.class, act);
  }

  static void badState(String what, Act act) {
    fails(what, IllegalStateException.class, act);
  }

  static void tell(String text) {
    wrong++;
    if (wrong <= 50) {
      System.out.println(text);
    }
  }

  static void close(String name) {
    System.out.println(name + ": " + checks + " checks, " + wrong + " wrong");
    if (wrong != 0) {
      System.exit(1);
    }
  }
}
