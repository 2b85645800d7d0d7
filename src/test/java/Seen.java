import java.util.ArrayList;
import java.util.EnumMap;
import java.util.List;
import java.util.Map;

/**
 * All that can be seen of an object: its answers, what it answers when it is told more, and what it
 * pays when it is run to the end. Each look is taken on an object made anew, so that none is used
 * for more than 512 calls.
 */
final class Seen {
  private static final int[] MONTHS = {0, 1, 2, 3, 4, 5, 6, 11, 12, 13, 14, 24, 36, 228, 238, 239};
  private static final int LOOKS = 7;
  private static final Map<Scene, List<String>> UNTOUCHED = new EnumMap<>(Scene.class);

  private final JointAnnuity x;
  private final List<String> answers;

  private Seen(JointAnnuity x, List<String> answers) {
    this.x = x;
    this.answers = answers;
  }

  /** A call on an object. */
  interface Call {
    void on(JointAnnuity x);
  }

  private interface Question {
    long answer();
  }

  static List<String> untouched(Scene scene) {
    return UNTOUCHED.computeIfAbsent(scene, each -> behind(each, x -> {}));
  }

  /** What is seen when this call, which may throw, has been made. */
  static List<String> behind(Scene scene, Call call) {
    List<String> answers = new ArrayList<>();
    for (int look = 0; look < LOOKS; look++) {
      JointAnnuity x = scene.make();
      try {
        call.on(x);
      } catch (RuntimeException thrown) {
        // What it threw is looked at elsewhere.
      }
      new Seen(x, answers).look(look);
    }
    return answers;
  }

  private void look(int number) {
    switch (number) {
      case 0:
        sums();
        inflations();
        break;
      case 1:
        months(0);
        break;
      case 2:
        months(1);
        break;
      case 3:
        months(19);
        break;
      case 4:
        terms();
        break;
      case 5:
        runs();
        break;
      default:
        roomForMore();
        break;
    }
  }

  private void note(String what, Question question) {
    String answer;
    try {
      answer = String.valueOf(question.answer());
    } catch (RuntimeException thrown) {
      answer = thrown.getClass().getName();
    }
    answers.add(what + " = " + answer);
  }

  private void sums() {
    note("month", () -> x.month());
    for (int annuity = -1; annuity <= 20; annuity++) {
      int a = annuity;
      note("paidInAll " + a, () -> x.paidInAll(a));
      note("owes " + a, () -> x.owes(a));
      note("protection " + a, () -> x.protection(a));
    }
  }

  private void inflations() {
    for (int year = 0; year < 20; year++) {
      int y = year;
      note("setInflation " + y, () -> x.setInflation(y, 0));
    }
  }

  private void months(int a) {
    for (int month : MONTHS) {
      note("paid " + a + " " + month, () -> x.paid(a, month));
      note("fullAmount " + a + " " + month, () -> x.fullAmount(a, month));
      note("carry " + a + " " + month, () -> x.carry(a, month));
      note("entitled " + a + " " + month, () -> x.entitled(a, month));
      note("entitledUpTo " + a + " " + month, () -> x.entitledUpTo(a, month));
    }
  }

  /** The terms and deaths show in what follows from deaths and inflations told anew. */
  private void terms() {
    Desks.setInflations(x, 300);
    for (int annuity : new int[] {0, 1, 2, 19}) {
      int a = annuity;
      note("takeBack " + a + " 0", () -> x.takeBack(a, 0));
      note("takeBack " + a + " 1", () -> x.takeBack(a, 1));
      note("the cap of " + a, () -> x.fullAmount(a, 239));
      note("die " + a + " 0", () -> told(a, 0));
      note("life 1 alone, " + a, () -> x.entitledUpTo(a, 239));
      note("die " + a + " 1", () -> told(a, 1));
      note("the protection of " + a, () -> x.protection(a));
      note("takeBack " + a + " 0", () -> x.takeBack(a, 0));
      note("life 0 alone, " + a, () -> x.entitledUpTo(a, 239));
    }
  }

  private long told(int annuity, int life) {
    x.die(annuity, life, 0);
    return 0;
  }

  private void runs() {
    for (int left = 240 - x.month(); left >= 0; left--) {
      note("run", () -> x.run());
    }
  }

  private void roomForMore() {
    for (int more = 0; more <= 20; more++) {
      note("add", () -> x.add(239, 1, 0));
    }
  }
}
