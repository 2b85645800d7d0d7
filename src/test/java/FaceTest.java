import java.lang.reflect.Constructor;
import java.lang.reflect.Field;
import java.lang.reflect.Method;
import java.lang.reflect.Modifier;
import java.util.ArrayList;
import java.util.Collections;
import java.util.List;

/** The class has the document's face and nothing else that can be seen from outside. */
public final class FaceTest {
  private static final String[] FACE = {
    "int add(int,int,int)",
    "void setSurvivor(int,int,boolean)",
    "void setCap(int,int)",
    "void protect(int,int,int)",
    "int setInflation(int,int)",
    "void die(int,int,int)",
    "int takeBack(int,int)",
    "long run()",
    "int month()",
    "long giveBack(int,int)",
    "long paid(int,int)",
    "long paidInAll(int)",
    "long owes(int)",
    "int fullAmount(int,int)",
    "int carry(int,int)",
    "long entitled(int,int)",
    "long entitledUpTo(int,int)",
    "long protection(int)",
  };

  public static void main(String[] args) {
    Class<?> face = JointAnnuity.class;
    Check.same("class", Modifier.toString(face.getModifiers()), "public final");
    List<String> due = new ArrayList<>(List.of(FACE));
    Collections.sort(due);
    Check.same("methods", publicMethods(face).toString(), due.toString());
    Constructor<?>[] constructors = face.getDeclaredConstructors();
    Check.same("constructors", constructors.length, 1);
    Check.same("constructor", constructors[0].toString(), "public JointAnnuity()");
    for (Field field : face.getDeclaredFields()) {
      Check.same("private " + field, Modifier.isPrivate(field.getModifiers()) ? 1 : 0, 1);
    }
    Check.close("FaceTest");
  }

  private static List<String> publicMethods(Class<?> face) {
    List<String> found = new ArrayList<>();
    for (Method method : face.getDeclaredMethods()) {
      if (!Modifier.isPrivate(method.getModifiers())) {
        found.add(shown(method));
      }
    }
    Collections.sort(found);
    return found;
  }

  private static String shown(Method method) {
    StringBuilder text = new StringBuilder();
    text.append(method.getReturnType().getName()).append(' ').append(method.getName()).append('(');
    String between = "";
    for (Class<?> type : method.getParameterTypes()) {
      text.append(between).append(type.getName());
      between = ",";
    }
    return text.append(')').toString();
  }
}
