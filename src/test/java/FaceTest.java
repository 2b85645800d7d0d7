import java.lang.reflect.Constructor;
import java.lang.reflect.Field;
import java.lang.reflect.Method;
import java.lang.reflect.Modifier;
import java.util.ArrayList;
import java.util.Collections;
import java.util.List;

/** The class has the document's face and nothing else that can be seen from outside. */
public final class FaceTest {
  private static final String INDEX = " IndexOutOfBoundsException";
  private static final String ARGUMENT = " IllegalArgumentException";
  private static final String STATE = " IllegalStateException";

  /** Each method with the exceptions that it declares, in the document's order. */
  private static final String[] FACE = {
    "int add(int,int,int)" + ARGUMENT + STATE,
    "void setSurvivor(int,int,boolean)" + INDEX + ARGUMENT + STATE,
    "void setCap(int,int)" + INDEX + ARGUMENT + STATE,
    "void protect(int,int,int)" + INDEX + ARGUMENT + STATE,
    "int setInflation(int,int)" + ARGUMENT,
    "void die(int,int,int)" + INDEX + ARGUMENT + STATE,
    "int takeBack(int,int)" + INDEX + ARGUMENT + STATE,
    "long run()" + STATE,
    "int month()",
    "long giveBack(int,int)" + INDEX + ARGUMENT + STATE,
    "long paid(int,int)" + INDEX + ARGUMENT,
    "long paidInAll(int)" + INDEX,
    "long owes(int)" + INDEX,
    "int fullAmount(int,int)" + INDEX + ARGUMENT,
    "int carry(int,int)" + INDEX + ARGUMENT,
    "long entitled(int,int)" + INDEX + ARGUMENT,
    "long entitledUpTo(int,int)" + INDEX + ARGUMENT,
    "long protection(int)" + INDEX,
  };

  public static void main(String[] args) {
    Class<?> face = JointAnnuity.class;
    Check.same("class", Modifier.toString(face.getModifiers()), "public final");
    List<String> due = new ArrayList<>(List.of(FACE));
    Collections.sort(due);
    Check.same("methods", publicMethods(face).toString(), due.toString());
    Constructor<?>[] constructors = face.getDeclaredConstructors();
    Check.same("constructors", constructors.length, 1);
    Check.same("constructor", constructors[0].toString(), "public JointAnnuity()");
    for (Field field : face.getDeclaredFields()) {
      Check.same("private " + field, Modifier.isPrivate(field.getModifiers()) ? 1 : 0, 1);
    }
    Check.close("FaceTest");
  }

  private static List<String> publicMethods(Class<?> face) {
    List<String> found = new ArrayList<>();
    for (Method method : face.getDeclaredMethods()) {
      if (!Modifier.isPrivate(method.getModifiers())) {
        found.add(shown(method));
      }
    }
    Collections.sort(found);
    return found;
  }

  private static String shown(Method method) {
    StringBuilder text = new StringBuilder();
    text.append(method.getReturnType().getName()).append(' ').append(method.getName()).append('(');
    String between = "";
    for (Class<?> type : method.getParameterTypes()) {
      text.append(between).append(type.getName());
      between = ",";
    }
    text.append(')');
    for (Class<?> thrown : method.getExceptionTypes()) {
      text.append(' ').append(thrown.getSimpleName());
    }
    return text.toString();
  }
}
