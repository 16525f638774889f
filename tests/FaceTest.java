import java.lang.reflect.Constructor;
import java.lang.reflect.Field;
import java.lang.reflect.Method;
import java.lang.reflect.Modifier;
import java.util.ArrayList;
import java.util.Collections;
import java.util.List;

/** The public face: what the document lists, and no other member that is not private. */
public final class FaceTest {
  private static final List<String> FACE =
      List.of(
          "BAD", "FLIPPED", "NO_CORNERS", "NO_EDGES", "ODD", "TWISTED", "at(2)", "corner(3)",
          "edge(3)", "flips(0)", "home(0)", "isHome(0)", "lawful(0)", "new(0)", "solve(0)",
          "stage(1)", "step(1)", "turn(1)");

  public static void main(String[] args) {
    Due due = new Due();
    List<String> open = new ArrayList<>();
    for (Field field : StageCube.class.getDeclaredFields()) {
      if (!Modifier.isPrivate(field.getModifiers())) {
        open.add(field.getName());
        due.is(field.getName() + " is a constant int", isConstant(field) ? 1 : 0, 1);
      }
    }
    for (Method method : StageCube.class.getDeclaredMethods()) {
      if (!Modifier.isPrivate(method.getModifiers())) {
        open.add(method.getName() + "(" + method.getParameterCount() + ")");
        due.is(method.getName() + " is as told", isCall(method) ? 1 : 0, 1);
      }
    }
    for (Constructor<?> made : StageCube.class.getDeclaredConstructors()) {
      open.add("new(" + made.getParameterCount() + ")");
    }
    Collections.sort(open);
    if (!open.equals(FACE)) {
      System.out.println("the face is " + open);
    }
    due.is("the face is the document's", open.equals(FACE) ? 1 : 0, 1);
    due.is("the class is final", Modifier.isFinal(StageCube.class.getModifiers()) ? 1 : 0, 1);
    due.end();
  }

  private static boolean isConstant(Field field) {
    int all = Modifier.PUBLIC | Modifier.STATIC | Modifier.FINAL;
    return field.getModifiers() == all && field.getType() == int.class;
  }

  private static boolean isCall(Method method) {
    for (Class<?> type : method.getParameterTypes()) {
      if (type != int.class) {
        return false;
      }
    }
    return method.getModifiers() == Modifier.PUBLIC && method.getReturnType() == int.class;
  }
}
