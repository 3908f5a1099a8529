import java.lang.reflect.InvocationTargetException;
import java.lang.reflect.Method;
import java.lang.reflect.Modifier;
import java.util.Arrays;
import java.util.Comparator;

/** Runs each case of a test by itself, so that none is forgotten and a fault tells its case. */
final class Cases {
  private Cases() {
  }

  /** A case is a static method that is neither private nor takes anything. */
  static void runAll(Class<?> test) throws IllegalAccessException {
    Method[] methods = test.getDeclaredMethods();
    Arrays.sort(methods, Comparator.comparing(Method::getName));
    int cases = 0;
    for (Method method : methods) {
      boolean open = Modifier.isStatic(method.getModifiers()) && !Modifier.isPrivate(method.getModifiers());
      if (open && method.getParameterCount() == 0) {
        cases++;
        run(method);
      }
    }
    Checks.end(test.getSimpleName() + ", " + cases + " cases");
  }

  private static void run(Method method) throws IllegalAccessException {
    int before = Checks.wrong();
    try {
      method.invoke(null);
    } catch (InvocationTargetException thrown) {
      Checks.due(method.getName() + " threw " + thrown.getCause() + ":", 1, 0);
    }
    if (Checks.wrong() != before) {
      System.out.println("   case " + method.getName());
    }
  }
}
