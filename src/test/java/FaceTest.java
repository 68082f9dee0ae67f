import java.lang.reflect.Constructor;
import java.lang.reflect.Field;
import java.lang.reflect.Method;
import java.lang.reflect.Modifier;
import java.util.Set;
import java.util.TreeSet;

/** The face of the class is the document's, and nothing else of it is open. */
public final class FaceTest {
  private static final String[] FACE = {
    "int person(int,int)", "int thinks(int,int)", "int become(int,int)", "int weighty(int)",
    "int licence(int,int)", "int talk(int,int)", "int clean()", "int type(int)", "int clear()",
    "int read()", "int opinions(int)", "int differ(int,int)", "int apart(int,int)",
    "int lawful(int)", "int three(int)", "int evening()", "int meet(int,int)", "int undo()",
    "int behind(int,int)", "int lasts(int,int)", "int again(int)", "int mind()", "int stops()",
    "int wed(int,int)", "int dinners(int,int,int,int)", "int feigned(int,int)",
    "int seen(int,int)", "int swayed(int)", "int seats(int)", "int couple(int,boolean)",
    "int burn()", "int law(int)", "int child(int,int,int,int)", "int born(int,int,int)",
    "long part(int)", "int image(int)", "int from(int)", "int status(int)", "int count(int)",
    "long digest()"};

  public static void main(String[] args) {
    Set<String> due = new TreeSet<>(Set.of(FACE));
    Set<String> open = new TreeSet<>();
    Set<String> names = new TreeSet<>();
    for (Method method : WedApart.class.getDeclaredMethods()) {
      if (Modifier.isPublic(method.getModifiers())) {
        open.add(told(method));
        names.add(method.getName());
      }
    }
    Due.is("open methods " + open, open.equals(due) ? 1 : 0, 1);
    for (Method method : WedApart.class.getDeclaredMethods()) {
      boolean isPublic = Modifier.isPublic(method.getModifiers());
      Due.is("hidden " + method, isPublic || Modifier.isPrivate(method.getModifiers()) ? 1 : 0, 1);
      Due.is("name of " + method, !isPublic && names.contains(method.getName()) ? 1 : 0, 0);
    }
    Set<String> constants = new TreeSet<>();
    for (Field field : WedApart.class.getDeclaredFields()) {
      if (!Modifier.isPrivate(field.getModifiers())) constants.add(field.getName());
    }
    Due.is("constants " + constants, constants.equals(Set.of("NONE", "BAD", "NO", "FULL")) ? 1 : 0, 1);
    Constructor<?>[] makers = WedApart.class.getDeclaredConstructors();
    Due.is("constructors", makers.length, 1);
    Due.is("constructor's parameters", makers[0].getParameterCount(), 0);
    Due.is("public final", WedApart.class.getModifiers(), Modifier.PUBLIC | Modifier.FINAL);
    Due.is("NONE", WedApart.NONE, -1);
    Due.is("BAD", WedApart.BAD, -2);
    Due.is("NO", WedApart.NO, -3);
    Due.is("FULL", WedApart.FULL, -4);
    Due.end("FaceTest");
  }

  private static String told(Method method) {
    StringBuilder text = new StringBuilder();
    for (Class<?> type : method.getParameterTypes()) {
      if (text.length() > 0) text.append(',');
      text.append(type.getName());
    }
    return method.getReturnType().getName() + " " + method.getName() + "(" + text + ")";
  }
}
