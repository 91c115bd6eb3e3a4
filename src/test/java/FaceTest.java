import java.lang.reflect.Constructor;
import java.lang.reflect.Field;
import java.lang.reflect.Method;
import java.lang.reflect.Modifier;
import java.util.Arrays;
import java.util.HashSet;
import java.util.Set;
import java.util.TreeSet;

/** The face is the document's and nothing else can be seen from outside. */
public final class FaceTest {
  private static final String[] FACE = {
    "boolean create(int,int)",
    "int insert(int,int,int,int,int) NoSuchElementException,IllegalStateException",
    "void delete(int,int) NoSuchElementException",
    "void update(int,int,int,int) NoSuchElementException",
    "int cell(int,int,int) NoSuchElementException",
    "boolean index(int,int,int)",
    "boolean drop(int,int,int)",
    "void ask()",
    "int from(int)",
    "boolean where(int,int,int,int)",
    "boolean join(int,int,int,int)",
    "int select(int,int)",
    "boolean order(int,boolean)",
    "boolean limit(int)",
    "float plan() IllegalStateException",
    "int explain(int,int) IndexOutOfBoundsException",
    "int run(int)",
    "int look(int)",
    "int answer(int,int) IllegalStateException,IndexOutOfBoundsException",
  };

  public static void main(String[] args) {
    Check check = new Check("FaceTest");
    int flags = QueryDesk.class.getModifiers();
    check.same("public and final", Modifier.isPublic(flags) && Modifier.isFinal(flags), true);
    Set<String> seen = new TreeSet<>();
    Set<String> publicNames = new HashSet<>();
    for (Method method : QueryDesk.class.getDeclaredMethods()) {
      if (!Modifier.isPrivate(method.getModifiers())) {
        check.same(method.getName() + " is public", Modifier.isPublic(method.getModifiers()), true);
        seen.add(written(method));
        publicNames.add(method.getName());
      }
    }
    check.sameText("the methods", seen.toString(), new TreeSet<>(Arrays.asList(FACE)).toString());
    for (Method method : QueryDesk.class.getDeclaredMethods()) {
      if (Modifier.isPrivate(method.getModifiers())) {
        check.same(method.getName() + " bears a public name", publicNames.contains(method.getName()), false);
      }
    }
    Constructor<?>[] constructors = QueryDesk.class.getDeclaredConstructors();
    check.same("constructors", constructors.length, 1);
    check.same("the constructor's parameters", constructors[0].getParameterCount(), 0);
    check.same("the constructor is public", Modifier.isPublic(constructors[0].getModifiers()), true);
    for (Field field : QueryDesk.class.getDeclaredFields()) {
      check.same(field.getName() + " is private", Modifier.isPrivate(field.getModifiers()), true);
    }
    check.end();
  }

  private static String written(Method method) {
    StringBuilder text = new StringBuilder();
    text.append(method.getReturnType().getName()).append(' ').append(method.getName()).append('(');
    text.append(names(method.getParameterTypes())).append(')');
    if (method.getExceptionTypes().length > 0) {
      text.append(' ').append(names(method.getExceptionTypes()));
    }
    return text.toString();
  }

  private static String names(Class<?>[] types) {
    StringBuilder text = new StringBuilder();
    for (Class<?> type : types) {
      text.append(text.length() == 0 ? "" : ",").append(type.getSimpleName());
    }
    return text.toString();
  }
}
