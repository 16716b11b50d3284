import java.lang.reflect.Constructor;
import java.lang.reflect.Field;
import java.lang.reflect.Method;
import java.lang.reflect.Modifier;
import java.util.Set;
import java.util.TreeSet;

/** The public face, and that the class shows nothing else (rule 1). */
public final class FaceTest {
    private static final String[] METHODS = {
        "int town(int)", "int road(int,int)", "int deed(int,int,int)", "int deeds(int,int,int)",
        "int mend(int,int,int)", "int of(int,int)", "int feed(int)", "int law()", "int way(int,int)",
        "int heard(int,int)", "int loud(int,int)", "int said(int,int)", "int received(int,int,int)",
        "int atHour(int,int,int)", "int home(int,int,int)", "int route(int,int,int)",
        "int needs(int,int,int,int)", "int latest(int,int,int,int)", "int cut(int,int,int)",
        "int free(int,int,int)", "int alike(int,int,int)", "int judge(int,int,int)",
        "int which(int,int,int,int)", "int first(int,int,int)", "int news(int,int)",
        "long garbled(int,int,int)", "int drawn(int,int,int,int)", "int walk(int,int)", "int does(int,int)",
        "int led(int)", "int image()", "int back()", "int undo()", "int redo()", "int body(int)",
        "int act(int,int,int)", "int trace(int)", "int keep(int,int)", "int row(int,int,int)",
        "int put(int,int,long)", "long element(int,int)", "int shift(int,int,int,int,int)",
        "int taken(int,int)", "int count(int)",
    };

    public static void main(String[] args) {
        Due.is("constants", FameAhead.BAD == -1 && FameAhead.NOT == -2 && FameAhead.FULL == -3
            && FameAhead.STATE == -5 && FameAhead.VOID == -2000000000 ? 1 : 0, 1);
        Due.is("final", Modifier.isFinal(FameAhead.class.getModifiers()) ? 1 : 0, 1);
        Set<String> due = new TreeSet<>(Set.of(METHODS));
        Set<String> shown = new TreeSet<>();
        Set<String> hidden = new TreeSet<>();
        for (Method method : FameAhead.class.getDeclaredMethods()) {
            if (Modifier.isPrivate(method.getModifiers())) {
                hidden.add(method.getName());
            } else {
                shown.add(written(method));
            }
        }
        if (!due.equals(shown)) {
            System.out.println("shown: " + shown);
        }
        Due.is("the methods are those of the face", due.equals(shown) ? 1 : 0, 1);
        for (String method : METHODS) {
            String name = method.substring(method.indexOf(' ') + 1, method.indexOf('('));
            Due.is("a private method is called " + name, hidden.contains(name) ? 1 : 0, 0);
        }
        int constants = 0;
        for (Field field : FameAhead.class.getDeclaredFields()) {
            constants += Modifier.isPrivate(field.getModifiers()) ? 0 : 1;
        }
        Due.is("fields that are not private", constants, 5);
        Constructor<?>[] constructors = FameAhead.class.getDeclaredConstructors();
        Due.is("constructors", constructors.length, 1);
        Due.is("the constructor is public", Modifier.isPublic(constructors[0].getModifiers()) ? 1 : 0, 1);
        Due.close();
    }

    private static String written(Method method) {
        StringBuilder text = new StringBuilder(method.getReturnType().getName() + " " + method.getName() + "(");
        for (Class<?> type : method.getParameterTypes()) {
            text.append(text.charAt(text.length() - 1) == '(' ? "" : ",").append(type.getName());
        }
        return text.append(')').toString();
    }
}
