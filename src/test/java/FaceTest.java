import java.lang.reflect.Constructor;
import java.lang.reflect.Field;
import java.lang.reflect.Member;
import java.lang.reflect.Method;
import java.lang.reflect.Modifier;
import java.util.Set;
import java.util.TreeSet;

/** The public face is the document's and no more. */
public final class FaceTest {
    public static void main(String[] args) {
        Set<String> due = Set.of(
            "word(int,int,int,int,int)int(java.lang.IndexOutOfBoundsException,java.lang.IllegalArgumentException)",
            "kind(int)int()", "size(int)int()", "part(int,int)int(java.util.NoSuchElementException)",
            "longer(int)int(java.util.NoSuchElementException)", "shorter(int)int()",
            "fit(int,long)int(java.lang.IllegalArgumentException)", "may(int,long)boolean()", "tell(int,int)int()",
            "letter(int)int()", "named(long,long)int()", "about(int,int)int()", "new()", "public static final NONE int");
        Set<String> met = new TreeSet<>();
        Set<String> publicNames = new TreeSet<>();
        for (Method m : CodeWords.class.getDeclaredMethods()) {
            if (isSeen(m)) {
                met.add(m.getName() + inBrackets(m.getParameterTypes()) + m.getReturnType().getName()
                    + inBrackets(m.getExceptionTypes()));
                publicNames.add(m.getName());
            }
        }
        for (Constructor<?> c : CodeWords.class.getDeclaredConstructors()) {
            if (isSeen(c)) {
                met.add("new" + inBrackets(c.getParameterTypes()));
            }
        }
        for (Field f : CodeWords.class.getDeclaredFields()) {
            if (isSeen(f)) {
                met.add(Modifier.toString(f.getModifiers()) + " " + f.getName() + " " + f.getType().getName());
            }
        }
        Check.due("the face", new TreeSet<>(met).toString(), new TreeSet<>(due).toString());
        for (Method m : CodeWords.class.getDeclaredMethods()) {
            boolean clash = !isSeen(m) && publicNames.contains(m.getName());
            Check.due("private " + m.getName() + " bears a public name", clash ? 1 : 0, 0);
        }
        Check.due("the class is public and final", CodeWords.class.getModifiers() & (Modifier.PUBLIC | Modifier.FINAL),
            Modifier.PUBLIC | Modifier.FINAL);
        Check.end();
    }

    private static boolean isSeen(Member member) {
        return !member.isSynthetic() && !Modifier.isPrivate(member.getModifiers());
    }

    private static String inBrackets(Class<?>[] types) {
        StringBuilder text = new StringBuilder("(");
        for (Class<?> type : types) {
            text.append(text.length() == 1 ? "" : ",").append(type.getName());
        }
        return text.append(")").toString();
    }
}
