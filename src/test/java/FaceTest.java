import java.lang.reflect.Constructor;
import java.lang.reflect.Field;
import java.lang.reflect.Member;
import java.lang.reflect.Method;
import java.lang.reflect.Modifier;
import java.util.Arrays;
import java.util.TreeSet;

/** The public face has what the document says, and nothing else can be seen from outside. */
public final class FaceTest {
    private static final String BOTH = " throws java.lang.IllegalArgumentException,java.lang.IllegalStateException";
    private static final String ONE = " throws java.lang.IllegalArgumentException";
    private static final String[] METHODS = {
        "public int TagMachine.put(int,int,int,int,int)" + BOTH,
        "public boolean TagMachine.start(int)" + BOTH,
        "public int TagMachine.run(int)" + BOTH,
        "public boolean TagMachine.set(int,int)" + BOTH,
        "public boolean TagMachine.store(int,int)" + BOTH,
        "public int TagMachine.reckon(int,int,int)" + ONE,
        "public int TagMachine.exceptions(int,int,int)" + ONE,
        "public int TagMachine.floating(int)",
        "public int TagMachine.general(int)",
        "public int TagMachine.word(int)",
        "public int TagMachine.tag(int)",
        "public int TagMachine.place(int)",
        "public int TagMachine.about(int)",
    };

    public static void main(String[] args) {
        Check check = new Check();
        TreeSet<String> methods = new TreeSet<>();
        TreeSet<String> publicNames = new TreeSet<>();
        TreeSet<String> privateNames = new TreeSet<>();
        for (Method method : TagMachine.class.getDeclaredMethods()) {
            if (isSeen(method)) {
                methods.add(method.toString());
                publicNames.add(method.getName());
            } else {
                privateNames.add(method.getName());
            }
        }
        check.same("the methods", methods.toString(), new TreeSet<>(Arrays.asList(METHODS)).toString());
        privateNames.retainAll(publicNames);
        check.same("private methods with public names", privateNames.toString(), "[]");

        TreeSet<String> others = new TreeSet<>();
        for (Constructor<?> constructor : TagMachine.class.getDeclaredConstructors()) {
            others.add(constructor.toString());
        }
        for (Field field : TagMachine.class.getDeclaredFields()) {
            if (isSeen(field)) {
                others.add(field.toString());
            }
        }
        check.same("constructors and constants", others.toString(),
                "[public TagMachine(int,int), public static final int TagMachine.NONE]");
        check.same("final", Modifier.isFinal(TagMachine.class.getModifiers()), true);
        check.same("public", Modifier.isPublic(TagMachine.class.getModifiers()), true);
        check.end();
    }

    private static boolean isSeen(Member member) {
        return !Modifier.isPrivate(member.getModifiers()) && !member.isSynthetic();
    }
}
