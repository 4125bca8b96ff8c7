import java.lang.reflect.Constructor;
import java.lang.reflect.Field;
import java.lang.reflect.Member;
import java.lang.reflect.Method;
import java.lang.reflect.Modifier;
import java.util.Set;
import java.util.TreeSet;

/** The public face: the class has what the document shows, and nothing else that is not private. */
public final class FaceTest {
    private static final Set<String> FACE = Set.of(
        "public PascalMachine()",
        "public int PascalMachine.append(long,int)"
            + " throws java.lang.IllegalArgumentException,java.lang.IllegalStateException",
        "public int PascalMachine.cut(int) throws java.lang.IllegalArgumentException",
        "public int PascalMachine.compile() throws java.lang.IllegalArgumentException",
        "public int PascalMachine.fault()",
        "public int PascalMachine.run() throws java.util.NoSuchElementException,java.lang.ArithmeticException,"
            + "java.lang.IllegalStateException,java.lang.IndexOutOfBoundsException",
        "public int PascalMachine.output(int) throws java.util.NoSuchElementException",
        "public int PascalMachine.count(int) throws java.lang.IllegalArgumentException");

    public static void main(String[] args) {
        hasTheFaceAlone();
        isPublicAndFinal();
        classesInsideAreStaticAndNotPublic();
        Check.end();
    }

    private static void hasTheFaceAlone() {
        Set<String> members = new TreeSet<>();
        for (Constructor<?> constructor : PascalMachine.class.getDeclaredConstructors()) {
            addUnlessPrivate(members, constructor, constructor.toGenericString());
        }
        for (Method method : PascalMachine.class.getDeclaredMethods()) {
            addUnlessPrivate(members, method, method.toGenericString());
        }
        for (Field field : PascalMachine.class.getDeclaredFields()) {
            addUnlessPrivate(members, field, field.toGenericString());
        }
        for (String member : FACE) {
            Check.isTrue("has " + member, members.contains(member));
        }
        for (String member : members) {
            Check.isTrue("may have " + member, FACE.contains(member));
        }
    }

    private static void addUnlessPrivate(Set<String> members, Member member, String told) {
        if (!Modifier.isPrivate(member.getModifiers()) && !member.isSynthetic()) {
            members.add(told);
        }
    }

    private static void isPublicAndFinal() {
        int modifiers = PascalMachine.class.getModifiers();
        Check.isTrue("is public", Modifier.isPublic(modifiers));
        Check.isTrue("is final", Modifier.isFinal(modifiers));
        Check.isTrue("has no package", PascalMachine.class.getPackageName().isEmpty());
        Check.isTrue("extends nothing", PascalMachine.class.getSuperclass() == Object.class);
        Check.isTrue("implements nothing", PascalMachine.class.getInterfaces().length == 0);
    }

    private static void classesInsideAreStaticAndNotPublic() {
        for (Class<?> inside : PascalMachine.class.getDeclaredClasses()) {
            int modifiers = inside.getModifiers();
            Check.isTrue(inside.getName() + " is static", Modifier.isStatic(modifiers));
            Check.isTrue(inside.getName() + " is seen by its package at most",
                !Modifier.isPublic(modifiers) && !Modifier.isProtected(modifiers));
        }
    }
}
