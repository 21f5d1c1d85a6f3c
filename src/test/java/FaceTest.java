import java.lang.reflect.Constructor;
import java.lang.reflect.Field;
import java.lang.reflect.Member;
import java.lang.reflect.Method;
import java.lang.reflect.Modifier;
import java.util.ArrayList;
import java.util.List;
import java.util.TreeSet;

/** The public face of the document, and nothing beside it (LANGUAGE.md, rule 1). */
public final class FaceTest {
    private static final String[] FACE = {
        "int feed(int,int,int,int,int)", "boolean end(int)", "int rules()", "int fault()",
        "int lot(int,int,int,int,int)", "boolean money(int,int)", "boolean want(int,int,int,int,int)",
        "int auction(int)", "boolean reject(int)", "int next()", "int about(int,int)", "int sale(int,int)",
        "int left(int)", "int wanted(int,int,int)", "int pool(int)", "int pay(int,int)",
        "long worth(int,int,int)", "int wire(int,int,int,int)", "int cars(int)", "int sent(int)",
        "int count(int)",
    };

    public static void main(String[] args) {
        Due due = new Due();
        due.same("NONE", -1, FruitHalls.NONE);
        due.yes("the class is public and final", Modifier.isPublic(FruitHalls.class.getModifiers())
                && Modifier.isFinal(FruitHalls.class.getModifiers()));
        publicMethods(due);
        noOtherMember(due);
        Constructor<?>[] makers = FruitHalls.class.getDeclaredConstructors();
        due.same("constructors", 1, makers.length);
        due.yes("the constructor is public, without arguments",
                Modifier.isPublic(makers[0].getModifiers()) && makers[0].getParameterCount() == 0);
        due.finish("FaceTest");
    }

    private static void publicMethods(Due due) {
        TreeSet<String> found = new TreeSet<>();
        TreeSet<String> names = new TreeSet<>();
        for (Method m : FruitHalls.class.getDeclaredMethods()) {
            if (Modifier.isPublic(m.getModifiers())) {
                found.add(written(m));
                names.add(m.getName());
                due.no(m + " is static", Modifier.isStatic(m.getModifiers()));
            }
        }
        for (String each : FACE) {
            due.yes("the face has " + each, found.remove(each));
        }
        due.yes("nothing more is public: " + found, found.isEmpty());
        List<Class<?>> all = new ArrayList<>(List.of(FruitHalls.class.getDeclaredClasses()));
        all.add(FruitHalls.class);
        for (Class<?> c : all) {
            for (Method m : c.getDeclaredMethods()) {
                due.no(m + " bears a public name", !Modifier.isPublic(m.getModifiers()) && names.contains(m.getName()));
            }
        }
    }

    private static String written(Method m) {
        StringBuilder text = new StringBuilder(m.getReturnType().getName()).append(' ').append(m.getName()).append('(');
        Class<?>[] types = m.getParameterTypes();
        for (int i = 0; i < types.length; i++) {
            text.append(i == 0 ? "" : ",").append(types[i].getName());
        }
        return text.append(')').toString();
    }

    private static void noOtherMember(Due due) {
        List<Member> members = new ArrayList<>(List.of(FruitHalls.class.getDeclaredMethods()));
        for (Field f : FruitHalls.class.getDeclaredFields()) {
            if (!f.getName().equals("NONE")) {
                members.add(f);
                due.no(f + " is public", Modifier.isPublic(f.getModifiers()));
            }
        }
        for (Member m : members) {
            boolean hidden = Modifier.isPrivate(m.getModifiers()) || m.isSynthetic();
            due.yes(m + " is private or of the face", hidden || Modifier.isPublic(m.getModifiers()));
        }
        for (Class<?> c : FruitHalls.class.getDeclaredClasses()) {
            due.yes(c + " is static", Modifier.isStatic(c.getModifiers()));
            due.no(c + " is public or protected",
                    Modifier.isPublic(c.getModifiers()) || Modifier.isProtected(c.getModifiers()));
        }
    }
}
