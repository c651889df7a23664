import java.lang.management.ManagementFactory;
import java.lang.reflect.Constructor;
import java.lang.reflect.Field;
import java.lang.reflect.Member;
import java.lang.reflect.Method;
import java.lang.reflect.Modifier;
import java.util.ArrayList;
import java.util.Arrays;
import java.util.Collections;
import java.util.List;

/** The face of the class is the document's, with nothing beside it, and its calls make no objects. */
public final class FaceTest {
    private static final Check CHECK = new Check();
    private static final String[] FACE = {
        "int letter int", "int blank", "int fault", "int tuneFault", "int road", "int write int", "int burn int",
        "int tune int int", "int beat int int", "int apart int int", "int alike int int int", "int often int int",
        "int gate int int", "int as int int", "int pays int int", "int worn int int", "int wind int int",
        "int toll int int", "int go int int", "int shortest int int", "int higher int int", "int send int",
        "int see int int boolean", "int forget", "int fairs int int int", "int image", "int restore",
        "int count int", "long digest"};

    public static void main(String[] args) {
        constants();
        members();
        nothingIsMade();
        CHECK.end();
    }

    private static void constants() {
        CHECK.due("NONE", SoundToll.NONE, -1);
        CHECK.due("UNKNOWN", SoundToll.UNKNOWN, -101);
        CHECK.due("OUTSIDE", SoundToll.OUTSIDE, -102);
        CHECK.due("STATE", SoundToll.STATE, -103);
        CHECK.due("FULL", SoundToll.FULL, -104);
    }

    private static boolean isSeen(Member member) {
        return !Modifier.isPrivate(member.getModifiers()) && !member.isSynthetic();
    }

    private static void members() {
        List<String> found = new ArrayList<>();
        List<String> names = new ArrayList<>();
        for (Method method : SoundToll.class.getDeclaredMethods()) {
            StringBuilder text = new StringBuilder(method.getReturnType() + " " + method.getName());
            for (Class<?> type : method.getParameterTypes()) {
                text.append(' ').append(type);
            }
            if (isSeen(method)) {
                found.add(text.toString());
                names.add(method.getName());
                CHECK.due(text + " is public and of an object", method.getModifiers(), Modifier.PUBLIC);
            }
        }
        List<String> face = new ArrayList<>(Arrays.asList(FACE));
        Collections.sort(face);
        Collections.sort(found);
        CHECK.due("methods are the face's: " + found, found.equals(face) ? 1 : 0, 1);
        fieldsAndMore(names);
    }

    private static void fieldsAndMore(List<String> names) {
        int fields = 0;
        for (Field field : SoundToll.class.getDeclaredFields()) {
            fields += isSeen(field) ? 1 : 0;
        }
        CHECK.due("fields that are seen", fields, 5);
        Constructor<?>[] constructors = SoundToll.class.getDeclaredConstructors();
        CHECK.due("constructors", constructors.length, 1);
        CHECK.due("its parameters", constructors[0].getParameterCount(), 0);
        CHECK.due("the class", SoundToll.class.getModifiers(), Modifier.PUBLIC | Modifier.FINAL);
        List<Class<?>> classes = new ArrayList<>(List.of(SoundToll.class.getDeclaredClasses()));
        for (Class<?> inside : classes) {
            CHECK.due(inside + " is static", Modifier.isStatic(inside.getModifiers()) ? 1 : 0, 1);
            CHECK.due(inside + " is not public", Modifier.isPublic(inside.getModifiers()) ? 1 : 0, 0);
            for (Method method : inside.getDeclaredMethods()) {
                CHECK.due(method + " has a name of its own", names.contains(method.getName()) ? 1 : 0, 0);
            }
        }
        CHECK.due("twelve classes at most", classes.size() <= 11 ? 1 : 0, 1);
    }

    private static void nothingIsMade() {
        SoundToll x = Check.made("c05,d06,b09,s03", "2[ab]<(ce)g>", "4[3[abcde]]", "a", "....");
        callAll(x);
        com.sun.management.ThreadMXBean threads =
                (com.sun.management.ThreadMXBean) ManagementFactory.getThreadMXBean();
        long before = threads.getCurrentThreadAllocatedBytes();
        callAll(x);
        long made = threads.getCurrentThreadAllocatedBytes() - before;
        CHECK.due("next to no bytes are made: " + made, made < 4096 ? 1 : 0, 1);
    }

    private static long callAll(SoundToll x) {
        long all = x.letter('a') + x.tuneFault() + x.fault() + x.write(2) + x.write(2) + x.road() + x.blank();
        for (int one = 0; one < 4; one++) {
            for (int other = 0; other < 4; other++) {
                all += x.tune(one, other) + x.beat(one, other) + x.apart(one, other) + x.alike(one, other, 0);
                all += x.often(one, other) + x.gate(one, other + 5) + x.as(one, other) + x.pays(one, other);
                all += x.worn(one, other) + x.wind(one, other) + x.toll(one, other) + x.go(one, other);
                all += x.shortest(one, other) + x.higher(one, other) + x.send(other) + x.see(one, other, true);
            }
        }
        return all + x.image() + x.restore() + x.fairs(60, 1, 0) + x.count(6) + x.digest() + x.forget() + x.burn(2);
    }
}
