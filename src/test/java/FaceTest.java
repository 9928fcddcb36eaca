import java.lang.reflect.Constructor;
import java.lang.reflect.Field;
import java.lang.reflect.Method;
import java.lang.reflect.Modifier;
import java.util.Set;
import java.util.TreeSet;

/** Promise 1, the constants, and the public face with nothing beside it. */
public final class FaceTest {
    private static final String[] FACE = {
        "int work 3", "int thing 1", "int part 3", "int span 3", "int apart 1", "int date 2",
        "int hold 2", "int holder 1", "int hours 1", "int sell 4", "int back 1", "int sale 2", "int gain 1",
        "int rose 1", "int lot 3", "int both 3", "long chance 3", "int shyest 0", "int inside 4",
        "int entry 1", "int mark 3", "int score 2", "int joined 0", "int joinedTo 1",
        "int owe 3", "int net 1", "int fall 2", "int count 1", "long digest 0"};

    private static final Check c = new Check("FaceTest");

    public static void main(String[] args) {
        constants();
        face();
        classesInside();
        newObject();
        yearsAtFirst();
        heldByNoneAtFirst();
        hourAtFirst();
        objectsAreApart();
        lastPromisedCall();
        laterCalls();
        c.endOf(1, 1);
    }

    private static void constants() {
        c.due("NONE", DawnFair.NONE, -1);
        c.due("BAD", DawnFair.BAD, -2);
        c.due("NO", DawnFair.NO, -3);
        c.due("FULL", DawnFair.FULL, -4);
    }

    private static void face() {
        c.holds("the class is public and final", Modifier.isPublic(DawnFair.class.getModifiers())
            && Modifier.isFinal(DawnFair.class.getModifiers()));
        Set<String> want = new TreeSet<>(Set.of(FACE));
        Set<String> open = new TreeSet<>();
        Set<String> hidden = new TreeSet<>();
        for (Method m : DawnFair.class.getDeclaredMethods()) {
            if (Modifier.isPrivate(m.getModifiers())) {
                hidden.add(m.getName());
            } else {
                open.add(m.getReturnType() + " " + m.getName() + " " + m.getParameterCount());
            }
        }
        c.holds("methods that are not private are the face: " + open, open.equals(want));
        for (String method : want) {
            c.holds("no private method bears a public name: " + method, !hidden.contains(method.split(" ")[1]));
        }
        Set<String> fields = new TreeSet<>();
        for (Field f : DawnFair.class.getDeclaredFields()) {
            if (!Modifier.isPrivate(f.getModifiers())) {
                fields.add(f.getName());
            }
        }
        c.holds("fields that are not private: " + fields, fields.equals(Set.of("NONE", "BAD", "NO", "FULL")));
        Constructor<?>[] made = DawnFair.class.getDeclaredConstructors();
        c.holds("one public constructor", made.length == 1 && Modifier.isPublic(made[0].getModifiers()));
    }

    private static void classesInside() {
        for (Class<?> inside : DawnFair.class.getDeclaredClasses()) {
            int modifiers = inside.getModifiers();
            c.holds(inside.getName() + " is static", Modifier.isStatic(modifiers));
            c.holds(inside.getName() + " is not in the face",
                !Modifier.isPublic(modifiers) && !Modifier.isProtected(modifiers));
            int fields = 0;
            for (Field f : inside.getDeclaredFields()) {
                fields += Modifier.isStatic(f.getModifiers()) ? 0 : 1;
            }
            c.holds(inside.getName() + " has twenty fields at most", fields <= 20);
        }
    }

    private static void newObject() {
        c.promise(1, "As told; no THINGS, SALES, LOTS, ENTRIES, DEBTS.");
        DawnFair x = new DawnFair();
        int[] none = {0, 1, 2, 3, 4, 6};
        for (int what : none) {
            c.due("count(" + what + ")", x.count(what), 0);
        }
        c.due("no thing", x.holder(0), Check.BAD);
        c.due("no sale", x.sale(0, 0), Check.NONE);
        c.due("no entry", x.joinedTo(0), Check.BAD);
        c.due("nothing joined", x.joined(), 0);
        c.due("no lots", x.both(0, 1, 0), 0);
        for (int a = 0; a < 8; a++) {
            c.due("gain", x.gain(a), 0);
            c.due("net", x.net(a), 0);
            c.due("fall", x.fall(a, 0), 1 << a);
        }
        c.due("the first thing", x.thing(1), 0);
        x.hold(0, 0);
        c.due("the first sale", x.sell(0, 1, 0, 0), 0);
        c.due("the first lot", x.lot(1, 1, 0), 0);
        c.due("the first entry", x.entry(0), 0);
        c.due("the first debt", x.owe(0, 1, 1), 0);
    }

    private static void yearsAtFirst() {
        c.promise(1, "(1600 .. 1950; all of these at first)");
        DawnFair x = new DawnFair();
        x.thing(5);
        for (int w = 0; w < 10; w++) {
            x.part(0, 0, 1 << w);
            c.due("the first year of work " + w, x.span(0, 0, 0), 1600);
            c.due("the last year of work " + w, x.span(0, 0, 1), 1950);
        }
    }

    private static void heldByNoneAtFirst() {
        c.promise(1, "or by none (at first)");
        DawnFair x = Check.withThings(12);
        for (int i = 0; i < 12; i++) {
            c.due("holder(" + i + ")", x.holder(i), Check.NONE);
        }
    }

    private static void hourAtFirst() {
        c.promise(1, "THE HOUR is 4 at first.");
        DawnFair x = new DawnFair();
        c.due("THE HOUR", x.count(5), 4);
        c.due("an hour later", x.hours(1), 5);
    }

    private static void objectsAreApart() {
        c.promise(1, "A new object");
        DawnFair x = new DawnFair();
        long before = x.digest();
        DawnFair y = new DawnFair();
        y.work(0, 1700, 1800);
        y.thing(2);
        y.hold(0, 1);
        y.sell(0, 2, 10, 0);
        y.lot(3, 1, 0);
        y.entry(1);
        y.owe(0, 1, 5);
        c.due("another object's digest", x.digest(), before);
        c.due("the digest of one made later", new DawnFair().digest(), before);
    }

    private static void lastPromisedCall() {
        c.promise(1, "An object is used for at most 512 calls after it has been made");
        DawnFair x = new DawnFair();
        for (int call = 1; call <= 511; call++) {
            x.thing(5);
        }
        c.due("call 512", x.count(0), 12);
    }

    /** Nothing is promised of what later calls answer, but the language lets none throw: that would end the test. */
    private static void laterCalls() {
        c.promise(1, "what later calls answer is free.");
        DawnFair x = Check.withThings(12);
        for (int round = 0; round < 2000; round++) {
            x.hours(20);
            x.hold(round % 12, round % 8);
            x.sell(round % 12, (round + 1) % 8, round, 0);
            x.back(round % 12);
            x.lot(255, 255, round % 8);
            x.entry(round);
            x.joinedTo(round % 10);
            x.shyest();
            x.digest();
        }
        c.due("a call after all of these", x.hours(0), Check.BAD);
    }
}
