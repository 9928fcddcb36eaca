import java.lang.reflect.Constructor;
import java.lang.reflect.Field;
import java.lang.reflect.Method;
import java.lang.reflect.Modifier;
import java.util.Set;
import java.util.TreeSet;

/** Promise 1, the constants, and the public face with nothing beside it. */
public final class FaceTest {
    private static final String[] FACE = {
        "int work 3", "int thing 1", "int part 3", "int span 3", "int apart 1", "int date 2",
        "int hold 2", "int holder 1", "int hours 1", "int sell 4", "int back 1", "int sale 2", "int gain 1",
        "int rose 1", "int lot 3", "int both 3", "long chance 3", "int shyest 0", "int inside 4",
        "int entry 1", "int mark 3", "int score 2", "int joined 0", "int joinedTo 1",
        "int owe 3", "int net 1", "int fall 2", "int count 1", "long digest 0"};

    public static void main(String[] args) {
        Check c = new Check("FaceTest");
        c.due("NONE", DawnFair.NONE, -1);
        c.due("BAD", DawnFair.BAD, -2);
        c.due("NO", DawnFair.NO, -3);
        c.due("FULL", DawnFair.FULL, -4);
        face(c);
        newObject(c);
        objectsAreApart(c);
        c.end();
    }

    private static void face(Check c) {
        c.holds("the class is public and final", Modifier.isPublic(DawnFair.class.getModifiers())
            && Modifier.isFinal(DawnFair.class.getModifiers()));
        Set<String> want = new TreeSet<>(Set.of(FACE));
        Set<String> open = new TreeSet<>();
        Set<String> hidden = new TreeSet<>();
        for (Method m : DawnFair.class.getDeclaredMethods()) {
            if (Modifier.isPrivate(m.getModifiers())) {
                hidden.add(m.getName());
            } else {
                open.add(m.getReturnType() + " " + m.getName() + " " + m.getParameterCount());
            }
        }
        c.holds("methods that are not private are the face: " + open, open.equals(want));
        for (String method : want) {
            c.holds("no private method bears a public name: " + method, !hidden.contains(method.split(" ")[1]));
        }
        Set<String> fields = new TreeSet<>();
        for (Field f : DawnFair.class.getDeclaredFields()) {
            if (!Modifier.isPrivate(f.getModifiers())) {
                fields.add(f.getName());
            }
        }
        c.holds("fields that are not private: " + fields, fields.equals(Set.of("NONE", "BAD", "NO", "FULL")));
        Constructor<?>[] made = DawnFair.class.getDeclaredConstructors();
        c.holds("one public constructor", made.length == 1 && Modifier.isPublic(made[0].getModifiers()));
    }

    private static void newObject(Check c) {
        DawnFair x = new DawnFair();
        for (int what = 0; what <= 6; what++) {
            c.due("new count(" + what + ")", x.count(what), what == 5 ? 4 : 0);
        }
        c.due("new holder(0)", x.holder(0), Check.BAD);
        c.due("new sale(0, 0)", x.sale(0, 0), Check.NONE);
        c.due("new score(0, 0)", x.score(0, 0), Check.BAD_SCORE);
        c.due("new joined()", x.joined(), 0);
        c.due("new shyest()", x.shyest(), 1);
        for (int a = 0; a < 8; a++) {
            c.due("new gain", x.gain(a), 0);
            c.due("new net", x.net(a), 0);
            c.due("new fall", x.fall(a, 0), 1 << a);
        }
        x.thing(5);
        for (int w = 0; w < 10; w++) {
            x.part(0, 0, 1 << w);
            c.due("new years of " + w, x.span(0, 0, 0), 1600);
            c.due("new years of " + w, x.span(0, 0, 1), 1950);
        }
    }

    private static void objectsAreApart(Check c) {
        DawnFair x = new DawnFair();
        long before = x.digest();
        DawnFair y = new DawnFair();
        y.work(0, 1700, 1800);
        y.thing(2);
        y.hold(0, 1);
        y.sell(0, 2, 10, 0);
        y.lot(3, 1, 0);
        y.entry(1);
        y.owe(0, 1, 5);
        c.due("another object's digest", x.digest(), before);
    }
}
