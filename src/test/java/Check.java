import java.util.Arrays;
import java.util.Set;
import java.util.TreeSet;

/** Compares answers with those that are due, and ends a test with exit code 1 if one differed. */
final class Check {
    static final int NONE = -1, BAD = -2, NO = -3, FULL = -4;
    static final int BAD_SUM = -2000000000, BAD_SCORE = -1000;
    static final int MIN = Integer.MIN_VALUE, MAX = Integer.MAX_VALUE;

    /** A call of the face, by its numbers. */
    interface Call {
        long answer(int... numbers);
    }

    private final String test;
    private final Set<Integer> promises = new TreeSet<>();
    private String sentence = "";
    private int wrong = 0;
    private int made = 0;
    private int sentences = 0;

    Check(String test) {
        this.test = test;
    }

    static DawnFair withThings(int n) {
        DawnFair x = new DawnFair();
        for (int i = 0; i < n; i++) {
            x.thing(1);
        }
        return x;
    }

    /** What follows tests this sentence of the document for this promise. */
    void promise(int number, String words) {
        promises.add(number);
        sentences++;
        sentence = "promise " + number + " '" + words + "': ";
        holds("the document says so", Document.says(number, words));
    }

    void due(String what, long got, long want) {
        made++;
        if (got != want) {
            wrong++;
            System.out.println(test + ": " + sentence + what + " answered " + got + ", due is " + want);
        }
    }

    void holds(String what, boolean condition) {
        due(what, condition ? 1 : 0, 1);
    }

    /** Each of the values, in one place of numbers that are else as told, has this answer and changes nothing. */
    void refused(DawnFair x, Call call, long want, int[] told, int place, int... values) {
        long before = x.digest();
        for (int value : values) {
            int[] numbers = told.clone();
            numbers[place] = value;
            due(Arrays.toString(numbers), call.answer(numbers), want);
            due("digest after " + Arrays.toString(numbers), x.digest(), before);
        }
    }

    static int[] told(int... numbers) {
        return numbers;
    }

    int wrong() {
        return wrong;
    }

    /** Fails if a promise from the first to the last was not named. */
    void endOf(int first, int last) {
        sentence = "";
        for (int number = first; number <= last; number++) {
            holds("promise " + number + " has a test", promises.contains(number));
        }
        end();
    }

    void end() {
        String named = sentences == 0 ? "" : sentences + " sentences, ";
        System.out.println(test + ": " + named + made + " answers, " + wrong + " not as due");
        if (wrong != 0) {
            System.exit(1);
        }
    }
}
