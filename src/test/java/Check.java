import java.util.List;
import java.util.function.IntSupplier;

/** Counts and prints the answers of one test that are not the ones that are due. */
final class Check {
    private final String test;
    private String sentence = "";
    private int asked = 0;
    private int wrong = 0;

    Check(String test) {
        this.test = test;
    }

    /** The document's words that the answers from here on are held against. */
    void says(String sentence) {
        this.sentence = " '" + sentence + "'";
    }

    void due(String call, long got, long want) {
        due(call, Long.toString(got), Long.toString(want));
    }

    void due(String call, String got, String want) {
        asked++;
        if (!got.equals(want)) {
            wrong++;
            System.out.println(test + sentence + ": " + call + " answered " + got + ", due is " + want);
        }
    }

    /** Only the first answer that is another is told. */
    void due(String calls, List<String> got, List<String> want) {
        for (int i = 0; i < got.size() && i < want.size(); i++) {
            if (!got.get(i).equals(want.get(i))) {
                due(calls, got.get(i), want.get(i));
                return;
            }
        }
        due(calls + ", how many answers", got.size(), want.size());
    }

    /** The class must be the very one: what the machine itself throws is often of a class below it. */
    void thrown(String call, Class<? extends RuntimeException> want, IntSupplier made) {
        String got;
        try {
            got = Integer.toString(made.getAsInt());
        } catch (RuntimeException e) {
            got = "throws." + e.getClass().getSimpleName();
        }
        due(call, got, "throws." + want.getSimpleName());
    }

    void badArgument(String call, IntSupplier made) {
        thrown(call, IllegalArgumentException.class, made);
    }

    void badIndex(String call, IntSupplier made) {
        thrown(call, IndexOutOfBoundsException.class, made);
    }

    void badState(String call, IntSupplier made) {
        thrown(call, IllegalStateException.class, made);
    }

    void tooMany(String call, IntSupplier made) {
        thrown(call, UnsupportedOperationException.class, made);
    }

    boolean isClean() {
        return wrong == 0;
    }

    void finish() {
        System.out.println(test + ": " + asked + " answers, " + wrong + " not as due");
        if (wrong != 0 || asked == 0) {
            System.exit(1);
        }
    }
}
