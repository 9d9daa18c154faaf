/** Counts what answers as it is due, and prints what does not. */
final class Checks {
    /** A call whose answer or exception is looked at. */
    interface Call {
        Object answer();
    }

    private final String title;
    private String sentence = "";
    private int right;
    private int wrong;
    private int atSentence;

    Checks(String title) {
        this.title = title;
    }

    /** What is checked from here on tests these words, which stand in that part of the document. */
    void sentence(String part, String words) {
        endSentence();
        sentence = part + " \"" + words + "\": ";
        check(Document.says(part, words), "the document", "it does not say so", "that it says so");
        atSentence = right + wrong;
    }

    void same(String what, long got, long want) {
        check(got == want, what, Long.toString(got), Long.toString(want));
    }

    void same(String what, double got, double want) {
        check(got == want, what, Double.toString(got), Double.toString(want));
    }

    void same(String what, String got, String want) {
        check(got.equals(want), what, got, want);
    }

    void isTrue(String what, boolean got) {
        check(got, what, "false", "true");
    }

    /** The call throws that very class, and the digest (so: what can be asked) is the same behind it. */
    void refuses(String what, Palmward glass, Class<? extends RuntimeException> due, Call call) {
        long before = glass.digest();
        same(what, textOf(call), "throws." + due.getSimpleName());
        same(what + " changes nothing", glass.digest(), before);
    }

    void refusesIndex(String what, Palmward glass, Call call) {
        refuses(what, glass, IndexOutOfBoundsException.class, call);
    }

    void refusesArgument(String what, Palmward glass, Call call) {
        refuses(what, glass, IllegalArgumentException.class, call);
    }

    static String textOf(Call call) {
        try {
            return String.valueOf(call.answer());
        } catch (RuntimeException thrown) {
            return "throws." + thrown.getClass().getSimpleName();
        }
    }

    void end() {
        endSentence();
        System.out.println(title + ": " + right + " right, " + wrong + " wrong");
        if (wrong != 0) {
            System.exit(1);
        }
    }

    /** A sentence that nothing was checked for would only look tested. */
    private void endSentence() {
        if (!sentence.isEmpty()) {
            check(right + wrong > atSentence, "its checks", "none", "one or more");
        }
        sentence = "";
    }

    private void check(boolean isRight, String what, String got, String want) {
        if (isRight) {
            right++;
        } else {
            wrong++;
            System.out.println(title + ": " + sentence + what + " answered " + got + ", due is " + want);
        }
    }
}
