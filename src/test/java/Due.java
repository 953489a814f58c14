/** What the tests share: the answers that are due, and FRONTS from plain strings. */
final class Due {
    private static int wrong = 0;
    private static int looked = 0;
    private static String sentence = "";
    private static int lookedAtSentence = 0;

    private Due() { }

    /** What is looked at from here on is what these words of the document say; none may go without an answer. */
    static void says(String where, String words) {
        closeSentence();
        sentence = where + ", \"" + words + "\": ";
        lookedAtSentence = looked;
    }

    private static void closeSentence() {
        if (!sentence.isEmpty() && looked == lookedAtSentence) {
            wrong++;
            System.out.println(sentence + "nothing was looked at");
        }
    }

    static void is(String call, long got, long want) {
        looked++;
        if (got != want) {
            wrong++;
            System.out.println(sentence + call + " answered " + got + ", due is " + want);
        }
    }

    /** A FINDING is answered, and it is this one. */
    static void finding(FlossRumours x, String call, long got, int want) {
        is(call, got, FlossRumours.FINDING);
        is(call + ": finding()", x.finding(), want);
    }

    static void write(FlossRumours x, int t, String text) {
        is("text of " + text, x.text(t, text.length()), text.length());
        for (int i = 0; i < text.length(); i++) x.put(t, i, text.charAt(i));
    }

    static FlossRumours front(String text) {
        FlossRumours x = new FlossRumours();
        write(x, 0, text);
        int people = 0;
        for (char c : text.toCharArray()) if ("pbgwil".indexOf(c) >= 0) people++;
        is("front of " + text, x.front(0), people);
        return x;
    }

    static void row(FlossRumours x, int r, int... ints) {
        is("row of " + ints.length, x.row(r, ints.length), ints.length);
        for (int i = 0; i < ints.length; i++) is("lay", x.lay(r, i, ints[i]), 1);
    }

    static void one(FlossRumours x, int i, int what, int want) {
        is("one(" + i + ", " + what + ")", x.one(i, what), 1);
        is("one(" + i + ", " + what + "): asked()", x.asked(), want);
    }

    /** What each one of PEOPLE HAS. */
    static void has(FlossRumours x, int... want) {
        for (int i = 0; i < want.length; i++) one(x, i, 2, want[i]);
    }

    static void cloud(FlossRumours x, int size, int place) {
        is("the cloud", x.count(1), size);
        is("its place", x.count(2), place);
    }

    static void parts(FlossRumours x, String call, long got, long upper, long lower) {
        is(call, got, 1);
        is(call + ": upper()", x.upper(), upper);
        is(call + ": lower()", x.lower(), lower);
    }

    static void asked(FlossRumours x, String call, long got, long want, int told) {
        is(call, got, want);
        is(call + ": asked()", x.asked(), told);
    }

    /** A cloud of a size where the cloud is; the DEEDS grow by some SPOONS. */
    static void spoons(FlossRumours x, int size) {
        for (int left = size; left > 0; left -= 9) x.spoon(Math.min(9, left));
        is("the cloud", x.count(1), size);
    }

    static void end() {
        closeSentence();
        System.out.println(wrong == 0 ? looked + " answers are as due" : wrong + " of " + looked + " answers are not as due");
        if (wrong != 0 || looked == 0) System.exit(1);
    }
}
