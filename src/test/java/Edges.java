import java.util.function.Supplier;
import java.util.function.ToIntFunction;

/** What the tests of boundary sentences share: objects in told states, and calls that are refused there. */
final class Edges {
    static final int BAD = FlossRumours.BAD, FULL = FlossRumours.FULL, STATE = FlossRumours.STATE, NONE = FlossRumours.NONE;
    static final int NOTHING = 1, BEYOND = 2, UNLIKE = 3, NOUGHT = 4, SIZE = 5;
    static final int LOW = Integer.MIN_VALUE, HIGH = Integer.MAX_VALUE;
    static final String SIX = "d34 p305 b312 g400 w400 i500 l524";

    private Edges() { }

    /** No PEOPLE; ROW 5 and asked() hold 777, TEXT 3 is there, the latest FINDING is NOUGHT. */
    static FlossRumours bare() {
        return stamped(new FlossRumours());
    }

    /** Six of PEOPLE, a CLOUD, WIND 2; a FRONT of 2 DEEDS is kept in place 1; upper() by lower() is 7 by 12. */
    static FlossRumours people() {
        FlossRumours x = Due.front(SIX);
        x.wind(2);
        x.spoon(9);
        x.keep(1);
        x.turn();
        return stamped(withParts(x));
    }

    /** Two of PEOPLE at PLACE 3, WIND 1, no RAIN, no CLOUD, 40 DEEDS. */
    static FlossRumours full() {
        FlossRumours x = Due.front("d34 p305 b312");
        for (int k = 0; k < 20; k++) {
            x.wind(2);
            if (k == 3) x.keep(1);
            x.wind(1);
        }
        return stamped(x);
    }

    /** As full(), but with a CLOUD of 60. */
    static FlossRumours fullWithCloud() {
        FlossRumours x = Due.front("d34 p305 b312");
        Due.spoons(x, 60);
        for (int k = x.count(6); k < 40; k++) x.wind(x.count(3) == 1 ? 2 : 1);
        return stamped(x);
    }

    private static FlossRumours withParts(FlossRumours x) {
        // the one that stands where the cloud comes gathers by 7 of 12, for nobody is ahead of it there
        Due.parts(x, "odds(2, 5)", x.odds(2, 5), 0, 1);
        Due.parts(x, "odds(4, 5)", x.odds(4, 5), 7, 12);
        return x;
    }

    private static FlossRumours stamped(FlossRumours x) {
        x.text(3, 2);
        x.row(4, 0);
        Due.finding(x, "mean of none", x.mean(4), NOUGHT);
        x.tear(4);
        x.row(5, 1);
        x.lay(5, 0, 777);
        Due.asked(x, "at(5, 0)", x.at(5, 0), 1, 777);
        return x;
    }

    /** Refused, and not by a FINDING. */
    static void refused(Supplier<FlossRumours> made, String call, ToIntFunction<FlossRumours> does, int want) {
        look(made, call, does, want, 0);
    }

    /** Refused by a FINDING. */
    static void found(Supplier<FlossRumours> made, String call, ToIntFunction<FlossRumours> does, int finding) {
        look(made, call, does, FlossRumours.FINDING, finding);
    }

    /** Looks at the answer, and that nothing is changed by it but finding(), findings(). */
    private static void look(
            Supplier<FlossRumours> made, String call, ToIntFunction<FlossRumours> does, int want, int finding) {
        FlossRumours x = made.get();
        FlossRumours twin = made.get();
        Due.is(call, does.applyAsInt(x), want);
        Due.is(call + ", then finding()", x.finding(), finding == 0 ? twin.finding() : finding);
        for (int f = 1; f <= 5; f++) {
            Due.is(call + ", then findings(" + f + ")", x.findings(f), twin.findings(f) + (f == finding ? 1 : 0));
        }
        alike(call, x, twin);
    }

    /** Two objects that tell the same, and have the same behind what is undone and what is gone on from. */
    private static void alike(String call, FlossRumours x, FlossRumours twin) {
        Due.is(call + ", then asked()", x.asked(), twin.asked());
        Due.is(call + ", then upper()", x.upper(), twin.upper());
        Due.is(call + ", then lower()", x.lower(), twin.lower());
        Due.is(call + ", then digest()", x.digest(), twin.digest());
        for (int n = twin.count(6); n >= 0; n -= 7) {
            Due.is(call + ", then undo(" + n + ")", x.undo(n), twin.undo(n));
            Due.is(call + ", then undo(" + n + "), digest()", x.digest(), twin.digest());
        }
        for (int k = 0; k < 3; k++) {
            Due.is(call + ", then on(" + k + ")", x.on(k), twin.on(k));
            Due.is(call + ", then on(" + k + "), digest()", x.digest(), twin.digest());
        }
    }

    /** Does something behind which the object is given on. */
    static FlossRumours with(FlossRumours x, ToIntFunction<FlossRumours> does) {
        does.applyAsInt(x);
        return x;
    }
}
