/** Each sentence of the document's beginning and its Terms that names a boundary case, by itself. */
public final class EdgesOfTermsTest {
    private static final int BAD = Edges.BAD, FULL = Edges.FULL, STATE = Edges.STATE, NONE = Edges.NONE;
    private static final int NOTHING = Edges.NOTHING, BEYOND = Edges.BEYOND, UNLIKE = Edges.UNLIKE;
    private static final int NOUGHT = Edges.NOUGHT, SIZE = Edges.SIZE;
    private static final int LOW = Edges.LOW, HIGH = Edges.HIGH;

    public static void main(String[] args) {
        calls();
        badAheadOfFull();
        badAheadOfState();
        badAheadOfFinding();
        refusedChangesNothing();
        findings();
        lowestTerms();
        setsByBits();
        rowsAndTexts();
        frontAtFirst();
        blanks();
        drumAndGrowth();
        howManyPeople();
        placesOfPeople();
        whatItHas();
        faults();
        placesGoRound();
        kinds();
        gathering();
        losing();
        atFirst();
        cloudGrows();
        cloudInRain();
        cloudGoes();
        peopleInOrder();
        thirtyAtMost();
        bishops();
        rainBehindGathering();
        cloudOfNought();
        turnsNumber();
        spoons();
        deeds();
        lots();
        Due.end();
    }

    private static void calls() {
        Due.says("What it is", "An object is used for at most 512 calls after it has been made");
        FlossRumours x = new FlossRumours();
        x.row(0, 1);
        for (int k = 2; k <= 510; k++) x.lay(0, 0, k);
        Due.is("call 511", x.at(0, 0), 1);
        Due.is("call 512", x.asked(), 510);
    }

    private static void badAheadOfFull() {
        Due.says("Terms", "the first of these that fits, in this order: BAD .. FULL");
        Edges.refused(Edges::full, "spoon(0)", x -> x.spoon(0), BAD);
        Edges.refused(Edges::full, "spoon(10)", x -> x.spoon(10), BAD);
        Edges.refused(Edges::full, "wind(3)", x -> x.wind(3), BAD);
        Edges.refused(Edges::full, "rain(2)", x -> x.rain(2), BAD);
        Edges.refused(Edges::full, "stand(2, 0)", x -> x.stand(2, 0), BAD);
        Edges.refused(Edges::full, "stand(0, 10)", x -> x.stand(0, 10), BAD);
        Edges.refused(Edges::full, "lots(1, 0)", x -> x.lots(1, 0), BAD);
        Edges.refused(Edges::full, "lots(21, 1)", x -> x.lots(21, 1), BAD);
    }

    private static void badAheadOfState() {
        Due.says("Terms", "the first of these that fits, in this order: BAD .. STATE");
        Edges.refused(Edges::bare, "spoon(0)", x -> x.spoon(0), BAD);
        Edges.refused(Edges::bare, "wind(3)", x -> x.wind(3), BAD);
        Edges.refused(Edges::bare, "rain(2)", x -> x.rain(2), BAD);
        Edges.refused(Edges::bare, "keep(3)", x -> x.keep(3), BAD);
        Edges.refused(Edges::bare, "cloud(41)", x -> x.cloud(41), BAD);
        Edges.refused(Edges::bare, "least(1, 1)", x -> x.least(1, 1), BAD);
        Edges.refused(Edges::bare, "least(0, 0)", x -> x.least(0, 0), BAD);
        Edges.refused(Edges::bare, "sets(181)", x -> x.sets(181), BAD);
        Edges.refused(Edges::bare, "sure(181)", x -> x.sure(181), BAD);
        Edges.refused(Edges::bare, "mid(13)", x -> x.mid(13), BAD);
        Edges.refused(Edges::bare, "lots(0, 1)", x -> x.lots(0, 1), BAD);
        Edges.refused(Edges::bare, "lots(1, 0)", x -> x.lots(1, 0), BAD);
        Edges.refused(Edges::fullWithCloud, "spoon(10)", x -> x.spoon(10), BAD);
    }

    private static void badAheadOfFinding() {
        Due.says("Terms", "the first of these that fits, in this order: BAD .. FINDING");
        Edges.refused(Edges::people, "row(6, -1)", x -> x.row(6, -1), BAD);
        Edges.refused(Edges::people, "copy(6, 9, 0, 9, -1)", x -> x.copy(6, 9, 0, 9, -1), BAD);
        Edges.refused(Edges::people, "copy(0, 9, 6, 9, -1)", x -> x.copy(0, 9, 6, 9, -1), BAD);
        Edges.refused(Edges::people, "text(4, -1)", x -> x.text(4, -1), BAD);
        Edges.refused(Edges::people, "mark(6, 1)", x -> x.mark(6, 1), BAD);
        Edges.refused(Edges::people, "sizes(6, 0)", x -> x.sizes(6, 0), BAD);
        Edges.refused(Edges::people, "winds(6, 0)", x -> x.winds(6, 0), BAD);
        Edges.refused(Edges::people, "kinds(6, 0)", x -> x.kinds(6, 0), BAD);
        Edges.refused(Edges::people, "next(6, 0)", x -> x.next(6, 0), BAD);
        Edges.refused(Edges::people, "sure(-1)", x -> x.sure(-1), BAD);
    }

    private static void refusedChangesNothing() {
        Due.says("Terms", "What is refused changes nothing but finding(), findings()");
        Edges.refused(Edges::people, "BAD: row(5, 41)", x -> x.row(5, 41), BAD);
        Edges.refused(Edges::people, "BAD: text(3, 61)", x -> x.text(3, 61), BAD);
        Edges.refused(Edges::people, "BAD: undo(4)", x -> x.undo(4), BAD);
        Edges.refused(Edges::full, "FULL: turn()", x -> x.turn(), FULL);
        Edges.refused(Edges::full, "FULL: lots(20, 1)", x -> x.lots(20, 1), FULL);
        Edges.refused(Edges::people, "STATE: front(3)", x -> x.front(3), STATE);
        Edges.refused(Edges::people, "STATE: wind(2)", x -> x.wind(2), STATE);
        Edges.found(Edges::people, "SIZE: row(5, -1)", x -> x.row(5, -1), SIZE);
        Edges.found(Edges::people, "SIZE: text(3, -1)", x -> x.text(3, -1), SIZE);
        Edges.found(Edges::people, "BEYOND: lay(5, 1, 5)", x -> x.lay(5, 1, 5), BEYOND);
        Edges.found(Edges::people, "BEYOND: copy(5, 0, 5, 1, 1)", x -> x.copy(5, 0, 5, 1, 1), BEYOND);
        Edges.found(Edges::people, "NOTHING: on(2)", x -> x.on(2), NOTHING);
        Edges.found(Edges::people, "UNLIKE: next(0, 5)", x -> x.next(0, 5), UNLIKE);
        Edges.found(Edges::people, "NOUGHT: sure(180)", x -> x.sure(180), NOUGHT);
    }

    private static void findings() {
        Due.says("Terms", "1 NOTHING (a ROW, a TEXT, a kept FRONT that is missing)");
        Edges.found(Edges::people, "at(0, 0)", x -> x.at(0, 0), NOTHING);
        Edges.found(Edges::people, "put(2, 0, 0)", x -> x.put(2, 0, 0), NOTHING);
        Edges.found(Edges::people, "on(0)", x -> x.on(0), NOTHING);
        Due.says("Terms", "2 BEYOND (a place of a ROW, a TEXT that there is not)");
        Edges.found(Edges::people, "at(5, 1)", x -> x.at(5, 1), BEYOND);
        Edges.found(Edges::people, "put(3, 2, 0)", x -> x.put(3, 2, 0), BEYOND);
        Due.says("Terms", "3 UNLIKE (one of another KIND; a number that is none)");
        Edges.found(Edges::people, "mark(0, 1)", x -> x.mark(0, 1), UNLIKE);
        Edges.found(Edges::people, "sizes(0, 5)", x -> x.sizes(0, 5), UNLIKE);
        Due.says("Terms", "4 NOUGHT (shared among none; nothing fits)");
        Edges.found(() -> Edges.with(Edges.people(), x -> x.row(0, 0)), "mean(0)", x -> x.mean(0), NOUGHT);
        Edges.found(Edges::people, "sure(180)", x -> x.sure(180), NOUGHT);
        Due.says("Terms", "5 SIZE (fewer than none; too many, not as many as due)");
        Edges.found(Edges::people, "row(5, -1)", x -> x.row(5, -1), SIZE);
        Edges.found(() -> Edges.with(Edges.people(), x -> x.row(0, 11)), "sizes(0, 0)", x -> x.sizes(0, 0), SIZE);
        Edges.found(() -> Edges.with(Edges.people(), x -> x.row(0, 0)), "sizes(0, 0)", x -> x.sizes(0, 0), SIZE);
    }

    private static void lowestTerms() {
        Due.says("Terms", "in lowest terms, the lower number above 0 (0 by 1)");
        FlossRumours x = Due.front("d00 p000 p000");
        Due.parts(x, "a chance of 0", x.odds(0, 6), 0, 1);
        Due.parts(x, "a mean of 0", x.mid(6), 0, 1);
        Due.parts(x, "no sets", x.sets(1), 0, 1);
        Due.parts(x, "four sets", x.sets(0), 4, 1);
        x.spoon(4);
        Due.parts(x, "a chance of 72 by 144", x.odds(0, 6), 1, 2);
        Due.parts(x, "a chance of 144 by 144", x.odds(0, 0), 1, 1);
        Due.parts(x, "a chance of 132 by 144", x.odds(0, 1), 11, 12);
        Due.parts(x, "a mean of 288 by 144", x.mid(6), 2, 1);
        Due.parts(x, "a mean of 336 by 144", x.mid(7), 7, 3);
    }

    private static void setsByBits() {
        Due.says("Terms", "Sets (of PEOPLE, of KINDS, of WINDS, of sizes 0 .. 30) are told by bits");
        FlossRumours x = Due.front("d00 p500 p500 p500 p500 p500 p005");
        Due.asked(x, "the sixth one alone", x.sets(5), 1, 32);
        Due.row(x, 0, 0);
        Due.is("all kinds", x.kinds(0, 0), 63);
        Due.is("all winds", x.winds(0, 0), 7);
        Due.is("all sizes", x.sizes(0, 0), HIGH);
        Due.row(x, 0, 6);
        Due.is("size 1 alone", x.sizes(5, 0), 2);
        x = Due.front("d00 p005 b004");
        x.stand(1, 5);
        Due.row(x, 0, 5);
        Due.is("size 0 alone", x.sizes(0, 0), 1);
        x = Due.front("d00 g000 g000 g000 p000");
        Due.row(x, 0, 2, 2);
        Due.is("sizes 29, 30", x.sizes(3, 0), 3 << 29);
    }

    private static void rowsAndTexts() {
        Due.says("Terms", "ROWS 0 .. 5 are rows of 0 to 40 ints");
        FlossRumours x = new FlossRumours();
        for (int r = 0; r <= 5; r++) {
            Due.is("row(" + r + ", 40)", x.row(r, 40), 40);
            Due.is("the last place", x.lay(r, 39, r), 1);
            Due.finding(x, "behind it", x.lay(r, 40, r), BEYOND);
        }
        for (int r = 0; r <= 5; r++) Due.asked(x, "its own place", x.at(r, 39), 1, r);
        for (int r = 0; r <= 5; r++) Due.is("row(" + r + ", 0)", x.row(r, 0), 0);
        Due.is("there are six", x.count(12), 6);
        Due.is("row(6, 0)", x.row(6, 0), BAD);
        Due.says("Terms", "TEXTS 0 .. 3 rows of 0 to 60 bytes");
        for (int t = 0; t <= 3; t++) {
            Due.is("text(" + t + ", 60)", x.text(t, 60), 60);
            Due.is("the last place", x.put(t, 59, t), 1032);
            Due.finding(x, "behind it", x.put(t, 60, t), BEYOND);
        }
        for (int t = 0; t <= 3; t++) Due.is("its own place", x.put(t, 59, 0), 1000 + t);
        for (int t = 0; t <= 3; t++) Due.is("text(" + t + ", 0)", x.text(t, 0), 0);
        Due.is("there are four", x.count(13), 4);
        Due.is("text(4, 0)", x.text(4, 0), BAD);
        Due.says("Terms", "or missing (at first)");
        x = new FlossRumours();
        for (int r = 0; r <= 5; r++) Due.finding(x, "at(" + r + ", 0)", x.at(r, 0), NOTHING);
        for (int t = 0; t <= 3; t++) Due.finding(x, "fault(" + t + ")", x.fault(t), NOTHING);
    }

    private static void frontAtFirst() {
        Due.says("Terms", "A FRONT (without PEOPLE at first)");
        FlossRumours x = new FlossRumours();
        Due.is("people", x.count(0), 0);
        Due.is("turn()", x.turn(), STATE);
        Due.is("one(0, 0)", x.one(0, 0), BAD);
    }

    private static void faultIs(String text, int want) {
        FlossRumours x = new FlossRumours();
        Due.write(x, 1, text);
        Due.is("fault of '" + text + "'", x.fault(1), want);
        if (want != NONE) Due.is("front of '" + text + "'", x.front(1), STATE);
        else Due.is("front of '" + text + "' can be", x.front(1) > 0 ? 1 : 0, 1);
    }

    private static void blanks() {
        Due.says("Terms", "blanks (32) ahead, between, behind as many as wanted");
        faultIs("d34p305b312", NONE);
        faultIs(" d34 p305 b312 ", NONE);
        faultIs("     d34p305b312", NONE);
        faultIs("d34     p305b312", NONE);
        faultIs("d34p305     b312", NONE);
        faultIs("d34p305b312     ", NONE);
        faultIs(" ".repeat(53) + "d34p305", NONE);
        faultIs("d34" + " ".repeat(53) + "p305", NONE);
        faultIs("d34p305" + " ".repeat(53), NONE);
        faultIs((char) 9 + "d34p305", 0);
        faultIs("d34" + (char) 31 + "p305", 3);
        faultIs("d34p305" + (char) 33, 7);
        faultIs("d34p305" + (char) 0, 7);
        Due.says("Terms", "none within items");
        faultIs("d 34p305", 1);
        faultIs("d3 4p305", 2);
        faultIs("d34p 305", 4);
        faultIs("d34p3 05", 5);
        faultIs("d34p30 5", 6);
    }

    private static void drumAndGrowth() {
        Due.says("Terms", "First d (100), the PLACE of the DRUM (0 .. 9), the GROWTH (0 .. 9), one figure each");
        for (String text : new String[] {"d00p305", "d09p305", "d90p305", "d99p305"}) {
            FlossRumours x = Due.front(text);
            Due.is("the drum of " + text, x.count(7), text.charAt(1) - '0');
            Due.is("the growth of " + text, x.count(8), text.charAt(2) - '0');
        }
        faultIs("c34p305", 0);
        faultIs("e34p305", 0);
        faultIs("D34p305", 0);
        faultIs("p305d34", 0);
        faultIs("d/4p305", 1);
        faultIs("d:4p305", 1);
        faultIs("d3/p305", 2);
        faultIs("d3:p305", 2);
        faultIs("d345p305", 3);
        faultIs("d34d34p305", 3);
    }

    private static void howManyPeople() {
        Due.says("Terms", "Then PEOPLE (1 to 6; 0, 1, .. as they come)");
        faultIs("d34", 3);
        String text = "d34";
        for (int many = 1; many <= 6; many++) {
            text += "pbgwil".charAt(many - 1) + "" + many + "1" + many;
            FlossRumours x = Due.front(text);
            for (int i = 0; i < many; i++) {
                Due.one(x, i, 0, i);
                Due.one(x, i, 1, i + 1);
                Due.one(x, i, 2, 11 + i);
            }
            Due.is("no one more", x.one(many, 0), BAD);
        }
    }

    private static void placesOfPeople() {
        Due.says("Terms", "the PLACE (0 .. 9, one figure; perhaps another one's, too)");
        FlossRumours x = Due.front("d34p000p900p000p900");
        for (int i = 0; i < 4; i++) Due.one(x, i, 1, i % 2 == 0 ? 0 : 9);
        faultIs("d34p/00", 4);
        faultIs("d34p:00", 4);
    }

    private static void whatItHas() {
        Due.says("Terms", "what it HAS (two figures, 00 .. 30)");
        Due.has(Due.front("d34p000p309p310p329p330"), 0, 9, 10, 29, 30);
        faultIs("d34p3/0", 5);
        faultIs("d34p3:0", 5);
        faultIs("d34p30/", 6);
        faultIs("d34p30:", 6);
        faultIs("d34p3000", 7);
    }

    private static void faults() {
        Due.says("Terms", "A FAULT is the first place at which it can't go on so (a letter");
        faultIs("x34p305", 0);
        faultIs("  x34p305", 2);
        faultIs("d34x305", 3);
        faultIs("d34P305", 3);
        faultIs("d34d305", 3);
        faultIs("d34 p305 x", 9);
        faultIs("d34 p305 5", 9);
        faultIs("d34p305" + (char) ('p' + 128), 7);
        Due.says("Terms", "a figure that is none such");
        faultIs("dx4p305", 1);
        faultIs("d3xp305", 2);
        faultIs("d34px05", 4);
        faultIs("d34p3x5", 5);
        faultIs("d34p30x", 6);
        faultIs("d34pppp", 4);
        faultIs("d34p305bx12q", 8);
        Due.says("Terms", "a seventh one of PEOPLE: its place");
        String six = "d34p305b312g400w400i500l524";
        faultIs(six, NONE);
        faultIs(six + " ".repeat(33), NONE);
        faultIs(six + "p305", 27);
        faultIs(six + "   p305", 30);
        faultIs(six + "p", 27);
        faultIs(six + "p399", 27);
        faultIs(six + "   x", 30);
        Due.says("Terms", "two figures above 30: the place of the first of both");
        faultIs("d34p330", NONE);
        faultIs("d34p331", 5);
        faultIs("d34p340", 5);
        faultIs("d34p399", 5);
        faultIs("d34p330p331", 9);
        faultIs("d34p331x", 5);
        Due.says("Terms", "the TEXT's size, if its end comes too early");
        faultIs("d", 1);
        faultIs("d3", 2);
        faultIs("d34", 3);
        faultIs("d34   ", 6);
        faultIs("d34p", 4);
        faultIs("d34p3", 5);
        faultIs("d34p30", 6);
        faultIs("d34p305b", 8);
        faultIs("d34p305b31", 10);
        faultIs("d34" + " ".repeat(57), 60);
        faultIs("d34" + " ".repeat(54) + "p30", 60);
        Due.says("Terms", "or there are blanks alone");
        faultIs("", 0);
        faultIs(" ", 1);
        faultIs(" ".repeat(60), 60);
    }

    private static void placesGoRound() {
        Due.says("Terms", "PLACES 0 .. 9 go round: behind 9 comes 0");
        FlossRumours x = Due.front("d90p505");
        x.spoon(9);
        x.wind(2);
        x.turn();
        Due.cloud(x, 9, 0);
        x.wind(0);
        x.turn();
        Due.cloud(x, 9, 9);
    }

    private static void kinds() {
        Due.says("Terms", "0 PERSON (p, 112), 1 BEARD (b, 98; a PERSON), 2 BAG (g, 103; a PERSON), 3 WASP (w, 119; a PERSON), "
            + "4 BISHOP (i, 105; a BEARD), 5 GIRL (l, 108; a WASP)");
        int[] letters = {112, 98, 103, 119, 105, 108};
        for (int kind = 0; kind < 6; kind++) {
            Due.one(Due.front("d34" + (char) letters[kind] + "000"), 0, 0, kind);
        }
        for (int letter = 0; letter < 256; letter++) {
            boolean isOne = "pbgwil".indexOf(letter) >= 0;
            FlossRumours x = new FlossRumours();
            Due.write(x, 0, "d34" + (char) letter + "000");
            int fault = letter == ' ' ? 4 : 3;
            Due.is("letter " + letter, x.fault(0), isOne ? NONE : fault);
        }
    }

    /** What one of each KIND would GATHER of a CLOUD. */
    private static void part(int kind, int cloud, int want) {
        FlossRumours x = Due.front("d00" + "pbgwil".charAt(kind) + "000");
        Due.is("gathers of kind " + kind + " of " + cloud, x.gathers(0, cloud), want);
        if (cloud == 0) return;
        Due.spoons(x, cloud);
        Due.is("turn() of kind " + kind + " by " + cloud, x.turn(), want > 0 ? 1 : 0);
        Due.has(x, Math.min(30, want));
    }

    private static void gathering() {
        Due.says("Terms", "Of a CLOUD that is there a PERSON GATHERS 2");
        part(0, 2, 2);
        part(0, 3, 2);
        part(0, 60, 2);
        Due.says("Terms", "one with a BEARD as a PERSON");
        part(1, 2, 2);
        part(1, 3, 2);
        part(1, 60, 2);
        Due.says("Terms", "with a BAG 9");
        part(2, 9, 9);
        part(2, 10, 9);
        part(2, 60, 9);
        Due.says("Terms", "a WASP half of it (cut)");
        part(3, 1, 0);
        part(3, 2, 1);
        part(3, 3, 1);
        part(3, 19, 9);
        part(3, 20, 10);
        part(3, 59, 29);
        part(3, 60, 30);
        Due.says("Terms", "a BISHOP as one with a BEARD");
        part(4, 2, 2);
        part(4, 3, 2);
        part(4, 60, 2);
        Due.says("Terms", "a GIRL as a WASP, but all, if it is 20 or more");
        part(5, 1, 0);
        part(5, 2, 1);
        part(5, 18, 9);
        part(5, 19, 9);
        part(5, 20, 20);
        part(5, 21, 21);
        part(5, 60, 60);
        Due.says("Terms", "never more than there is");
        part(0, 1, 1);
        part(0, 0, 0);
        part(1, 1, 1);
        part(1, 0, 0);
        part(2, 8, 8);
        part(2, 1, 1);
        part(2, 0, 0);
        part(3, 0, 0);
        part(4, 1, 1);
        part(4, 0, 0);
        part(5, 0, 0);
    }

    /** What one of each KIND HAS of has behind a TURN in RAIN. */
    private static void left(int kind, int has, int want) {
        FlossRumours x = Due.front("d00" + "pbgwil".charAt(kind) + "5" + has / 10 + has % 10);
        x.rain(1);
        x.turn();
        Due.has(x, want);
    }

    private static void losing() {
        Due.says("Terms", "In RAIN a PERSON loses: it HAS half (cut) then");
        left(0, 0, 0);
        left(0, 1, 0);
        left(0, 2, 1);
        left(0, 29, 14);
        left(0, 30, 15);
        Due.says("Terms", "one with a BEARD (BISHOP, too) none");
        left(1, 1, 1);
        left(1, 30, 30);
        left(4, 1, 1);
        left(4, 30, 30);
        Due.says("Terms", "all others as a PERSON");
        for (int kind : new int[] {2, 3, 5}) {
            left(kind, 0, 0);
            left(kind, 1, 0);
            left(kind, 29, 14);
            left(kind, 30, 15);
        }
    }

    private static void atFirst() {
        Due.says("Terms", "TURN 0 is next at first; there is no CLOUD (its size is 0, at the DRUM), the WIND is 1, no RAIN");
        FlossRumours x = Due.front("d74p305");
        Due.is("the next turn", x.count(5), 0);
        Due.cloud(x, 0, 7);
        Due.is("the wind", x.count(3), 1);
        Due.is("rain", x.count(4), 0);
        Due.is("wind(1): it is so", x.wind(1), STATE);
        Due.is("rain(0): it is so", x.rain(0), STATE);
    }

    private static void cloudGrows() {
        Due.says("Terms", "a CLOUD (size above 0) is more by the GROWTH");
        FlossRumours x = Due.front("d09p505");
        x.turn();
        Due.cloud(x, 0, 0);
        x.spoon(1);
        x.turn();
        Due.cloud(x, 10, 0);
        x = Due.front("d00p505");
        x.spoon(1);
        x.turn();
        Due.cloud(x, 1, 0);
        Due.says("Terms", "(60 at most), in RAIN");
        for (int size : new int[] {50, 51, 52, 59, 60}) {
            x = Due.front("d09p505");
            Due.spoons(x, size);
            x.turn();
            Due.cloud(x, Math.min(60, size + 9), 0);
        }
    }

    private static void cloudInRain() {
        Due.says("Terms", "in RAIN it is half (cut) instead");
        int[] sizes = {1, 2, 3, 59, 60};
        int[] halves = {0, 1, 1, 29, 30};
        for (int k = 0; k < sizes.length; k++) {
            FlossRumours x = Due.front("d09p505");
            Due.spoons(x, sizes[k]);
            x.rain(1);
            x.turn();
            Due.cloud(x, halves[k], 0);
        }
        FlossRumours x = Due.front("d09p505");
        x.rain(1);
        x.turn();
        Due.cloud(x, 0, 0);
    }

    private static void cloudGoes() {
        Due.says("Terms", "it goes one PLACE by the WIND: 0 back, 1 it stays, 2 on");
        for (int drum = 0; drum <= 9; drum++) {
            FlossRumours x = Due.front("d" + drum + "0p" + (drum + 5) % 10 + "05");
            x.spoon(3);
            x.turn();
            Due.cloud(x, 3, drum);
            x.wind(0);
            x.turn();
            Due.cloud(x, 3, drum == 0 ? 9 : drum - 1);
            x.wind(2);
            x.turn();
            x.turn();
            Due.cloud(x, 3, drum == 9 ? 0 : drum + 1);
        }
        FlossRumours x = Due.front("d40p505");
        x.wind(2);
        x.turn();
        Due.cloud(x, 0, 4);
    }

    private static void peopleInOrder() {
        Due.says("Terms", "Then PEOPLE 0, 1, .. one behind the other, each that stands where it is GATHERS of what is left");
        FlossRumours x = Due.front("d00p000g000w100w000p000b900");
        Due.spoons(x, 20);
        Due.is("turn()", x.turn(), 1 + 2 + 8 + 16);
        Due.has(x, 2, 9, 0, 4, 2, 0);
        Due.cloud(x, 3, 0);
        x = Due.front("d00g000p000");
        x.spoon(9);
        Due.is("nothing is left", x.turn(), 1);
        Due.has(x, 9, 0);
        x = Due.front("d00p000l000");
        Due.spoons(x, 21);
        x.turn();
        Due.has(x, 2, 9);
        x = Due.front("d00p000l000");
        Due.spoons(x, 22);
        x.turn();
        Due.has(x, 2, 20);
    }

    private static void thirtyAtMost() {
        Due.says("Terms", "it HAS more, 30 at most, what is more is lost; the CLOUD is less by all that");
        int[] had = {20, 21, 22, 30};
        int[] want = {29, 30, 30, 30};
        for (int k = 0; k < had.length; k++) {
            FlossRumours x = Due.front("d00g0" + had[k]);
            Due.spoons(x, 20);
            Due.is("turn()", x.turn(), 1);
            Due.has(x, want[k]);
            Due.cloud(x, 11, 0);
        }
        FlossRumours x = Due.front("d00l000");
        Due.spoons(x, 60);
        x.turn();
        Due.has(x, 30);
        Due.cloud(x, 0, 0);
    }

    private static void bishops() {
        Due.says("Terms", "behind each BISHOP that GATHERS something the CLOUD is 3 more");
        FlossRumours x = Due.front("d00i000i000p000");
        x.spoon(1);
        Due.is("turn()", x.turn(), 7);
        Due.has(x, 1, 2, 2);
        Due.cloud(x, 2, 0);
        x = Due.front("d00i000");
        Due.is("of no cloud", x.turn(), 0);
        Due.cloud(x, 0, 0);
        x = Due.front("d00g000i000");
        x.spoon(9);
        Due.is("of what is left: nothing", x.turn(), 1);
        Due.cloud(x, 0, 0);
        x = Due.front("d00i100");
        x.spoon(9);
        Due.is("not where it is", x.turn(), 0);
        Due.cloud(x, 9, 0);
        x = Due.front("d00i030");
        x.spoon(9);
        Due.is("it has 30, yet it gathers", x.turn(), 1);
        Due.cloud(x, 10, 0);
        Due.says("Terms", "(60 at most). Then, in RAIN");
        for (int size = 58; size <= 60; size++) {
            x = Due.front("d00i000");
            Due.spoons(x, size);
            x.turn();
            Due.cloud(x, Math.min(60, size + 1), 0);
        }
        x = Due.front("d00i000i000i000");
        Due.spoons(x, 58);
        x.turn();
        Due.cloud(x, 60, 0);
    }

    private static void rainBehindGathering() {
        Due.says("Terms", "Then, in RAIN, all lose");
        FlossRumours x = Due.front("d00p001p501g030b030");
        Due.spoons(x, 40);
        x.rain(1);
        Due.is("turn()", x.turn(), 1 + 4 + 8);
        // 1 and 2, then half of it; 30 at most ahead of the half
        Due.has(x, 1, 0, 15, 30);
        x.rain(0);
        x.turn();
        Due.has(x, 3, 0, 20, 30);
    }

    private static void cloudOfNought() {
        Due.says("Terms", "A CLOUD of size 0 is at the DRUM");
        FlossRumours x = Due.front("d80g000p500");
        x.spoon(9);
        x.wind(2);
        x.turn();
        Due.cloud(x, 9, 9);
        x.turn();
        Due.cloud(x, 0, 8);
        x.spoon(1);
        Due.cloud(x, 1, 8);
        x.rain(1);
        x.turn();
        Due.cloud(x, 0, 8);
        Due.asked(x, "cloud(0)", x.cloud(0), 0, 8);
    }

    private static void turnsNumber() {
        Due.says("Terms", "The next TURN's number is 1 more");
        FlossRumours x = Due.front("d00p000");
        for (int k = 0; k < 40; k++) {
            Due.is("the next turn", x.count(5), k);
            x.turn();
        }
        Due.is("the next turn", x.count(5), 40);
        x.undo(39);
        x.spoon(1);
        Due.is("a spoon is no turn", x.count(5), 39);
    }

    private static void spoons() {
        Due.says("Terms", "A SPOON of n puts n to the CLOUD (60 at most), wherever it is");
        FlossRumours x = Due.front("d80p505");
        Due.is("spoon(9)", x.spoon(9), 9);
        Due.cloud(x, 9, 8);
        x.wind(0);
        x.turn();
        Due.is("spoon(1)", x.spoon(1), 10);
        Due.cloud(x, 10, 7);
        for (int k = 0; k < 5; k++) x.spoon(9);
        Due.is("spoon(4)", x.spoon(4), 59);
        Due.is("spoon(9)", x.spoon(9), 60);
        Due.cloud(x, 60, 7);
    }

    private static void deeds() {
        Due.says("Terms", "What is done: a TURN, a SPOON, another WIND, RAIN begins, or ends, one stands elsewhere. "
            + "These are DEEDS 0, 1, ..");
        FlossRumours x = Due.front("d00p505");
        Due.is("none at first", x.count(6), 0);
        x.turn();
        Due.is("a turn", x.count(6), 1);
        x.spoon(1);
        Due.is("a spoon", x.count(6), 2);
        x.wind(2);
        Due.is("another wind", x.count(6), 3);
        x.rain(1);
        Due.is("rain begins", x.count(6), 4);
        x.rain(0);
        Due.is("rain ends", x.count(6), 5);
        x.stand(0, 6);
        Due.is("one stands elsewhere", x.count(6), 6);
        x.wind(2);
        x.rain(0);
        x.stand(0, 6);
        x.keep(0);
        x.cloud(3);
        Due.is("nothing done", x.count(6), 6);
        Due.says("Terms", "(40 at most)");
        x.undo(0);
        for (int k = 0; k < 39; k++) x.turn();
        Due.is("the fortieth", x.spoon(1), 1);
        Due.is("deeds", x.count(6), 40);
        Due.is("one more turn", x.turn(), FULL);
        Due.is("one more spoon", x.spoon(1), FULL);
        Due.is("another wind", x.wind(0), FULL);
        Due.is("rain", x.rain(1), FULL);
        Due.is("elsewhere", x.stand(0, 0), FULL);
        Due.is("lots", x.lots(1, 1), FULL);
        Due.is("deeds", x.count(6), 40);
    }

    private static void lots() {
        Due.says("Terms", "a number comes from the one ahead by 48271 times it modulo 2147483647, "
            + "the first from a seed (1 .. 2147483646)");
        // of 1: 48271, by 8, cut: 6033, modulo 8: 1, a TURN; then 182605794, 22825724, 4: a SPOON, 2853215 modulo 9: 8, 9
        FlossRumours x = Due.front("d00p505");
        Due.is("lots(1, 1)", x.lots(1, 1), 5);
        Due.is("the next turn", x.count(5), 1);
        x.undo(0);
        x.lots(2, 1);
        Due.cloud(x, 9, 0);
        // of 2147483646: 2147435376, by 8, cut: 268429422, modulo 8: 6, RAIN
        x.undo(0);
        Due.is("lots(1, 2147483646)", x.lots(1, 2147483646), 5);
        Due.is("rain", x.count(4), 1);
        Due.is("lots(1, 0)", x.lots(1, 0), BAD);
        Due.is("lots(1, HIGH)", x.lots(1, HIGH), BAD);
        Due.is("lots(1, LOW)", x.lots(1, LOW), BAD);
    }
}
