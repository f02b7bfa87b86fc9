/** Edges that the Terms name of all refused calls; each promise's own codes are with its other edges. */
final class RefusedEdges {
    private RefusedEdges() {
    }

    static void all() {
        nothingChanges();
        codes();
        codesApart();
        whichFirst();
        aheadOfNone();
        none();
    }

    private static void nothingChanges() {
        Check.terms(3, "Refused calls answer by a code and change nothing:");
        Twins.refuse(-3, "butt(41)", t -> t.butt(41));
        Twins.refuse(-99000011, "shoot(2, 0, 0)", t -> t.shoot(2, 0, 0));
        Twins.refuse(-3, "waits(0)", t -> t.waits(0));
        Twins.refuse(-11, "wind(10)", t -> t.wind(10));
        Twins.refuse(-3, "undo(6)", t -> t.undo(6));
        Twins.refuse(-6, "perform(3)", t -> t.perform(3));
        Twins.refuse(-3, "day(1, 41)", t -> t.day(1, 41));
        Twins.refuse(-3, "numbers(0, 0, 41)", t -> t.numbers(0, 0, 41));
        Twins.refuse(-7, "write(0, 6, 1)", t -> t.write(0, 6, 1));
        Twins.refuse(-2, "lists(0, 2, 0)", t -> t.lists(0, 2, 0));
        Twins.refuse(-2, "image(2)", t -> t.image(2));
        Twins.refuse(-5, "restore(1)", t -> t.restore(1));
        // A refused call isn't the latest one: what is undone next is the call ahead of it.
        LashRing x = Check.ring("butt eye 0 0;");
        x.waits(1);
        Check.due("waits(100)", x.waits(100), -3);
        Check.due("undo(1)", x.undo(1), 0);
        Check.due("minute", x.count(7), 0);
    }

    private static void codes() {
        Check.terms(3, "-2 there is none such; -3 a number can't be; -4 too many; -5 it can't be now; -6 a TRAY is MISSING; "
            + "-7 it has no such number; -11 why not; -30 less the FAULT: a text.");
        LashRing x = Twins.made();
        Check.due("far(21)", x.far(21), -2);
        Check.due("open(100)", x.open(100), -3);
        Check.due("shooters(2, 0)", x.shooters(2, 0), -4);
        Check.due("restore(1)", x.restore(1), -5);
        Check.due("judge(3, 0)", x.judge(3, 0), -6);
        Check.due("write(2, 0, 0)", x.write(2, 0, 0), -7);
        Check.due("wind(10)", x.wind(10), -11);
        Check.due("butt(0)", x.butt(0), -32);
    }

    private static void codesApart() {
        Check.terms(9, "Of scores(), shoot(), points(), mean(), round(), order() these codes are 99000000 less: "
            + "-99000002, -99000003, -99000011.");
        LashRing x = Twins.made();
        Check.due("scores(21)", x.scores(21), -99000002);
        Check.due("shoot(2, 0, 0)", x.shoot(2, 0, 0), -99000011);
        Check.due("points(2)", x.points(2), -99000002);
        Check.due("mean(2, 0, 0)", x.mean(2, 0, 0), -99000002);
        Check.due("round(2, 0, 0)", x.round(2, 0, 0), -99000002);
        Check.due("round(0, 5, 0)", x.round(0, 5, 0), -99000003);
        Check.due("order(1)", x.order(1), -99000002);
        // Those of the others are not.
        Check.due("begins(0, 5)", x.begins(0, 5), -3);
        Check.due("beats(0, 0, 1, 0)", x.beats(0, 0, 1, 0), -2);
        Check.due("lands(2, 0, 0)", x.lands(2, 0, 0), -2);
    }

    private static void whichFirst() {
        Check.terms(34, "(Of several that which the call tells first;");
        LashRing x = Twins.made();
        Check.due("-2 and -6: judge(3, 4)", x.judge(3, 4), -2);
        Check.due("-2 and -3: leaves(2, 100)", x.leaves(2, 100), -2);
        Check.due("-2 and -3: beats(0, 1, 4, 2)", x.beats(0, 1, 4, 2), -2);
        Check.due("-2 and -3: round(0, 5, 2)", x.round(0, 5, 2), -99000002);
        Check.due("-2 and -3: begins(2, 5)", x.begins(2, 5), -2);
        Check.due("-2 and -3: expects(2, 0, 1000)", x.expects(2, 0, 1000), -2);
        Check.due("-2 and -3: numbers(0, 4, 41)", x.numbers(0, 4, 41), -2);
        Check.due("-2 and -6: shooters(3, 21)", x.shooters(3, 21), -2);
        Check.due("-2 and -6: odds(3, 0, 2, 0)", x.odds(3, 0, 2, 0), -2);
        Check.due("-2 and -4: odds(2, 0, 0, 2)", x.odds(2, 0, 0, 2), -2);
        Check.due("-2 and -3: odds(0, 0, 2, 0)", x.odds(0, 0, 2, 0), -2);
        Check.due("-2 and -6: winds(3, 2, 0)", x.winds(3, 2, 0), -2);
        Check.due("-2 and -4: attempt(2, 0, 21)", x.attempt(2, 0, 21), -2);
        Check.due("-2 and -6: lists(3, 0, 21)", x.lists(3, 0, 21), -2);
        Check.due("-6 and -7: write(3, 41, 0)", x.write(3, 41, 0), -6);
        Check.due("-2 and -7: write(4, 41, 0)", x.write(4, 41, 0), -2);
        x.numbers(2, 3, 9);
        x.write(2, 8, 21);
        Check.due("-4 and -3: shooters(2, 0)", x.shooters(2, 0), -4);
        Check.due("-4 and -3: winds(2, 0, 0)", x.winds(2, 0, 0), -4);
        // -3 and -5: the first PLACE nobody can have shot, the second is none.
        x.numbers(2, 3, 2);
        x.write(2, 0, 20);
        x.write(2, 1, 21);
        Check.due("-3 and -5: odds(2, 0, 0, 0)", x.odds(2, 0, 0, 0), -3);
    }

    private static void aheadOfNone() {
        Check.terms(32, "all these ahead of NONE.)");
        LashRing x = Twins.made();
        Check.due("begins(2, 0)", x.begins(2, 0), -2);
        x.numbers(2, 3, 2);
        x.write(2, 0, 20);
        Check.due("none of these", x.tells(2, 10), -1);
        Check.due("by none of these", x.attempt(2, 0, 10), -1);
        x.write(2, 1, 21);
        Check.due("tells(2, 10)", x.tells(2, 10), -3);
        Check.due("attempt(2, 0, 10)", x.attempt(2, 0, 10), -3);
        LashRing y = new LashRing();
        Check.due("no shooters, MISSING", y.tells(0, 0), -6);
        y.numbers(0, 0, 0);
        Check.due("no shooters, no numbers", y.tells(0, 0), -4);
        Check.due("no shooters, no AIM", y.tells(0, 21), -2);
        Check.due("no such shooter", y.edge(0), -2);
        Check.due("no such shooter", y.dares(0), -2);
        Check.due("no such shooter", y.leaves(0, 0), -2);
        LashRing z = Check.ring("butt eye 0 0;shooter shake 0;opens:1=2;");
        Check.due("never open", z.opens(1), -1);
        Check.due("never open, but no such what", z.opens(2), -2);
        Check.due("at none", z.leaves(0, 0), -1);
        Check.due("at none, but no such n", z.leaves(0, -1), -3);
    }

    private static void none() {
        Check.terms(4, "The constants: `NONE = -1`: There is none.");
        Check.due("NONE", LashRing.NONE, -1);
        LashRing x = new LashRing();
        Check.due("fault(1)", x.fault(1), LashRing.NONE);
        Check.due("leads()", x.leads(), LashRing.NONE);
        Check.due("count(12)", x.count(12), LashRing.NONE);
    }
}
