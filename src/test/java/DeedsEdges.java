/** Edges that the document names of promises 12 to 20, and of deeds by the Terms. */
final class DeedsEdges {
    private static final String TEXT = "butt eye 9 11;top 20 falls 4 cost 15;shooter shake 0;shooter shake 2;wind 3;";
    private static final String FOUR = "butt eye 9 11;shooter shake 0;shooter shake 0;shooter shake 0;shooter shake 0;";
    private static final int MOST = Integer.MAX_VALUE;
    private static final int LEAST = Integer.MIN_VALUE;

    private DeedsEdges() {
    }

    static void all() {
        shots();
        shotsAnswer();
        whyNot();
        waits();
        heals();
        winds();
        undoneCalls();
        eldestAreForgotten();
        undo();
        deeds();
        othersCant();
        judged();
        performed();
        days();
        daysCount();
        leads();
        manyCalls();
    }

    private static void shots() {
        Check.terms(12, "To SHOOT (with a LOT told): what it SCORES comes to the shooter's POINTS; if it TOUCHES, the eye being OPEN, "
            + "the eye is HURT once more; then it is the next MINUTE (0 at first).");
        LashRing x = Check.ring(TEXT);
        Check.due("minute at first", x.count(7), 0);
        Check.due("a touch, shut", x.shoot(0, 9, 0), 0);
        Check.due("not hurt", x.count(8), 0);
        Check.due("the next minute", x.count(7), 1);
        Check.due("a touch, open", x.shoot(0, 11, 0), -15);
        Check.due("hurt once", x.count(8), 1);
        Check.due("points", x.points(0), -15);
        Check.due("beside it, shut", x.shoot(1, 12, 5), 20);
        Check.due("beside it, open", x.shoot(0, 8, 0), 20);
        Check.due("not hurt by that", x.count(8), 1);
        Check.due("points", x.points(0), 5);
        Check.due("the other's points", x.points(1), 20);
        Check.due("minute", x.count(7), 4);
        // By its LOT: 0 strays by -2 onto 11, a touch; the eye is shut.
        Check.due("by LOT 0", x.shoot(1, 13, 0), 0);
        Check.due("by LOT 9", x.shoot(1, 10, 9), -15);
        Check.due("hurt twice", x.count(8), 2);
        // A free touch of the open eye hurts as well.
        LashRing y = Check.ring("butt eye 5 5;top 1 falls 1 cost 0;shooter shake 0;opens:1=1;");
        Check.due("no cost", y.shoot(0, 5, 0), 0);
        Check.due("but hurt", y.count(8), 1);
        // The law is asked in the MINUTE of the SHOT and as HURT as ahead of it.
        LashRing z = Check.ring("butt eye 5 5;shooter shake 0;opens:minute=0 and hurt=0;");
        Check.due("in minute 0", z.shoot(0, 5, 0), -10);
        Check.due("in minute 1", z.shoot(0, 5, 0), 0);
    }

    private static void shotsAnswer() {
        Check.promise(12, "To SHOOT: what it SCORES.");
        LashRing x = Check.ring("butt eye 0 0;top 99 falls 99 cost 99;shooter shake 0;opens:1=1;strays:age;");
        Check.due("the most", x.shoot(0, 1, 0), 99);
        Check.due("older", x.shoot(0, 1, 0), 0);
        Check.due("older still, the last place", x.shoot(0, 20, 9), 0);
        LashRing y = Check.ring("butt eye 0 0;top 99 falls 99 cost 99;shooter shake 0;opens:1=1;");
        Check.due("the least", y.shoot(0, 0, 0), -99);
        Check.promise(12, "-11.");
        for (int v : new int[] {-1, LEAST, MOST}) {
            Twins.refuse(-99000011, "shoot, shooter " + v, t -> t.shoot(v, 0, 0));
            Twins.refuse(-99000011, "shoot, AIM " + v, t -> t.shoot(0, v, 0));
            Twins.refuse(-99000011, "shoot, LOT " + v, t -> t.shoot(0, 0, v));
        }
        Twins.refuse(-99000011, "shoot(2, 0, 0)", t -> t.shoot(2, 0, 0));
        Twins.refuse(-99000011, "shoot(0, 21, 0)", t -> t.shoot(0, 21, 0));
        Twins.refuse(-99000011, "shoot(0, 0, 10)", t -> t.shoot(0, 0, 10));
    }

    private static void whyNot() {
        Check.terms(17, "Why not: 1 no such shooter, AIM, LOT, WIND.");
        LashRing x = Check.ring(TEXT);
        for (long v : new long[] {30000, 12100, 10010, 20, 9}) {
            Check.tray(x, 0, 2, v);
            Check.due("why not " + v, x.judge(0, 1), 1);
            Check.due("where " + v, x.judge(0, 0), 0);
        }
        Check.due("no shooter", x.shoot(2, 0, 0), -99000011);
        Check.due("no AIM", x.shoot(0, 21, 0), -99000011);
        Check.due("no LOT", x.shoot(0, 0, 10), -99000011);
        Check.due("no WIND", x.wind(10), -11);
    }

    private static void waits() {
        Check.terms(13, "To WAIT: the next MINUTE.");
        LashRing x = Check.ring(TEXT);
        x.shoot(0, 8, 0);
        Check.due("the next one", x.waits(1), 2);
        Check.due("nothing is scored", x.points(0), 20);
        Check.due("nobody is older", x.shooter(0, 1), 1);
        Check.promise(13, "To WAIT n MINUTES (1 to 99): which MINUTE it is then.");
        Check.due("waits(99)", x.waits(99), 101);
        Check.due("waits(1)", x.waits(1), 102);
        Check.due("one call each", x.count(9), 4);
        Check.promise(13, "-3.");
        for (int n : new int[] {0, -1, 100, MOST, LEAST}) {
            Twins.refuse(-3, "waits(" + n + ")", t -> t.waits(n));
        }
    }

    private static void heals() {
        Check.terms(14, "To HEAL: HURT 0 times.");
        LashRing x = Check.ring("butt eye 0 0;shooter shake 0;opens:1=1;");
        x.shoot(0, 0, 0);
        x.heal();
        Check.due("healed", x.count(8), 0);
        Check.due("the same minute", x.count(7), 1);
        Check.due("the points stay", x.points(0), -10);
        Check.promise(14, "To HEAL: how often it was HURT.");
        Check.due("not at all", x.heal(), 0);
        for (int i = 0; i < 11; i++) {
            x.shoot(0, 0, 0);
        }
        Check.due("counted on above 9", x.heal(), 11);
        Check.due("then not at all", x.heal(), 0);
    }

    private static void winds() {
        Check.terms(15, "Another WIND.");
        LashRing x = Check.ring("butt eye 0 0;shooter shake 0;wind 9;strays:wind;");
        x.wind(1);
        Check.due("it blows", x.lands(0, 5, 0), 6);
        Check.due("the same minute", x.count(7), 0);
        Check.promise(15, "Another WIND (0 to 9): what it was.");
        Check.due("wind(9)", x.wind(9), 1);
        Check.due("wind(0)", x.wind(0), 9);
        Check.due("as it is", x.wind(0), 0);
        Check.due("count(6)", x.count(6), 0);
        Check.promise(15, "-11.");
        for (int n : new int[] {-1, 10, MOST, LEAST}) {
            Twins.refuse(-11, "wind(" + n + ")", t -> t.wind(n));
        }
    }

    private static void undoneCalls() {
        Check.terms(16, "Calls that did some can be UNDONE each as a whole, the latest first, 10 at most (eldest are forgotten): "
            + "POINTS, ages, HURT, WIND, MINUTE.");
        LashRing x = Check.ring(TEXT);
        x.waits(98);
        x.waits(1);
        x.shoot(0, 10, 0);
        Check.due("points", x.points(0), -15);
        x.heal();
        x.wind(9);
        Check.tray(x, 0, 2, 0, 11000, 1, 15, 20800);
        Check.due("perform", x.perform(0), 5);
        Check.due("minute", x.count(7), 103);
        Check.due("day", x.day(0, 1), 1);
        Check.due("minute", x.count(7), 104);
        Check.due("calls", x.count(9), 7);
        Check.due("the day", x.undo(1), 6);
        Check.due("minute", x.count(7), 103);
        Check.due("the tray's deeds, as a whole", x.undo(1), 5);
        Check.due("minute", x.count(7), 100);
        Check.due("wind", x.count(6), 9);
        Check.due("points", x.points(0), -15);
        Check.due("the other's points", x.points(1), 0);
        Check.due("the other's age", x.shooter(1, 1), 0);
        Check.due("age", x.shooter(0, 1), 1);
        Check.due("the wind", x.undo(1), 4);
        Check.due("wind", x.count(6), 3);
        Check.due("not hurt", x.count(8), 0);
        Check.due("the healing", x.undo(1), 3);
        Check.due("hurt", x.count(8), 1);
        Check.due("the shot", x.undo(1), 2);
        Check.due("points", x.points(0), 0);
        Check.due("age", x.shooter(0, 1), 0);
        Check.due("hurt", x.count(8), 0);
        Check.due("minute", x.count(7), 99);
        Check.due("one call of many minutes", x.undo(1), 1);
        Check.due("minute", x.count(7), 98);
    }

    private static void eldestAreForgotten() {
        LashRing x = Check.ring(TEXT);
        for (int i = 1; i <= 10; i++) {
            x.waits(1);
            Check.due("calls", x.count(9), i);
        }
        for (int i = 0; i < 13; i++) {
            x.waits(2);
            Check.due("10 at most", x.count(9), 10);
        }
        Check.due("minute", x.count(7), 36);
        Check.due("all ten", x.undo(10), 0);
        Check.due("minute", x.count(7), 16);
        Check.due("the eldest are forgotten", x.undo(1), -3);
        // What did none isn't counted: none could be, or the call only asks.
        Check.tray(x, 0, 2, 2, 0);
        Check.due("none could be", x.perform(0), 0);
        Check.tray(x, 0, 2);
        Check.due("none to be done", x.perform(0), 0);
        x.judge(0, 2);
        x.round(0, 4, 0);
        x.order(0);
        x.image(0);
        Check.due("calls", x.count(9), 0);
        LashRing y = new LashRing();
        // A seed of which the first DRAW is a shot: there is nobody.
        int seed = 0;
        while (draw(next(seed)) % 6 < 3) {
            seed++;
        }
        Check.due("a day without any", y.day(seed, 1), 0);
        Check.due("calls", y.count(9), 0);
        y.heal();
        y.wind(0);
        Check.due("to HEAL and a WIND as it was are deeds", y.count(9), 2);
    }

    private static void undo() {
        Check.promise(16, "n calls (1 to 10) are UNDONE: how many still can be.");
        LashRing x = Check.ring(TEXT);
        for (int i = 0; i < 10; i++) {
            x.waits(1);
        }
        Check.due("undo(1)", x.undo(1), 9);
        Check.due("undo(8)", x.undo(8), 1);
        Check.due("minute", x.count(7), 1);
        x.wind(8);
        Check.due("undo(2)", x.undo(2), 0);
        Check.due("minute", x.count(7), 0);
        Check.due("wind", x.count(6), 3);
        for (int i = 0; i < 25; i++) {
            x.waits(1);
            if (i % 5 == 4) {
                Check.due("undo(2)", x.undo(2), Math.min(10, 3 * (i / 5) + 5) - 2);
            }
        }
        Check.due("minute", x.count(7), 15);
        Check.promise(16, "-3: n, more than can be.");
        Twins.refuse(-3, "undo(0)", t -> t.undo(0));
        Twins.refuse(-3, "undo(-1)", t -> t.undo(-1));
        Twins.refuse(-3, "undo(11)", t -> waitOften(t, 20), t -> t.undo(11));
        Twins.refuse(-3, "undo, the most", t -> t.undo(MOST));
        Twins.refuse(-3, "undo, the least", t -> t.undo(LEAST));
        // Of the twins five calls can be undone.
        Twins.refuse(-3, "undo(6)", t -> t.undo(6));
        Check.due("undo(5)", Twins.made().undo(5), 0);
        Check.due("none yet", new LashRing().undo(1), -3);
        LashRing y = new LashRing();
        waitOften(y, 10);
        Check.due("undo(10)", y.undo(10), 0);
    }

    private static void waitOften(LashRing x, int times) {
        for (int i = 0; i < times; i++) {
            x.waits(1);
        }
    }

    private static void deeds() {
        Check.terms(18, "DEEDS in a TRAY: 0: to WAIT; 1: to HEAL; 10 to 19: WIND v - 10; 10000 to 49999: shooter (v - 10000) by 10000, "
            + "AIM (its rest) by 100, LOT (its rest): to SHOOT;");
        LashRing x = Check.ring("butt eye 0 0;top 50 falls 1 cost 7;shooter shake 9;shooter shake 9;shooter shake 9;shooter shake 9;opens:1=1;");
        done(x, 0);
        Check.due("a minute", x.count(7), 1);
        done(x, 10);
        Check.due("WIND 0", x.count(6), 0);
        done(x, 19);
        Check.due("WIND 9", x.count(6), 9);
        done(x, 10000);
        Check.due("shooter 0 at 0 by 0", x.points(0), -7);
        Check.due("hurt", x.count(8), 1);
        done(x, 1);
        Check.due("healed", x.count(8), 0);
        // By LOT 9 it strays by 7.
        done(x, 12009);
        Check.due("shooter 0 at 20 by 9", x.points(0), -7 + 31);
        done(x, 20109);
        Check.due("shooter 1 at 1 by 9", x.points(1), 50 - 7);
        done(x, 40000);
        Check.due("shooter 3 at 0 by 0", x.points(3), -7);
        done(x, 42009);
        Check.due("shooter 3 at 20 by 9", x.points(3), -7 + 31);
        Check.due("its age", x.shooter(3, 1), 2);
        Check.due("nobody else's", x.shooter(2, 1), 0);
        Check.due("minute", x.count(7), 6);
    }

    private static void done(LashRing x, long deed) {
        Check.tray(x, 0, 3, deed);
        Check.due("deed " + deed, x.perform(0), 1);
    }

    private static void othersCant() {
        Check.terms(18, "others: 1.");
        long[] others = {2, 9, 20, 99, 9999, 50000, -1, -10, LEAST, MOST, 10010, 10099, 12100, 19999, 19900, 49999, 42100, 42010,
            1L << 32, (1L << 32) + 10, (1L << 32) + 10000, Long.MAX_VALUE, Long.MIN_VALUE};
        LashRing x = Check.ring(FOUR);
        for (long v : others) {
            Check.tray(x, 0, 3, 0, v, 0);
            Check.due("where " + v, x.judge(0, 0), 1);
            Check.due("why " + v, x.judge(0, 1), 1);
        }
        LashRing y = Check.ring(TEXT);
        Check.tray(y, 0, 3, 30000);
        Check.due("there are but two", y.judge(0, 1), 1);
        // Cut to its sort another number stands there.
        x.numbers(1, 0, 1);
        Check.due("256 in 8 bits", x.write(1, 0, 256), 0);
        Check.due("is to WAIT", x.judge(1, 2), 1);
    }

    private static void judged() {
        Check.promise(17, "DEEDS, judged as if done, what 0: the first place that can't be (NONE), 1: why (0), "
            + "2: which MINUTE it is then, 3: how often it is HURT then.");
        LashRing x = Check.ring(TEXT);
        x.waits(1);
        Check.tray(x, 0, 2, 11000, 0, 11000, 0, 0);
        Check.due("all can be", x.judge(0, 0), -1);
        Check.due("why", x.judge(0, 1), 0);
        Check.due("minute", x.judge(0, 2), 6);
        Check.due("hurt", x.judge(0, 3), 2);
        Check.tray(x, 1, 2, 11000, 0, 2, 11000, 3);
        Check.due("the third can't", x.judge(1, 0), 2);
        Check.due("why", x.judge(1, 1), 1);
        Check.due("minute till then", x.judge(1, 2), 3);
        Check.due("hurt till then", x.judge(1, 3), 1);
        Check.tray(x, 2, 2, 2, 0);
        Check.due("the first can't", x.judge(2, 0), 0);
        Check.due("minute", x.judge(2, 2), 1);
        Check.tray(x, 3, 2);
        Check.due("none at all", x.judge(3, 0), -1);
        Check.due("none at all", x.judge(3, 1), 0);
        Check.due("none at all", x.judge(3, 2), 1);
        Check.due("none at all", x.judge(3, 3), 0);
        Check.due("as if: minute", x.count(7), 1);
        Check.due("as if: hurt", x.count(8), 0);
        Check.due("as if: points", x.points(0), 0);
        Check.due("as if: calls", x.count(9), 1);
        x.numbers(0, 0, 40);
        Check.due("forty minutes", x.judge(0, 2), 41);
        Check.due("the last of forty", x.write(0, 39, 2), 2);
        Check.due("can't", x.judge(0, 0), 39);
        Check.promise(17, "-2: the TRAY, what; -6.");
        for (int v : new int[] {-1, 4, MOST, LEAST}) {
            Twins.refuse(-2, "judge(" + v + ", 0)", t -> t.judge(v, 0));
            Twins.refuse(-2, "judge(0, " + v + ")", t -> t.judge(0, v));
        }
        Twins.refuse(-6, "judge(3, 0)", t -> t.judge(3, 0));
        Twins.refuse(-6, "judge(3, 3)", t -> t.judge(3, 3));
        Twins.refuse(-2, "judge(3, 4)", t -> t.judge(3, 4));
    }

    private static void performed() {
        Check.promise(18, "They are done, till one can't be: how many.");
        LashRing x = Check.ring(TEXT);
        Check.tray(x, 0, 2, 0, 0, 2, 0, 0);
        Check.due("two of five", x.perform(0), 2);
        Check.due("minute", x.count(7), 2);
        Check.due("one call", x.count(9), 1);
        Check.tray(x, 0, 2, 0, 2);
        Check.due("one of two", x.perform(0), 1);
        Check.due("a call more", x.count(9), 2);
        Check.due("undone", x.undo(1), 1);
        Check.due("minute", x.count(7), 2);
        Check.tray(x, 0, 2, 10800, 20800, 0);
        Check.due("all", x.perform(0), 3);
        Check.due("again", x.perform(0), 3);
        Check.due("points", x.points(0), 40);
        x.numbers(0, 0, 40);
        Check.due("forty", x.perform(0), 40);
        Check.due("minute", x.count(7), 48);
        x.numbers(0, 0, 0);
        Check.due("none", x.perform(0), 0);
        Check.promise(18, "-2; -6.");
        for (int tray : new int[] {-1, 4, MOST, LEAST}) {
            Twins.refuse(-2, "perform(" + tray + ")", t -> t.perform(tray));
        }
        Twins.refuse(-6, "perform(3)", t -> t.perform(3));
    }

    /** The seed behind a DRAW, worked out without an int's wrap-around. */
    private static long next(long x) {
        return Math.floorMod(1103515245L * x + 12345L, 1L << 32);
    }

    private static int draw(long x) {
        return (int) (x / 65536);
    }

    /** The same day by single calls; how many could be. */
    private static int dayByHand(LashRing x, int seed, int times) {
        long at = Math.floorMod((long) seed, 1L << 32);
        int could = 0;
        for (int i = 0; i < times; i++) {
            at = next(at);
            int sort = draw(at) % 6;
            long code = 0;
            if (sort == 0) {
                code = x.waits(1);
            } else if (sort == 1) {
                code = x.heal();
            } else if (sort == 2) {
                at = next(at);
                code = x.wind(draw(at) % 10);
            } else {
                long a = next(at);
                long b = next(a);
                at = next(b);
                code = x.shoot(draw(a) % 4, draw(b) % 21, draw(at) % 10);
            }
            could += code == -99000011 ? 0 : 1;
        }
        return could;
    }

    private static void days() {
        Check.terms(19, "A DAY by a SEED (x, an int; a DRAW: x becomes 1103515245 x + 12345, it is x >>> 16): so many times (1 to 40): "
            + "DRAW modulo 6: 0 to WAIT; 1 to HEAL; 2 WIND DRAW modulo 10; 3, 4, 5 shooter DRAW modulo 4 SHOOTS at AIM DRAW modulo 21 "
            + "by LOT DRAW modulo 10; as in a TRAY, if it can be.");
        int[] seeds = {0, 1, -1, MOST, LEAST, 65536, -65536, 12345, 987654321, -123456789};
        for (int seed : seeds) {
            for (int times : new int[] {1, 2, 7, 40}) {
                for (String text : new String[] {TEXT, FOUR}) {
                    LashRing x = Check.ring(text);
                    LashRing y = Check.ring(text);
                    String name = "day(" + seed + ", " + times + ")";
                    Check.due(name, x.day(seed, times), dayByHand(y, seed, times));
                    for (int i = 6; i <= 8; i++) {
                        Check.due(name + " count(" + i + ")", x.count(i), y.count(i));
                    }
                    for (int s = 0; s < 4; s++) {
                        Check.due(name + " points", x.points(s), y.points(s));
                        Check.due(name + " age", x.shooter(s, 1), y.shooter(s, 1));
                    }
                }
            }
        }
    }

    private static void daysCount() {
        Check.promise(19, "A DAY: how many could be.");
        Check.due("all of four shooters", Check.ring(FOUR).day(77, 40), 40);
        LashRing x = new LashRing();
        int could = x.day(77, 40);
        Check.due("not all of none", could > 0 && could < 40 ? 1 : 0, 1);
        Check.due("as a whole", x.count(9), 1);
        Check.due("undone", x.undo(1), 0);
        Check.due("minute", x.count(7), 0);
        Check.promise(19, "-3: how many times.");
        for (int times : new int[] {0, -1, 41, MOST, LEAST}) {
            Twins.refuse(-3, "day(1, " + times + ")", t -> t.day(1, times));
        }
        Check.due("1 can be", Check.ring(FOUR).day(1, 1), 1);
        Check.due("40 can be", Check.ring(FOUR).day(1, 40), 40);
    }

    private static void leads() {
        Check.promise(20, "The shooter with most POINTS, the first.");
        LashRing x = Check.ring(FOUR);
        Check.due("all have none", x.leads(), 0);
        x.shoot(3, 8, 0);
        Check.due("the last", x.leads(), 3);
        x.shoot(1, 8, 0);
        Check.due("as many: the first of them", x.leads(), 1);
        LashRing y = Check.ring("butt eye 0 0;top 1 falls 0 cost 9;shooter shake 0;shooter shake 0;opens:minute<3;");
        y.shoot(0, 0, 0);
        y.shoot(1, 0, 0);
        Check.due("both below 0", y.leads(), 0);
        y.shoot(0, 0, 0);
        Check.due("the less below", y.leads(), 1);
        Check.promise(20, "NONE: there are none.");
        Check.due("a new object", new LashRing().leads(), -1);
        Check.due("a text without", Check.ring("butt eye 0 0;").leads(), -1);
    }

    /** "An object is used for at most 512 calls": the 512th still answers as it should. */
    private static void manyCalls() {
        Check.promise(13, "which MINUTE it is then.");
        LashRing x = new LashRing();
        for (int i = 1; i <= 511; i++) {
            Check.due("waits(99)", x.waits(99), 99 * i);
        }
        Check.due("the 512th call", x.count(7), 99 * 511);
    }
}
