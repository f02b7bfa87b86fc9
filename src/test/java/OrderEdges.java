/** Edges that the document names of promises 38 to 41, and of ORDER and EXPECTED by the Terms. */
final class OrderEdges {
    private static final int MOST = Integer.MAX_VALUE;
    private static final int LEAST = Integer.MIN_VALUE;
    private static final int[] NO_SHOOTERS = {-1, 2, 4, MOST, LEAST};
    private static final int[] NO_AIMS = {-1, 21, MOST, LEAST};

    private OrderEdges() {
    }

    static void all() {
        minuteByMinute();
        asHurtAsNow();
        answers();
        refusedOrders();
        expected();
        depths();
        refusedExpects();
        rests();
        guards();
    }

    private static void order(LashRing x, int sum, int... shooters) {
        Check.due("order(0)", x.order(0), sum);
        for (int i = 0; i < shooters.length; i++) {
            Check.due("order(" + (10 + i) + ")", x.order(10 + i), shooters[i]);
        }
        Check.due("order, one more", x.order(10 + shooters.length), -99000002);
    }

    private static void minuteByMinute() {
        Check.terms(38, "ORDER: each shooter SHOOTS once, MINUTE by MINUTE from now on, each at the AIM by which most is SCORED on the mean then "
            + "(as HURT as now): the most SCORED on the mean in all, of like ones the first order.");
        // Shooter 0 can't but touch: 0 shut, -200 open. Shooter 1 scores 100 ever, shooter 2 by eight LOTS: 80 shut, 40 open.
        LashRing x = Check.ring("butt eye 2 20;top 10 falls 0 cost 20;shooter shake 0;shooter shake 1;shooter shake 2;"
            + "strays:if shake=0 then 9 else if shake=1 then 0 else if lot<2 then 9 else 0 end end end;");
        order(x, 180, 0, 1, 2);
        x.waits(1);
        order(x, 140, 1, 0, 2);
        // In MINUTE 3 alone the eye is shut: the last of four is the one that touches.
        LashRing y = Check.ring("butt eye 2 20;top 10 falls 0 cost 20;shooter shake 0;shooter shake 1;shooter shake 1;shooter shake 1;"
            + "strays:if shake=0 then 9 else 0 end;opens:not minute=3;");
        order(y, 300, 1, 2, 3, 0);
        // At the AIM that is best then: by one LOT a touch at 9, shut 270, open it is 8 by 255.
        LashRing z = Check.ring("butt eye 10 20;top 30 falls 5 cost 16;shooter shake 0;shooter shake 0;strays:if lot<1 then 1 else 0 end;");
        order(z, 525, 0, 1);
        LashRing alike = Check.ring("butt eye 0 0;shooter shake 3;shooter shake 3;shooter shake 3;shooter shake 3;opens:1=1;strays:0;");
        order(alike, 400, 0, 1, 2, 3);
    }

    private static void asHurtAsNow() {
        // Being hurt would shut the eye; as HURT as now it stays OPEN.
        LashRing x = Check.ring("butt eye 0 20;top 0 falls 0 cost 3;shooter shake 0;shooter shake 0;opens:hurt=0;");
        order(x, -60, 0, 1);
        x.shoot(0, 5, 0);
        order(x, 0, 0, 1);
        Check.due("as if", x.count(7), 1);
    }

    private static void answers() {
        Check.promise(38, "ORDER, what 0: SCORED in all on the mean, times 10, 10 + i: the i-th shooter (i 0 and more).");
        order(new LashRing(), 0);
        order(Check.ring("butt eye 0 0;shooter shake 0;"), 100, 0);
        order(Check.ring("butt eye 0 20;top 0 falls 0 cost 3;shooter shake 0;opens:1=1;"), -30, 0);
        // 0.7 on the mean is 7.
        order(Check.ring("butt eye 0 0;top 7 falls 7 cost 0;shooter shake 0;strays:if lot=3 and aim=0 then 1 else 9 end;"), 7, 0);
        order(Check.ring("butt eye 0 20;top 0 falls 0 cost 99;shooter shake 0;shooter shake 0;shooter shake 0;shooter shake 0;opens:1=1;"),
            -3960, 0, 1, 2, 3);
    }

    private static void refusedOrders() {
        Check.promise(38, "-2: what (10 and as many as there are shooters, and above).");
        for (int what : new int[] {-1, 1, 9, 12, 13, 14, 100, MOST, LEAST}) {
            Twins.refuse(-99000002, "order(" + what + ")", t -> t.order(what));
        }
        LashRing four = Check.ring("butt eye 0 0;shooter shake 3;shooter shake 3;shooter shake 3;shooter shake 3;");
        Check.due("order(13)", four.order(13), 3);
        Check.due("order(14)", four.order(14), -99000002);
        Check.due("no shooters", new LashRing().order(10), -99000002);
    }

    private static void expected() {
        Check.terms(39, "EXPECTED to DEPTH d: the hand AIMS as told at DEPTH 0; at an odd DEPTH the eye is OPEN or SHUT, whichever lets less be SCORED "
            + "on the mean by the AIM of one DEPTH less (of like ones OPEN); at an even one the hand AIMS by what scores most with the eye so "
            + "(of like ones the first).");
        // Shut, 9 is best, by one LOT a touch; open it is 8.
        LashRing x = Check.ring("butt eye 10 20;top 30 falls 5 cost 16;shooter shake 0;strays:if lot<1 then 1 else 0 end;opens:1=2;");
        for (int aim = 0; aim < 21; aim++) {
            Check.due("DEPTH 0", x.expects(0, aim, 0), aim);
            // Where nothing is touched open and shut are alike: OPEN.
            Check.due("DEPTH 1", x.expects(0, aim, 1), 1);
            Check.due("DEPTH 2", x.expects(0, aim, 2), 8);
            Check.due("DEPTH 3", x.expects(0, aim, 3), 1);
        }
        Check.due("shut now", x.bestAim(0), 9);
        // 8 and 12 are alike.
        LashRing y = Check.ring("butt eye 9 11;top 20 falls 4 cost 15;shooter shake 0;");
        Check.due("the first", y.expects(0, 12, 2), 8);
        Check.due("without a cost all is alike: OPEN", Check.ring("butt eye 0 20;top 1 falls 0 cost 0;shooter shake 0;opens:1=2;").expects(0, 5, 1), 1);
    }

    private static void depths() {
        Check.promise(39, "EXPECTED of a shooter that AIMS so to DEPTH d (0 to 999): at an even one the AIM, at an odd one 1 OPEN, 0 SHUT.");
        LashRing x = Check.ring("butt eye 9 11;top 20 falls 4 cost 15;shooter shake 0;shooter shake 2;");
        Check.due("expects(1, 20, 0)", x.expects(1, 20, 0), 20);
        Check.due("expects(1, 0, 0)", x.expects(1, 0, 0), 0);
        Check.due("expects(1, 20, 998)", x.expects(1, 20, 998), 7);
        Check.due("expects(1, 20, 999)", x.expects(1, 20, 999), 1);
        Check.due("nothing was done", x.count(9), 0);
    }

    private static void refusedExpects() {
        Check.promise(39, "-2: the shooter, the AIM; -3: d.");
        for (int s : NO_SHOOTERS) {
            Twins.refuse(-2, "expects(" + s + ", 0, 0)", t -> t.expects(s, 0, 0));
            Twins.refuse(-2, "expects(" + s + ", 0, 1000)", t -> t.expects(s, 0, 1000));
        }
        for (int aim : NO_AIMS) {
            Twins.refuse(-2, "expects(0, " + aim + ", 0)", t -> t.expects(0, aim, 0));
            Twins.refuse(-2, "expects(0, " + aim + ", -1)", t -> t.expects(0, aim, -1));
        }
        for (int d : new int[] {-1, 1000, MOST, LEAST}) {
            Twins.refuse(-3, "expects(0, 0, " + d + ")", t -> t.expects(0, 0, d));
        }
    }

    private static void rests() {
        Check.promise(40, "Whether what is EXPECTED comes to rest (the same AIM at each even DEPTH from some on): 1, else 0.");
        String[] texts = {"butt eye 9 11;top 20 falls 4 cost 15;shooter shake 2;", "butt eye 0 20;top 0 falls 0 cost 99;shooter shake 9;opens:1=1;",
            "butt eye 5 15;top 30 falls 30 cost 0;shooter shake 9;", "butt eye 20 20;top 99 falls 1 cost 99;shooter shake 5;strays:lot*aim-20;"};
        for (String text : texts) {
            LashRing x = Check.ring(text);
            for (int aim = 0; aim < 21; aim++) {
                // The eye is OPEN at each odd DEPTH, as that never lets more be scored: so it rests.
                Check.due("rests(0, " + aim + ") of " + text, x.rests(0, aim), 1);
                Check.due("it does", x.expects(0, aim, 998), x.expects(0, aim, 996));
            }
        }
        Check.promise(40, "-2.");
        for (int s : NO_SHOOTERS) {
            Twins.refuse(-2, "rests(" + s + ", 0)", t -> t.rests(s, 0));
        }
        for (int aim : NO_AIMS) {
            Twins.refuse(-2, "rests(0, " + aim + ")", t -> t.rests(0, aim));
        }
    }

    private static void guards() {
        Check.promise(41, "The AIM by which a shooter SCORES most on the mean, OPEN or SHUT, whichever is less, of like ones the first.");
        LashRing x = Check.ring("butt eye 9 11;top 20 falls 4 cost 15;shooter shake 0;shooter shake 2;");
        Check.due("8 and 12 are alike", x.guards(0), 8);
        Check.due("guards(1)", x.guards(1), 7);
        LashRing y = Check.ring("butt eye 10 20;top 30 falls 5 cost 16;shooter shake 0;strays:if lot<1 then 1 else 0 end;opens:1=2;");
        Check.due("shut now", y.bestAim(0), 9);
        Check.due("open 9 would be less", y.guards(0), 8);
        Check.due("all alike", Check.ring("butt eye 0 20;shooter shake 0;").guards(0), 0);
        Check.due("the last", Check.ring("butt eye 0 19;top 0 falls 0 cost 1;shooter shake 0;").guards(0), 20);
        Check.due("the second", Check.ring("butt eye 0 0;shooter shake 0;").guards(0), 1);
        Check.due("the first", Check.ring("butt eye 1 20;shooter shake 0;").guards(0), 0);
        // Without a cost: at 9 by seven LOTS 2, at 8 by seven 1 and by three 2.
        Check.due("14 or 13", Check.ring("butt eye 10 20;top 2 falls 1 cost 0;shooter shake 0;strays:if lot<3 then 1 else 0 end;").guards(0), 9);
        // 255 at 8, 270 less 15 at 9: the first of like ones.
        Check.due("alike", Check.ring("butt eye 10 20;top 30 falls 5 cost 15;shooter shake 0;strays:if lot<1 then 1 else 0 end;").guards(0), 8);
        Check.due("by one less", Check.ring("butt eye 10 20;top 30 falls 5 cost 14;shooter shake 0;strays:if lot<1 then 1 else 0 end;").guards(0), 9);
        Check.promise(41, "-2.");
        for (int s : NO_SHOOTERS) {
            Twins.refuse(-2, "guards(" + s + ")", t -> t.guards(s));
        }
    }
}
