/** Edges that the document names of promises 21 to 29, and of a shot now by the Terms. */
final class AimsEdges {
    private static final String TEXT = "butt eye 9 11;top 20 falls 4 cost 15;shooter shake 0;shooter shake 2;wind 3;";
    private static final int MOST = Integer.MAX_VALUE;
    private static final int LEAST = Integer.MIN_VALUE;
    private static final int[] NO_SHOOTERS = {-1, 2, 4, MOST, LEAST};
    private static final int[] NO_AIMS = {-1, 21, MOST, LEAST};

    private AimsEdges() {
    }

    static void all() {
        eachLot();
        touches();
        means();
        careful();
        bestAims();
        carefulAims();
        edges();
        dares();
        likeliest();
        leaves();
        greedy();
    }

    private static void eachLot() {
        Check.terms(22, "Of a shot now the LOT is each of the ten, as likely.");
        for (int lot = 0; lot < 10; lot++) {
            LashRing x = Check.ring("butt eye 0 0;top 7 falls 7 cost 0;shooter shake 0;strays:if lot=" + lot + " then 1 else 5 end;");
            Check.due("by LOT " + lot + " alone, above", x.mean(0, 0, 0), 7);
            Check.due("by LOT " + lot + " alone, below", x.mean(0, 0, 1), 10);
        }
    }

    private static void touches() {
        Check.promise(21, "By how many LOTS a SHOT of a shooter at an AIM TOUCHES now.");
        LashRing x = Check.ring(TEXT);
        // Shake 2 strays by -2, -1, -1, five times 0, 1, 1.
        int[] touched = {0, 0, 0, 0, 0, 0, 0, 0, 2, 7, 9, 8, 3, 1, 0, 0, 0, 0, 0, 0, 0};
        for (int aim = 0; aim < 21; aim++) {
            Check.due("touches(1, " + aim + ")", x.touches(1, aim), touched[aim]);
        }
        LashRing twice = Check.ring("butt eye 10 10;shooter shake 0;strays:aim;");
        Check.due("at 5 it lands on 10", twice.touches(0, 5), 10);
        Check.due("at 4 on 8", twice.touches(0, 4), 0);
        Check.due("at 10 on 19", twice.touches(0, 10), 0);
        LashRing y = Check.ring("butt eye 0 0;shooter shake 0;wind 1;strays:wind+age;");
        Check.due("by the wind", y.touches(0, 0), 0);
        y.wind(0);
        Check.due("now", y.touches(0, 0), 10);
        y.shoot(0, 5, 0);
        Check.due("older now", y.touches(0, 0), 0);
        Check.promise(21, "-2.");
        for (int s : NO_SHOOTERS) {
            Twins.refuse(-2, "touches(" + s + ", 0)", t -> t.touches(s, 0));
        }
        for (int aim : NO_AIMS) {
            Twins.refuse(-2, "touches(0, " + aim + ")", t -> t.touches(0, aim));
        }
    }

    private static void mean(LashRing x, int aim, int above, int below) {
        Check.due("mean(0, " + aim + ", 0)", x.mean(0, aim, 0), above);
        Check.due("mean(0, " + aim + ", 1)", x.mean(0, aim, 1), below);
    }

    private static void means() {
        Check.promise(22, "What it SCORES on the mean now, what 0: the number above, 1: below, in lowest terms.");
        // By LOTS below the AIM it lands nine places before it: on the eye, while the AIM is 13 at most.
        LashRing x = Check.ring("butt eye 0 4;top 20 falls 1 cost 3;shooter shake 0;strays:if lot<aim then 0-9 else 0 end;opens:hurt<1;");
        mean(x, 0, -3, 1);
        mean(x, 5, 17, 2);
        x.shoot(0, 0, 0);
        mean(x, 0, 0, 1);
        mean(x, 5, 10, 1);
        // At 5 by five LOTS a touch; at 4 by four LOTS beside the eye; at 6 by six.
        LashRing z = Check.ring("butt eye 5 5;top 4 falls 4 cost 2;shooter shake 0;opens:1=1;strays:if lot<aim then 0 else 9 end;");
        mean(z, 5, -1, 1);
        mean(z, 4, 8, 5);
        mean(z, 6, 12, 5);
        mean(z, 0, 0, 1);
        mean(z, 20, 0, 1);
        mean(Check.ring("butt eye 5 5;top 4 falls 4 cost 3;shooter shake 0;opens:1=1;strays:if lot<5 then 0 else 9 end;"), 5, -3, 2);
        LashRing w = Check.ring("butt eye 5 5;top 0 falls 0 cost 99;shooter shake 0;opens:1=1;strays:if lot=0 then 0 else 9 end;");
        mean(w, 5, -99, 10);
        mean(Check.ring("butt eye 5 5;top 0 falls 0 cost 99;shooter shake 0;opens:1=1;"), 5, -99, 1);
        Check.promise(22, "-2: the shooter, the AIM, what.");
        for (int s : NO_SHOOTERS) {
            Twins.refuse(-99000002, "mean(" + s + ", 0, 0)", t -> t.mean(s, 0, 0));
        }
        for (int aim : NO_AIMS) {
            Twins.refuse(-99000002, "mean(0, " + aim + ", 0)", t -> t.mean(0, aim, 0));
        }
        for (int what : new int[] {-1, 2, MOST, LEAST}) {
            Twins.refuse(-99000002, "mean(0, 0, " + what + ")", t -> t.mean(0, 0, what));
        }
    }

    private static void careful() {
        Check.terms(24, "CAREFUL: an AIM by which no LOT TOUCHES.");
        for (int lot = 0; lot < 10; lot++) {
            LashRing x = Check.ring("butt eye 5 5;shooter shake 0;strays:if lot=" + lot + " then 1 else 2 end;");
            Check.due("by LOT " + lot + " alone at 4, by the others at 3", x.careful(0), (1 << 21) - 1 & ~(3 << 3));
        }
    }

    private static void bestAims() {
        Check.terms(23, "BEST AIM: most SCORED on the mean now, of like ones the first.");
        LashRing x = Check.ring(TEXT);
        Check.due("8 and 12 alike", x.bestAim(0), 8);
        Check.due("the eye is all", Check.ring("butt eye 0 20;shooter shake 0;").bestAim(0), 0);
        Check.due("none but the last", Check.ring("butt eye 0 19;shooter shake 0;").bestAim(0), 20);
        Check.due("none but the first", Check.ring("butt eye 1 20;shooter shake 0;").bestAim(0), 0);
        Check.promise(23, "BEST AIM of a shooter.");
        Check.due("bestAim(1)", x.bestAim(1), 7);
        // By one LOT a touch: at 9 it scores 27 on the mean while shut, at 8 25.5.
        LashRing y = Check.ring("butt eye 10 20;top 30 falls 5 cost 16;shooter shake 0;strays:if lot<1 then 1 else 0 end;");
        Check.due("shut", y.bestAim(0), 9);
        y.waits(1);
        Check.due("open", y.bestAim(0), 8);
        LashRing z = Check.ring("butt eye 0 20;top 0 falls 0 cost 9;shooter shake 0;opens:1=1;");
        Check.due("all alike below 0", z.bestAim(0), 0);
        LashRing less = Check.ring("butt eye 0 19;top 0 falls 0 cost 9;shooter shake 0;opens:1=1;strays:if lot<5 then 0-9 else 0 end;");
        Check.due("all below 0, the last the least", less.bestAim(0), 20);
        Check.promise(23, "-2.");
        for (int s : NO_SHOOTERS) {
            Twins.refuse(-2, "bestAim(" + s + ")", t -> t.bestAim(s));
        }
    }

    private static void carefulAims() {
        Check.promise(24, "CAREFUL AIMS of a shooter, as bits.");
        LashRing x = Check.ring(TEXT);
        Check.due("careful(0)", x.careful(0), 0b111111111000111111111);
        Check.due("careful(1)", x.careful(1), 0b111111100000011111111);
        Check.due("all but the first", Check.ring("butt eye 0 0;shooter shake 0;").careful(0), (1 << 21) - 2);
        Check.due("all but the last", Check.ring("butt eye 20 20;shooter shake 0;").careful(0), (1 << 20) - 1);
        Check.due("none", Check.ring("butt eye 0 20;shooter shake 0;").careful(0), 0);
        Check.promise(24, "-2.");
        for (int s : NO_SHOOTERS) {
            Twins.refuse(-2, "careful(" + s + ")", t -> t.careful(s));
        }
    }

    private static void edges() {
        Check.promise(25, "The CAREFUL AIM of a shooter by which most is SCORED on the mean now, of like ones the first.");
        LashRing x = Check.ring(TEXT);
        Check.due("8 and 12 alike", x.edge(0), 8);
        Check.due("edge(1)", x.edge(1), 7);
        Check.due("all score 0", Check.ring("butt eye 3 4;top 0 falls 0 cost 0;shooter shake 0;").edge(0), 0);
        Check.due("the only one that scores", Check.ring("butt eye 0 4;top 9 falls 9 cost 0;shooter shake 0;").edge(0), 5);
        Check.due("the last", Check.ring("butt eye 0 19;top 0 falls 0 cost 0;shooter shake 0;").edge(0), 20);
        // Shut, 9 would score most, but it touches by one LOT.
        LashRing y = Check.ring("butt eye 10 20;top 30 falls 5 cost 16;shooter shake 0;strays:if lot<1 then 1 else 0 end;");
        Check.due("not the best", y.edge(0), 8);
        Check.due("but it is 9", y.bestAim(0), 9);
        Check.promise(25, "NONE: there is none; -2.");
        Check.due("none", Check.ring("butt eye 0 20;shooter shake 0;").edge(0), -1);
        Check.due("the last by no LOT", Check.ring("butt eye 0 10;shooter shake 0;strays:if lot=3 then 0-9 else 9 end;").edge(0), 20);
        Check.due("each by some LOT", Check.ring("butt eye 0 11;shooter shake 0;strays:if lot=3 then 0-9 else 9 end;").edge(0), -1);
        for (int s : NO_SHOOTERS) {
            Twins.refuse(-2, "edge(" + s + ")", t -> t.edge(s));
        }
    }

    private static LashRing daring(int falls, int cost) {
        return Check.ring("butt eye 10 20;top 30 falls " + falls + " cost " + cost
            + ";shooter shake 0;strays:if lot<1 then 1 else 0 end;");
    }

    private static void dares() {
        Check.promise(26, "The greatest cost (0 to 99) with which, the eye being OPEN, the BEST AIM of a shooter TOUCHES by some LOT.");
        // At 9: 270 less the cost; at 8: 9 times 30 less falls, and 30. Alike it is 8, the first.
        Check.due("up to 14", daring(5, 1).dares(0), 14);
        Check.due("whatever it costs", daring(5, 99).dares(0), 14);
        Check.due("270 less the cost, or 30", Check.ring("butt eye 10 20;top 30 falls 31 cost 1;shooter shake 0;"
            + "strays:if lot<9 then 0 else 1 end;").dares(0), 99);
        Check.due("the eye is all", Check.ring("butt eye 0 20;shooter shake 0;").dares(0), 99);
        Check.due("at 9 and 11 alike without a cost", Check.ring("butt eye 10 10;top 20 falls 20 cost 50;shooter shake 0;"
            + "strays:if lot=0 then 1 else 0 end;").dares(0), 0);
        LashRing open = daring(5, 1);
        open.waits(1);
        Check.due("open or shut", open.dares(0), 14);
        Check.promise(26, "NONE: with none; -2.");
        Check.due("273 by 8 at least", daring(3, 1).dares(0), -1);
        Check.due("a steady hand", Check.ring(TEXT).dares(0), -1);
        for (int s : NO_SHOOTERS) {
            Twins.refuse(-2, "dares(" + s + ")", t -> t.dares(s));
        }
    }

    private static void likeliest() {
        Check.promise(27, "Where a SHOT of a shooter at an AIM LANDS by most LOTS now, of like PLACES the first.");
        LashRing x = Check.ring("butt eye 0 0;shooter shake 0;strays:if lot<5 then 2 else 1 end;");
        Check.due("alike", x.likeliest(0, 10), 11);
        Check.due("held at 20", x.likeliest(0, 20), 20);
        Check.due("six by four", Check.ring("butt eye 0 0;shooter shake 0;strays:if lot<6 then 2 else 1 end;").likeliest(0, 10), 12);
        Check.due("ten places, alike", Check.ring("butt eye 0 0;shooter shake 0;strays:lot-9;").likeliest(0, 10), 1);
        Check.due("held at 0", Check.ring("butt eye 0 0;shooter shake 9;").likeliest(0, 0), 0);
        LashRing y = Check.ring("butt eye 0 0;shooter shake 0;strays:age+wind;");
        y.shoot(0, 5, 0);
        y.wind(2);
        Check.due("now", y.likeliest(0, 10), 13);
        Check.promise(27, "-2.");
        for (int s : NO_SHOOTERS) {
            Twins.refuse(-2, "likeliest(" + s + ", 0)", t -> t.likeliest(s, 0));
        }
        for (int aim : NO_AIMS) {
            Twins.refuse(-2, "likeliest(0, " + aim + ")", t -> t.likeliest(0, aim));
        }
    }

    private static void leaves() {
        Check.promise(28, "The least age (0 to 9) at which by no AIM more than n (0 to 99) is SCORED on the mean by a shooter, all else as now.");
        // At age 9 alone all shots touch: nothing is scored. Ahead it is 99.
        String text = "butt eye 0 12;top 99 falls 99 cost 5;shooter shake 0;strays:if age<9 then wind else 0-9 end;";
        LashRing x = Check.ring(text);
        Check.due("at 9", x.leaves(0, 0), 9);
        Check.due("at 9", x.leaves(0, 98), 9);
        Check.due("99 isn't more than 99", x.leaves(0, 99), 0);
        x.shoot(0, 20, 0);
        Check.due("its age is no matter", x.leaves(0, 99), 0);
        Check.due("nor does it get older", x.shooter(0, 1), 1);
        // By half of the LOTS 10, by the others less by age: 9.5, 9, 8.5, ..
        LashRing y = Check.ring("butt eye 0 0;top 10 falls 1 cost 5;shooter shake 0;strays:if lot<5 then age else 0 end;");
        Check.due("10 at 0", y.leaves(0, 10), 0);
        Check.due("9.5 is more than 9", y.leaves(0, 9), 2);
        Check.due("5.5 at 9", y.leaves(0, 6), 8);
        Check.due("5.5 is more than 5", y.leaves(0, 5), -1);
        // All else as now: open it is below 0, shut it is 0.
        LashRing z = Check.ring("butt eye 0 20;top 0 falls 0 cost 9;shooter shake 0;");
        Check.due("nothing is scored", z.leaves(0, 0), 0);
        LashRing w = Check.ring("butt eye 0 19;top 9 falls 0 cost 99;shooter shake 0;wind 9;strays:if lot<3 then 0-wind else 0 end;");
        Check.due("6.3 shut", w.leaves(0, 6), -1);
        Check.due("6.3 shut", w.leaves(0, 7), 0);
        w.waits(1);
        Check.due("open it is below 0", w.leaves(0, 0), 0);
        w.wind(0);
        Check.due("by that wind 9", w.leaves(0, 8), -1);
        Check.promise(28, "NONE: at none;");
        Check.due("98 at no age", Check.ring("butt eye 0 0;top 99 falls 1 cost 5;shooter shake 0;").leaves(0, 98), -1);
        Check.due("0 at no age", Check.ring("butt eye 0 0;top 1 falls 1 cost 5;shooter shake 0;").leaves(0, 0), -1);
        Check.promise(28, "-2; -3: n.");
        for (int s : NO_SHOOTERS) {
            Twins.refuse(-2, "leaves(" + s + ", 0)", t -> t.leaves(s, 0));
            Twins.refuse(-2, "leaves(" + s + ", 100)", t -> t.leaves(s, 100));
        }
        for (int n : new int[] {-1, 100, MOST, LEAST}) {
            Twins.refuse(-3, "leaves(0, " + n + ")", t -> t.leaves(0, n));
        }
    }

    private static void greedy() {
        Check.promise(29, "Shooters whose BEST AIM, the eye being SHUT, TOUCHES by some LOT, as bits.");
        LashRing x = Check.ring("butt eye 5 15;top 30 falls 30 cost 99;shooter shake 9;shooter shake 0;shooter shake 9;shooter shake 9;");
        Check.due("all but the steady one", x.greedy(), 0b1101);
        x.waits(1);
        Check.due("open or shut", x.greedy(), 0b1101);
        LashRing one = Check.ring("butt eye 10 10;top 20 falls 20 cost 0;shooter shake 0;strays:if lot=0 then 1 else 0 end;");
        Check.due("by one LOT", one.greedy(), 1);
        LashRing none = Check.ring("butt eye 10 10;top 20 falls 19 cost 0;shooter shake 0;strays:if lot=0 then 1 else 0 end;");
        Check.due("by none", none.greedy(), 0);
        Check.due("no shooters", new LashRing().greedy(), 0);
        LashRing all = Check.ring("butt eye 0 20;shooter shake 0;shooter shake 0;shooter shake 0;shooter shake 0;");
        Check.due("they can't but touch", all.greedy(), 15);
    }
}
