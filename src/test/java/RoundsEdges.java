/** Edges that the document names of promises 30 to 32, and of a ROUND by the Terms. */
final class RoundsEdges {
    private static final int MOST = Integer.MAX_VALUE;
    private static final int LEAST = Integer.MIN_VALUE;
    private static final int[] NO_SHOOTERS = {-1, 2, 4, MOST, LEAST};

    private RoundsEdges() {
    }

    static void all() {
        matches();
        likely();
        refusedMatches();
        waitsOrShoots();
        knowsWhatWentBefore();
        rounds();
        begins();
    }

    private static void beats(LashRing x, int n, long above, long below) {
        Check.due("beats(0, 1, " + n + ", 0)", x.beats(0, 1, n, 0), above);
        Check.due("beats(0, 1, " + n + ", 1)", x.beats(0, 1, n, 1), below);
    }

    private static void matches() {
        Check.promise(30, "A MATCH of n SHOTS each (1 to 3) of two shooters, each at its BEST AIM now, all SHOTS as they would be now:");
        // The first always scores 10, the other by five LOTS 9.
        LashRing x = Check.ring("butt eye 0 0;shooter shake 0;shooter shake 1;strays:if lot<5 then 0 else shake end;");
        beats(x, 1, 1, 2);
        beats(x, 2, 3, 4);
        beats(x, 3, 7, 8);
        // Were it older, the other would stray.
        LashRing young = Check.ring("butt eye 0 0;top 9 falls 9 cost 9;shooter shake 0;shooter shake 1;strays:if age<1 then 0 else shake end;");
        beats(young, 3, 0, 1);
        young.shoot(1, 5, 0);
        beats(young, 3, 0, 1);
        Check.due("it is as old as before", young.shooter(1, 1), 1);
        // Were it a minute later, the eye would be open.
        LashRing shut = Check.ring("butt eye 0 20;shooter shake 0;shooter shake 0;");
        beats(shut, 3, 0, 1);
        // BEST AIM now: shut it is 9, by one LOT a touch for nothing; open 8.
        LashRing now = Check.ring("butt eye 10 20;top 30 falls 5 cost 16;shooter shake 0;shooter shake 1;"
            + "strays:if shake=1 then 0 else if lot<1 then 1 else 0 end end;");
        Check.due("shut: by one LOT 30 against 0", now.beats(1, 0, 1, 1), 10);
        Check.due("shut: by one LOT 30 against 0", now.beats(1, 0, 1, 0), 1);
        now.waits(1);
        Check.due("open: by nine LOTS 30 against 25", now.beats(1, 0, 1, 0), 9);
        Check.due("open: by nine LOTS 30 against 25", now.beats(1, 0, 1, 1), 10);
    }

    private static void likely() {
        Check.promise(30, "how likely the first one SCORES more than the other one in all, what 0: above, 1: below, in lowest terms.");
        // By one LOT at 5 it scores 1, else 0.
        String law = "strays:if aim=5 and lot=4 then 0-4 else 9 end;";
        LashRing x = Check.ring("butt eye 0 0;top 1 falls 1 cost 0;shooter shake 0;shooter shake 0;" + law);
        beats(x, 1, 9, 100);
        // Of 10,000 ways they are alike by 81 * 81 + 18 * 18 + 1; of the others the first scores more by half.
        beats(x, 2, 1557, 10000);
        beats(x, 3, 20439, 100000);
        LashRing all = Check.ring("butt eye 1 20;top 99 falls 0 cost 99;opens:1=1;shooter shake 0;shooter shake 9;"
            + "strays:if shake=0 then 0-9 else 9 end;");
        beats(all, 3, 1, 1);
        beats(all, 1, 1, 1);
        Check.due("never, above", all.beats(1, 0, 3, 0), 0);
        Check.due("never, below", all.beats(1, 0, 3, 1), 1);
        LashRing alike = Check.ring("butt eye 0 20;top 0 falls 0 cost 99;opens:1=1;shooter shake 0;shooter shake 0;");
        beats(alike, 3, 0, 1);
    }

    private static void refusedMatches() {
        Check.promise(30, "-2: shooters, both one, what; -3: n.");
        for (int s : NO_SHOOTERS) {
            Twins.refuse(-2, "beats(" + s + ", 0, 1, 0)", t -> t.beats(s, 0, 1, 0));
            Twins.refuse(-2, "beats(0, " + s + ", 1, 0)", t -> t.beats(0, s, 1, 0));
            Twins.refuse(-2, "beats(" + s + ", " + s + ", 1, 0)", t -> t.beats(s, s, 1, 0));
        }
        Twins.refuse(-2, "beats(1, 1, 1, 0)", t -> t.beats(1, 1, 1, 0));
        for (int what : new int[] {-1, 2, MOST, LEAST}) {
            Twins.refuse(-2, "beats(0, 1, 1, " + what + ")", t -> t.beats(0, 1, 1, what));
        }
        for (int n : new int[] {0, -1, 4, MOST, LEAST}) {
            Twins.refuse(-3, "beats(0, 1, " + n + ", 0)", t -> t.beats(0, 1, n, 0));
            Twins.refuse(-2, "beats(0, 0, " + n + ", 0)", t -> t.beats(0, 0, n, 0));
            Twins.refuse(-2, "beats(0, 1, " + n + ", 2)", t -> t.beats(0, 1, n, 2));
        }
    }

    private static void round(LashRing x, int n, long above, long below, int first) {
        Check.due("round(0, " + n + ", 0)", x.round(0, n, 0), above);
        Check.due("round(0, " + n + ", 1)", x.round(0, n, 1), below);
        Check.due("begins(0, " + n + ")", x.begins(0, n), first);
    }

    private static void waitsOrShoots() {
        Check.terms(31, "A ROUND of n: one shooter alone, n MINUTES from now on, each LOT by itself, knowing all that went before: "
            + "in each it SHOOTS at an AIM, or WAITS (then nothing is SCORED, it isn't older): the most SCORED on the mean.");
        // Its first SHOT scores 50 by five LOTS and touches by five, all later ones touch; the eye is OPEN in MINUTE 0 alone.
        LashRing x = Check.ring("butt eye 0 19;top 50 falls 50 cost 40;shooter shake 0;opens:minute=0;"
            + "strays:if age=0 and lot>4 then 0 else 0-9 end;");
        round(x, 1, 5, 1, 20);
        round(x, 2, 25, 1, 21);
        round(x, 4, 25, 1, 21);
        // Nothing but losses: it waits, and nothing is scored.
        LashRing y = Check.ring("butt eye 0 20;shooter shake 0;opens:1=1;");
        round(y, 1, 0, 1, 21);
        round(y, 4, 0, 1, 21);
        // Alone: the other's SHOTS take no MINUTE. Shut, open, shut, open: at 20 it scores 9 by nine LOTS, by one it touches.
        LashRing z = Check.ring("butt eye 0 19;top 10 falls 10 cost 50;shooter shake 0;shooter shake 3;strays:if lot=7 then 0-5 else 0 end;");
        round(z, 1, 9, 1, 20);
        round(z, 2, 13, 1, 20);
        round(z, 3, 22, 1, 20);
        round(z, 4, 26, 1, 20);
        z.waits(1);
        round(z, 1, 4, 1, 20);
        round(z, 2, 13, 1, 20);
        Check.due("nothing was done", z.count(7), 1);
        // As above, the eye being OPEN in MINUTE 1 alone.
        LashRing one = Check.ring("butt eye 0 19;top 10 falls 10 cost 50;shooter shake 0;strays:if lot=7 then 0-5 else 0 end;opens:minute=1;");
        round(one, 1, 9, 1, 20);
        round(one, 2, 13, 1, 20);
        round(one, 4, 31, 1, 20);
        // First SHUT, then OPEN: an AIM is as good as to WAIT as long as it is SHUT.
        LashRing later = Check.ring("butt eye 0 20;top 9 falls 1 cost 5;shooter shake 0;opens:minute>1;");
        round(later, 4, 0, 1, 0);
        later.waits(2);
        round(later, 4, 0, 1, 21);
        // Its first SHOT can't but touch, which costs 10 in MINUTE 0; being older it lands on 12 from 20 for 60.
        LashRing dear = Check.ring("butt eye 0 11;top 60 falls 60 cost 10;shooter shake 0;opens:minute=0;"
            + "strays:if age=0 then 0-9 else 0-8 end;");
        round(dear, 1, 0, 1, 21);
        round(dear, 2, 50, 1, 0);
        round(dear, 3, 110, 1, 0);
        round(dear, 4, 170, 1, 0);
        // Older by each SHOT, nine at most.
        LashRing w = Check.ring("butt eye 0 0;top 9 falls 9 cost 5;shooter shake 0;strays:if age=9 then 0 else 9 end;opens:1=2;");
        for (int i = 0; i < 8; i++) {
            w.shoot(0, 5, 0);
        }
        round(w, 1, 0, 1, 0);
        round(w, 4, 27, 1, 0);
        w.shoot(0, 5, 0);
        round(w, 4, 36, 1, 1);
    }

    private static void knowsWhatWentBefore() {
        // By LOT 0 a touch, else 5; OPEN till it is hurt, cost 15: 3 on the mean, 4.5 behind.
        LashRing x = Check.ring("butt eye 0 0;top 5 falls 5 cost 15;shooter shake 0;opens:hurt<1;"
            + "strays:if aim>8 then 9 else if lot=0 then 0-aim else 1-aim end end;");
        round(x, 1, 3, 1, 0);
        round(x, 2, 123, 20, 0);
        round(x, 3, 1887, 200, 0);
        round(x, 4, 25683, 2000, 0);
        x.shoot(0, 0, 0);
        round(x, 4, 18, 1, 0);
        x.heal();
        round(x, 4, 25683, 2000, 0);
        // At 1 by half of the LOTS 30, else a touch of 20; at 2 always 8: so it lets the eye be hurt first, if there are later ones.
        LashRing y = Check.ring("butt eye 0 0;top 30 falls 22 cost 20;shooter shake 0;opens:hurt=0;"
            + "strays:if aim=1 and lot<5 then 0-1 else if aim=1 or aim=2 then 0 else 9 end end;");
        round(y, 1, 8, 1, 2);
        round(y, 2, 33, 2, 1);
        round(y, 3, 113, 4, 1);
        round(y, 4, 333, 8, 1);
        // Hurt nine times it is told as 9: the eye stays OPEN however often it is hurt.
        LashRing z = Check.ring("butt eye 0 0;top 30 falls 22 cost 20;shooter shake 0;opens:hurt<10;"
            + "strays:if aim=1 and lot<5 then 0-1 else if aim=1 or aim=2 then 0 else 9 end end;");
        for (int i = 0; i < 9; i++) {
            z.shoot(0, 1, 0);
        }
        Check.due("hurt nine times", z.count(8), 9);
        round(z, 2, 16, 1, 2);
        round(z, 4, 32, 1, 2);
    }

    private static void rounds() {
        Check.promise(31, "A ROUND of n (0 to 4) of a shooter, what 0: above, 1: below, in lowest terms.");
        LashRing x = Check.ring("butt eye 9 11;top 20 falls 4 cost 15;shooter shake 0;shooter shake 2;");
        Check.due("round(0, 0, 0)", x.round(0, 0, 0), 0);
        Check.due("round(0, 0, 1)", x.round(0, 0, 1), 1);
        round(x, 1, 20, 1, 8);
        round(x, 4, 80, 1, 8);
        Check.due("round(1, 4, 0)", x.round(1, 4, 0), 304);
        Check.due("round(1, 4, 1)", x.round(1, 4, 1), 5);
        Check.promise(31, "-2: the shooter, what; -3: n.");
        for (int s : NO_SHOOTERS) {
            Twins.refuse(-99000002, "round(" + s + ", 1, 0)", t -> t.round(s, 1, 0));
            Twins.refuse(-99000002, "round(" + s + ", 5, 0)", t -> t.round(s, 5, 0));
        }
        for (int what : new int[] {-1, 2, MOST, LEAST}) {
            Twins.refuse(-99000002, "round(0, 1, " + what + ")", t -> t.round(0, 1, what));
            Twins.refuse(-99000002, "round(0, 5, " + what + ")", t -> t.round(0, 5, what));
        }
        for (int n : new int[] {-1, 5, MOST, LEAST}) {
            Twins.refuse(-99000003, "round(0, " + n + ", 0)", t -> t.round(0, n, 0));
        }
    }

    private static void begins() {
        Check.promise(32, "The first AIM it begins with (21: to WAIT) for as much, AIMS in their order, to WAIT behind all.");
        LashRing x = Check.ring("butt eye 9 11;top 20 falls 4 cost 15;shooter shake 0;shooter shake 2;");
        Check.due("8 and 12 are as good", x.begins(0, 1), 8);
        Check.due("begins(1, 4)", x.begins(1, 4), 7);
        LashRing free = Check.ring("butt eye 0 20;shooter shake 0;opens:1=2;");
        Check.due("to WAIT is as good as 0", free.begins(0, 1), 0);
        Check.due("to WAIT is as good as 0", free.begins(0, 4), 0);
        LashRing last = Check.ring("butt eye 0 19;top 0 falls 0 cost 5;shooter shake 0;opens:1=1;");
        Check.due("to WAIT is as good as 20", last.begins(0, 4), 20);
        LashRing wait = Check.ring("butt eye 0 20;shooter shake 0;opens:1=1;");
        Check.due("to WAIT", wait.begins(0, 1), 21);
        Check.promise(32, "NONE: n is 0; -2; -3.");
        Check.due("begins(0, 0)", x.begins(0, 0), -1);
        for (int s : NO_SHOOTERS) {
            Twins.refuse(-2, "begins(" + s + ", 1)", t -> t.begins(s, 1));
            Twins.refuse(-2, "begins(" + s + ", 0)", t -> t.begins(s, 0));
            Twins.refuse(-2, "begins(" + s + ", 5)", t -> t.begins(s, 5));
        }
        for (int n : new int[] {-1, 5, MOST, LEAST}) {
            Twins.refuse(-3, "begins(0, " + n + ")", t -> t.begins(0, n));
        }
    }
}
