/** Edges that the document names of promises 33 to 37, and of SEEN, ODDS and STRAYED by the Terms. */
final class SeenEdges {
    private static final int MOST = Integer.MAX_VALUE;
    private static final int LEAST = Integer.MIN_VALUE;
    private static final String TEXT = "butt eye 9 11;shooter shake 0;shooter shake 2;shooter shake 5;";
    /** Of the twins TRAY 1 has eight PLACES, TRAY 2 none, and TRAY 3 is MISSING; AIM, shooter and what are so. */
    private static final int[] NO_TRAYS = {-1, 4, MOST, LEAST};
    private static final int[] NO_AIMS = {-1, 21, MOST, LEAST};
    private static final int[] NO_SHOOTERS = {-1, 2, 4, MOST, LEAST};

    private SeenEdges() {
    }

    static void all() {
        seen();
        shooters();
        refusedShooters();
        likelyShooters();
        odds();
        refusedOdds();
        tells();
        refusedTells();
        strayed();
        winds();
        refusedWinds();
        attempts();
        refusedAttempts();
    }

    private static void seen() {
        Check.terms(33, "SEEN in a TRAY (1 to 8 PLACES where SHOTS of one shooter LANDED, at one AIM, as all is now, its age too): "
            + "shooters by whom each of these can have LANDED.");
        LashRing x = Check.ring("butt eye 0 0;shooter shake 0;shooter shake 3;wind 1;strays:wind+age+shake;");
        Check.tray(x, 0, 0, 12);
        Check.due("nobody strays by 2", x.shooters(0, 10), 0);
        x.shoot(0, 5, 0);
        Check.due("the first, being older", x.shooters(0, 10), 1);
        Check.due("at 8 the other", x.shooters(0, 8), 2);
        x.wind(4);
        Check.due("another WIND: none at 8", x.shooters(0, 8), 0);
        Check.due("another WIND: the first at 7", x.shooters(0, 7), 1);
        LashRing y = Check.ring(TEXT);
        Check.tray(y, 0, 0, 10, 10, 10, 10, 10, 10, 10, 9);
        Check.due("each of these: the last isn't the first's", y.shooters(0, 10), 6);
        Check.tray(y, 0, 0, 13, 10, 10, 10, 10, 10, 10, 10);
        Check.due("each of these: the first is but the third's", y.shooters(0, 10), 4);
    }

    private static void shooters() {
        Check.promise(33, "SEEN at an AIM: shooters, as bits.");
        LashRing x = Check.ring("butt eye 9 11;shooter shake 0;shooter shake 2;shooter shake 5;shooter shake 9;");
        Check.tray(x, 0, 0, 10);
        Check.due("all four", x.shooters(0, 10), 15);
        Check.tray(x, 0, 0, 1);
        Check.due("the last alone", x.shooters(0, 10), 8);
        Check.tray(x, 0, 0, 20);
        Check.due("nobody", x.shooters(0, 10), 0);
        Check.due("held at 20", x.shooters(0, 20), 15);
        Check.tray(x, 0, 0, 0, 0, 0, 0, 0, 0, 0, 0);
        Check.due("eight, held at 0", x.shooters(0, 0), 15);
        LashRing none = new LashRing();
        Check.tray(none, 0, 0, 0);
        Check.due("no shooters", none.shooters(0, 0), 0);
    }

    private static void told(LashRing x, int tray, long... values) {
        x.numbers(tray, 3, values.length);
        for (int i = 0; i < values.length; i++) {
            x.write(tray, i, values[i]);
        }
    }

    private static void refusedShooters() {
        Check.promise(33, "-2: the TRAY, the AIM; -6; -4: not 1 to 8 numbers; -3: one is no PLACE.");
        for (int tray : NO_TRAYS) {
            Twins.refuse(-2, "shooters(" + tray + ", 0)", t -> t.shooters(tray, 0));
        }
        for (int aim : NO_AIMS) {
            Twins.refuse(-2, "shooters(1, " + aim + ")", t -> t.shooters(1, aim));
            Twins.refuse(-2, "shooters(3, " + aim + ")", t -> t.shooters(3, aim));
        }
        Twins.refuse(-6, "shooters(3, 0)", t -> t.shooters(3, 0));
        Twins.refuse(-4, "shooters(2, 0), none in it", t -> t.shooters(2, 0));
        Twins.refuse(-4, "shooters(2, 0), nine", t -> told(t, 2, 0, 0, 0, 0, 0, 0, 0, 0, 0), t -> t.shooters(2, 0));
        Twins.refuse(-4, "shooters(2, 0), forty", t -> told(t, 2, new long[40]), t -> t.shooters(2, 0));
        Twins.refuse(-4, "shooters(2, 0), nine and no PLACE", t -> told(t, 2, 99, 0, 0, 0, 0, 0, 0, 0, 0), t -> t.shooters(2, 0));
        for (long v : new long[] {-1, 21, 1L << 32, Long.MIN_VALUE, Long.MAX_VALUE}) {
            Twins.refuse(-3, "shooters(2, 0) of " + v, t -> told(t, 2, v), t -> t.shooters(2, 0));
            Twins.refuse(-3, "shooters(2, 0), the last of eight " + v, t -> told(t, 2, 0, 0, 0, 0, 0, 0, 0, v), t -> t.shooters(2, 0));
        }
        LashRing x = Twins.made();
        Check.due("eight can be", x.shooters(1, 10), 2);
        told(x, 2, 20);
        Check.due("20 is a PLACE", x.shooters(2, 20), 3);
    }

    private static void likelyShooters() {
        Check.terms(34, "ODDS: each of all shooters being as likely ahead, how likely it was one, by how many LOTS lead to each of these.");
        LashRing x = Check.ring(TEXT);
        // Ten LOTS of the first lead to 10, five of the second, one of the third.
        Check.tray(x, 0, 0, 10);
        fraction(x, 10, 0, 5, 8);
        fraction(x, 10, 1, 5, 16);
        fraction(x, 10, 2, 1, 16);
        Check.tray(x, 0, 0, 10, 10);
        fraction(x, 10, 0, 50, 63);
        fraction(x, 10, 1, 25, 126);
        fraction(x, 10, 2, 1, 126);
        // Two LOTS of the second lead to 9, one of the third.
        Check.tray(x, 0, 0, 10, 9, 9);
        fraction(x, 10, 1, 20, 21);
    }

    private static void fraction(LashRing x, int aim, int s, long above, long below) {
        Check.due("odds(0, " + aim + ", " + s + ", 0)", x.odds(0, aim, s, 0), above);
        Check.due("odds(0, " + aim + ", " + s + ", 1)", x.odds(0, aim, s, 1), below);
    }

    private static void odds() {
        Check.promise(34, "ODDS that it was one, what 0: above, 1: below, in lowest terms.");
        LashRing x = Check.ring(TEXT);
        Check.tray(x, 0, 0, 9);
        fraction(x, 10, 0, 0, 1);
        fraction(x, 10, 1, 2, 3);
        Check.tray(x, 0, 0, 5);
        fraction(x, 10, 2, 1, 1);
        // 10, 8 and 6 LOTS lead to 0, each to the eighth.
        Check.tray(x, 0, 0, 0, 0, 0, 0, 0, 0, 0, 0);
        fraction(x, 0, 0, 390625, 462722);
        fraction(x, 0, 1, 32768, 231361);
        LashRing one = Check.ring("butt eye 9 11;shooter shake 0;");
        Check.tray(one, 0, 0, 4);
        fraction(one, 4, 0, 1, 1);
        LashRing four = Check.ring("butt eye 9 11;shooter shake 0;shooter shake 0;shooter shake 0;shooter shake 0;");
        Check.tray(four, 0, 0, 4, 4, 4, 4, 4, 4, 4, 4);
        fraction(four, 4, 3, 1, 4);
    }

    private static void refusedOdds() {
        Check.promise(34, "-2: the TRAY, the AIM, the shooter, what; -6; -4; -3; -5: it can have been nobody.");
        for (int tray : NO_TRAYS) {
            Twins.refuse(-2, "odds(" + tray + ", 0, 0, 0)", t -> t.odds(tray, 0, 0, 0));
        }
        for (int aim : NO_AIMS) {
            Twins.refuse(-2, "odds(1, " + aim + ", 0, 0)", t -> t.odds(1, aim, 0, 0));
        }
        for (int s : NO_SHOOTERS) {
            Twins.refuse(-2, "odds(1, 10, " + s + ", 0)", t -> t.odds(1, 10, s, 0));
            Twins.refuse(-2, "odds(3, 10, " + s + ", 0)", t -> t.odds(3, 10, s, 0));
        }
        for (int what : new int[] {-1, 2, MOST, LEAST}) {
            Twins.refuse(-2, "odds(1, 10, 0, " + what + ")", t -> t.odds(1, 10, 0, what));
            Twins.refuse(-2, "odds(3, 10, 0, " + what + ")", t -> t.odds(3, 10, 0, what));
        }
        Twins.refuse(-6, "odds(3, 0, 0, 0)", t -> t.odds(3, 0, 0, 0));
        Twins.refuse(-4, "odds(2, 0, 0, 0), none in it", t -> t.odds(2, 0, 0, 0));
        Twins.refuse(-4, "odds(2, 0, 0, 0), nine", t -> told(t, 2, 21, 0, 0, 0, 0, 0, 0, 0, 0), t -> t.odds(2, 0, 0, 0));
        Twins.refuse(-3, "odds(2, 0, 0, 0) of 21", t -> told(t, 2, 20, 21), t -> t.odds(2, 0, 0, 0));
        Twins.refuse(-3, "odds(2, 0, 0, 0) of -1", t -> told(t, 2, -1, 20), t -> t.odds(2, 0, 0, 0));
        Twins.refuse(-5, "odds(2, 0, 0, 0) of 20", t -> told(t, 2, 20), t -> t.odds(2, 0, 0, 0));
        Twins.refuse(-5, "odds(2, 0, 1, 1) of 20", t -> told(t, 2, 0, 20), t -> t.odds(2, 0, 1, 1));
    }

    private static void tells() {
        Check.promise(35, "At which AIM to see the next SHOT of one of these: by which fewest two of them can LAND in one PLACE, the first.");
        LashRing x = Check.ring(TEXT);
        Check.tray(x, 0, 0, 10);
        Check.due("all meet by all AIMS: the first", x.tells(0, 10), 0);
        // The two part at 20 alone.
        LashRing last = Check.ring("butt eye 9 11;shooter shake 1;shooter shake 2;strays:if aim=20 then 0-shake else 0 end;");
        Check.tray(last, 0, 0, 3);
        Check.due("the last", last.tells(0, 3), 20);
        LashRing second = Check.ring("butt eye 9 11;shooter shake 1;shooter shake 2;strays:if aim=1 then shake else 0 end;");
        Check.tray(second, 0, 0, 3);
        Check.due("the second", second.tells(0, 3), 1);
        LashRing first = Check.ring("butt eye 9 11;shooter shake 1;shooter shake 2;shooter shake 3;"
            + "strays:if aim=0 then shake else if aim=5 and shake=3 then 1 else 0 end end;");
        Check.tray(first, 0, 0, 3);
        Check.due("the first", first.tells(0, 3), 0);
        // One LOT is enough to meet, but at 7.
        for (int one : new int[] {0, 9}) {
            LashRing lot = Check.ring("butt eye 9 11;shooter shake 1;shooter shake 2;strays:if lot=" + one
                + " and not aim=7 then 5 else shake end;");
            Check.tray(lot, 0, 0, 8);
            Check.due("by LOT " + one, lot.tells(0, 3), 7);
        }
        // From 5 on the second goes apart from the two others, from 13 on the first from the two others.
        LashRing three = Check.ring("butt eye 9 11;shooter shake 1;shooter shake 2;shooter shake 3;"
            + "strays:if aim>4 and shake=2 then 3 else if aim>12 then shake else 0 end end;");
        Check.tray(three, 0, 0, 3);
        Check.due("one pair of three, the first", three.tells(0, 3), 5);
        Check.tray(three, 0, 0, 16);
        Check.due("the last two", three.shooters(0, 13), 6);
        Check.due("the last two part at 5", three.tells(0, 13), 5);
        Check.tray(three, 0, 0, 14);
        Check.due("one alone: any", three.tells(0, 13), 0);
        // Two pairs by one AIM, three by the others, though the two pairs meet in more PLACES.
        LashRing pairs = Check.ring("butt eye 9 11;shooter shake 1;shooter shake 2;shooter shake 3;"
            + "strays:if aim=6 then if shake=2 then lot else if shake=1 then 0 else 9 end end else 0 end;");
        Check.tray(pairs, 0, 0, 3);
        Check.due("pairs, not PLACES", pairs.tells(0, 3), 6);
        // At 1 the first meets the third and the fourth, at 2 the first meets the second, else all meet.
        LashRing four = Check.ring("butt eye 9 11;shooter shake 0;shooter shake 1;shooter shake 2;shooter shake 3;"
            + "strays:if aim=1 then if shake=0 then if lot<5 then 0 else 1 end else if shake=1 then 5 else shake-2 end end "
            + "else if aim=2 and shake>1 then shake+1 else 0 end end;");
        Check.tray(four, 0, 0, 3);
        Check.due("each pair once", four.tells(0, 3), 2);
        // As old as it is and by the WIND as it is.
        LashRing old = Check.ring("butt eye 9 11;shooter shake 0;shooter shake 0;strays:if aim=4 then age*wind else 0 end;");
        Check.tray(old, 0, 0, 10);
        old.shoot(0, 20, 0);
        Check.due("no wind", old.tells(0, 10), 0);
        old.wind(2);
        Check.due("as all is now", old.tells(0, 10), 4);
    }

    private static void refusedTells() {
        Check.promise(35, "NONE: there are none of these; as shooters().");
        LashRing x = Check.ring(TEXT);
        Check.tray(x, 0, 0, 20);
        Check.due("none of these", x.tells(0, 10), -1);
        LashRing none = new LashRing();
        Check.tray(none, 0, 0, 20);
        Check.due("no shooters", none.tells(0, 10), -1);
        for (int tray : NO_TRAYS) {
            Twins.refuse(-2, "tells(" + tray + ", 0)", t -> t.tells(tray, 0));
        }
        for (int aim : NO_AIMS) {
            Twins.refuse(-2, "tells(3, " + aim + ")", t -> t.tells(3, aim));
        }
        Twins.refuse(-6, "tells(3, 0)", t -> t.tells(3, 0));
        Twins.refuse(-4, "tells(2, 0), none in it", t -> t.tells(2, 0));
        Twins.refuse(-4, "tells(2, 0), nine", t -> told(t, 2, 21, 0, 0, 0, 0, 0, 0, 0, 0), t -> t.tells(2, 0));
        Twins.refuse(-3, "tells(2, 0) of 21", t -> told(t, 2, 20, 21), t -> t.tells(2, 0));
    }

    private static void strayed() {
        Check.terms(36, "STRAYED in a TRAY (1 to 8 numbers: 100 times a LOT, and the PLACE where a SHOT of a told shooter at a told AIM "
            + "LANDED by it, its age as it is): WINDS 0 to 9 by which it is so.");
        LashRing x = Check.ring("butt eye 0 0;shooter shake 0;shooter shake 1;wind 7;strays:if lot=9 then wind-age else if lot<wind then shake else 0 end end;");
        Check.tray(x, 0, 1, 910);
        Check.due("WIND 0", x.winds(0, 0, 10), 1);
        Check.tray(x, 0, 1, 919);
        Check.due("WIND 9", x.winds(0, 0, 10), 1 << 9);
        Check.due("the told AIM", x.winds(0, 0, 11), 1 << 8);
        x.shoot(0, 5, 0);
        Check.due("its age as it is", x.winds(0, 0, 11), 1 << 9);
        Check.due("the other's age", x.winds(0, 1, 11), 1 << 8);
        Check.tray(x, 0, 1, 11);
        Check.due("the told shooter: any but 0", x.winds(0, 1, 10), 0b1111111110);
        Check.due("the told shooter: by none", x.winds(0, 0, 10), 0);
        Check.tray(x, 0, 1, 11, 111, 211, 310, 410, 510, 610, 710);
        Check.due("eight of them", x.winds(0, 1, 10), 1 << 3);
        Check.tray(x, 0, 1, 11, 111, 211, 310, 410, 510, 610, 711);
        Check.due("the eighth is not so", x.winds(0, 1, 10), 0);
        Check.due("the WIND stays", x.count(6), 7);
    }

    private static void winds() {
        Check.promise(36, "STRAYED of a shooter at an AIM: WINDS, as bits.");
        LashRing x = Check.ring("butt eye 0 0;shooter shake 0;");
        Check.tray(x, 0, 1, 920);
        Check.due("without a law all", x.winds(0, 0, 20), 1023);
        Check.due("without a law none", x.winds(0, 0, 19), 0);
        Check.tray(x, 0, 1, 0);
        Check.due("LOT 0 at PLACE 0", x.winds(0, 0, 0), 1023);
        LashRing back = Check.ring("butt eye 0 0;shooter shake 0;strays:if lot=9 then 0-9 else 0 end;");
        Check.tray(back, 0, 1, 900);
        Check.due("LOT 9 at PLACE 0", back.winds(0, 0, 5), 1023);
        Check.tray(back, 0, 1, 905);
        Check.due("LOT 9 at PLACE 5", back.winds(0, 0, 5), 0);
        LashRing y = Check.ring("butt eye 0 0;shooter shake 0;strays:wind*3;");
        Check.tray(y, 0, 1, 19);
        Check.due("held at 9: 3 and more", y.winds(0, 0, 10), 0b1111111000);
    }

    private static void refusedWinds() {
        Check.promise(36, "-2: the TRAY, the shooter, the AIM; -6; -4: not 1 to 8 numbers; -3: one is no LOT and PLACE.");
        for (int tray : NO_TRAYS) {
            Twins.refuse(-2, "winds(" + tray + ", 0, 0)", t -> t.winds(tray, 0, 0));
        }
        for (int s : NO_SHOOTERS) {
            Twins.refuse(-2, "winds(3, " + s + ", 0)", t -> t.winds(3, s, 0));
        }
        for (int aim : NO_AIMS) {
            Twins.refuse(-2, "winds(3, 0, " + aim + ")", t -> t.winds(3, 0, aim));
        }
        Twins.refuse(-6, "winds(3, 0, 0)", t -> t.winds(3, 0, 0));
        Twins.refuse(-4, "winds(2, 0, 0), none in it", t -> t.winds(2, 0, 0));
        Twins.refuse(-4, "winds(2, 0, 0), nine", t -> told(t, 2, 0, 0, 0, 0, 0, 0, 0, 0, -1), t -> t.winds(2, 0, 0));
        long[] none = {-1, -99, -100, -101, 21, 99, 121, 821, 921, 999, 1000, 1020, 1L << 32, Long.MIN_VALUE, Long.MAX_VALUE};
        for (long v : none) {
            Twins.refuse(-3, "winds(2, 0, 0) of " + v, t -> told(t, 2, v), t -> t.winds(2, 0, 0));
            Twins.refuse(-3, "winds(2, 0, 0), the last of eight " + v, t -> told(t, 2, 20, 20, 0, 0, 0, 0, 0, v), t -> t.winds(2, 0, 0));
        }
        LashRing x = Check.ring("butt eye 0 0;shooter shake 0;");
        for (long v : new long[] {0, 20, 100, 120, 900, 920}) {
            told(x, 0, v);
            Check.due("winds of " + v, x.winds(0, 0, (int) (v % 100)), 1023);
        }
    }

    private static void attempts() {
        Check.promise(37, "The LOT to look at next: the greatest number of these WINDS by which it LANDS in the same PLACE is least, the first.");
        LashRing x = Check.ring("butt eye 0 0;shooter shake 0;strays:if lot=3 or lot=8 then wind else 0 end;");
        Check.tray(x, 0, 1, 10);
        Check.due("all WINDS", x.winds(0, 0, 10), 1023);
        Check.due("3 and 8 tell all: the first", x.attempt(0, 0, 10), 3);
        // Whatever the WIND, at 20 it lands on 20.
        Check.tray(x, 0, 1, 20);
        Check.due("all alike: the first", x.attempt(0, 0, 20), 0);
        // LOT 9 parts 5 and 5, LOT 6 parts 1 and 9.
        LashRing y = Check.ring("butt eye 0 0;shooter shake 0;strays:if lot=9 and wind<5 then 1 else if lot=6 and wind<1 then 1 else 0 end end;");
        Check.tray(y, 0, 1, 10);
        Check.due("five at most", y.attempt(0, 0, 10), 9);
        Check.tray(y, 0, 1, 10, 911);
        Check.due("0 to 4 are left", y.winds(0, 0, 10), 31);
        Check.due("of these LOT 6 parts one", y.attempt(0, 0, 10), 6);
        Check.tray(y, 0, 1, 611);
        Check.due("0 alone: any", y.attempt(0, 0, 10), 0);
        LashRing second = Check.ring("butt eye 0 0;shooter shake 0;strays:if lot=1 then wind else 0 end;");
        Check.tray(second, 0, 1, 10);
        Check.due("LOT 1", second.attempt(0, 0, 10), 1);
        LashRing first = Check.ring("butt eye 0 0;shooter shake 0;strays:if lot=0 then wind else if lot=3 and wind<5 then 1 else 0 end end;");
        Check.tray(first, 0, 1, 110);
        Check.due("LOT 0", first.attempt(0, 0, 10), 0);
        LashRing last = Check.ring("butt eye 0 0;shooter shake 0;strays:if lot>9 then wind else 0 end;");
        Check.tray(last, 0, 1, 10);
        Check.due("there is no LOT 10", last.attempt(0, 0, 10), 0);
        // LOT 0 is held at PLACE 0 by all WINDS, LOT 6 parts them.
        LashRing held = Check.ring("butt eye 0 0;shooter shake 0;strays:if lot=6 and wind>4 then 1 else 0-wind end;");
        Check.tray(held, 0, 1, 0);
        Check.due("PLACE 0 counts", held.attempt(0, 0, 0), 6);
        // Its age as it is, and the told shooter.
        LashRing z = Check.ring("butt eye 0 0;shooter shake 0;shooter shake 1;strays:if lot=4+age-shake then wind else 0 end;");
        Check.tray(z, 0, 1, 10);
        Check.due("LOT 4", z.attempt(0, 0, 10), 4);
        Check.due("the other: LOT 3", z.attempt(0, 1, 10), 3);
        z.shoot(0, 5, 0);
        Check.due("older: LOT 5", z.attempt(0, 0, 10), 5);
    }

    private static void refusedAttempts() {
        Check.promise(37, "NONE: there are none; as winds().");
        LashRing x = Check.ring("butt eye 0 0;shooter shake 0;");
        Check.tray(x, 0, 1, 11);
        Check.due("by none", x.attempt(0, 0, 10), -1);
        for (int tray : NO_TRAYS) {
            Twins.refuse(-2, "attempt(" + tray + ", 0, 0)", t -> t.attempt(tray, 0, 0));
        }
        for (int s : NO_SHOOTERS) {
            Twins.refuse(-2, "attempt(3, " + s + ", 0)", t -> t.attempt(3, s, 0));
        }
        for (int aim : NO_AIMS) {
            Twins.refuse(-2, "attempt(3, 0, " + aim + ")", t -> t.attempt(3, 0, aim));
        }
        Twins.refuse(-6, "attempt(3, 0, 0)", t -> t.attempt(3, 0, 0));
        Twins.refuse(-4, "attempt(2, 0, 0), none in it", t -> t.attempt(2, 0, 0));
        Twins.refuse(-4, "attempt(2, 0, 0), nine", t -> told(t, 2, 0, 0, 0, 0, 0, 0, 0, 0, -1), t -> t.attempt(2, 0, 0));
        for (long v : new long[] {-1, 21, 1000}) {
            Twins.refuse(-3, "attempt(2, 0, 0) of " + v, t -> told(t, 2, 20, v), t -> t.attempt(2, 0, 0));
        }
    }
}
