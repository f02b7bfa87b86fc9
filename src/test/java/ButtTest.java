/** Promises 1 to 11: a new object, the tape, the butt, shots and the eye as they are now. */
public final class ButtTest {
    public static void main(String[] args) {
        aNewObject();
        theTape();
        shootersAndPoints();
        landings();
        farAndScores();
        openOrNot();
        Check.end("ButtTest");
    }

    private static void aNewObject() {
        LashRing x = new LashRing();
        int[] counts = {10, 10, 0, 10, 1, 10, 0, 0, 0, 0, 0, 0};
        for (int i = 0; i < counts.length; i++) {
            Check.due("count(" + i + ")", x.count(i), counts[i]);
        }
        Check.due("fault(0)", x.fault(0), 0);
        Check.due("fault(1)", x.fault(1), -1);
        Check.due("leads()", x.leads(), -1);
        Check.due("greedy()", x.greedy(), 0);
        Check.due("NONE", LashRing.NONE, -1);
    }

    private static void theTape() {
        LashRing x = new LashRing();
        for (int i = 1; i <= 45; i++) {
            Check.due("feed", x.feed(0x20202020, 0x20202020, 0x20202020, 0x20202020, 0x20202020), 20 * i);
        }
        Check.due("one more", x.feed(1, 1, 1, 1, 1), -5);
        Check.due("as many as before", x.count(10), 900);
        Check.due("all blanks", x.butt(900), -32);
        Check.due("the end", x.fault(1), 900);
        Check.due("empty", x.count(10), 0);
        Check.due("none there", x.butt(1), -3);
        // "butt eye 12 13;wind " highest bytes first.
        Check.due("feed", x.feed(0x62757474, 0x20657965, 0x20313220, 0x31333B77, 0x696E6420), 20);
        Check.due("butt(15)", x.butt(15), 1);
        Check.due("eye from", x.count(0), 12);
        Check.due("eye to", x.count(1), 13);
        Check.due("lines", x.count(11), 1);
    }

    private static void shootersAndPoints() {
        LashRing x = Check.ring("butt eye 10 10;shooter shake 7;shooter shake 0;opens:1=2;");
        Check.due("shooter(0, 0)", x.shooter(0, 0), 7);
        Check.due("shooter(1, 0)", x.shooter(1, 0), 0);
        Check.due("shooter(2, 0)", x.shooter(2, 0), -2);
        Check.due("shooter(-1, 0)", x.shooter(-1, 0), -2);
        Check.due("shooter(0, 2)", x.shooter(0, 2), -2);
        Check.due("shooter(0, -1)", x.shooter(0, -1), -2);
        Check.due("points(2)", x.points(2), -99000002);
        Check.due("points(-1)", x.points(-1), -99000002);
        for (int i = 1; i <= 11; i++) {
            Check.due("shoot", x.shoot(1, 11, 0), 10);
            Check.due("age, nine at most", x.shooter(1, 1), Math.min(i, 9));
            Check.due("points", x.points(1), 10 * i);
        }
        Check.due("the other's age", x.shooter(0, 1), 0);
        Check.due("the other's points", x.points(0), 0);
        Check.due("minute", x.count(7), 11);
    }

    private static void landings() {
        LashRing x = Check.ring("butt eye 0 0;shooter shake 9;shooter shake 3;");
        int[] nine = {-9, -7, -5, -3, -1, 0, 1, 3, 5, 7};
        int[] three = {-3, -2, -1, -1, 0, 0, 0, 1, 1, 2};
        for (int lot = 0; lot < 10; lot++) {
            Check.due("shake 9 by " + lot, x.lands(0, 10, lot), 10 + nine[lot]);
            Check.due("shake 3 by " + lot, x.lands(1, 10, lot), 10 + three[lot]);
        }
        Check.due("before 0", x.lands(0, 4, 0), 0);
        Check.due("behind 20", x.lands(0, 18, 9), 20);
        Check.due("no shooter", x.lands(2, 0, 0), -2);
        Check.due("no aim", x.lands(0, 21, 0), -2);
        Check.due("no aim", x.lands(0, -1, 0), -2);
        Check.due("no lot", x.lands(0, 0, 10), -2);
        Check.due("no lot", x.lands(0, 0, -1), -2);
        LashRing a = Check.ring("butt eye 3 3;top 9 falls 9 cost 0;shooter shake 0;strays:3-aim;");
        for (int aim = 0; aim <= 12; aim++) {
            Check.due("all at 3 from " + aim, a.lands(0, aim, 0), 3);
            Check.due("all touch from " + aim, a.touches(0, aim), 10);
        }
        LashRing y = Check.ring("butt eye 0 0;top 1 falls 0 cost 0;shooter shake 0;strays:age*2+wind;");
        Check.due("young", y.lands(0, 5, 0), 5);
        y.shoot(0, 5, 0);
        Check.due("older", y.lands(0, 5, 0), 7);
        y.wind(3);
        Check.due("in the wind", y.lands(0, 5, 0), 10);
    }

    private static void farAndScores() {
        LashRing x = Check.ring("butt eye 8 11;top 20 falls 6 cost 33;");
        int[] far = {8, 7, 6, 5, 4, 3, 2, 1, 0, 0, 0, 0, 1, 2, 3, 4, 5, 6, 7, 8, 9};
        for (int place = 0; place < 21; place++) {
            Check.due("far(" + place + ")", x.far(place), far[place]);
            int score = far[place] == 0 ? 0 : Math.max(0, 20 - 6 * (far[place] - 1));
            Check.due("scores(" + place + ")", x.scores(place), score);
        }
        x.waits(1);
        Check.due("the eye being open", x.scores(8), -33);
        Check.due("the eye being open", x.scores(11), -33);
        Check.due("beside it", x.scores(12), 20);
        Check.due("far(-1)", x.far(-1), -2);
        Check.due("far(21)", x.far(21), -2);
        Check.due("scores(-1)", x.scores(-1), -99000002);
        Check.due("scores(21)", x.scores(21), -99000002);
    }

    private static void openOrNot() {
        LashRing x = Check.ring("butt eye 8 11;opens:minute>40 and minute<60 and hurt=0;shooter shake 0;");
        Check.due("open(40)", x.open(40), 0);
        Check.due("open(41)", x.open(41), 1);
        Check.due("open(59)", x.open(59), 1);
        Check.due("open(60)", x.open(60), 0);
        Check.due("open(99)", x.open(99), 0);
        Check.due("open(100)", x.open(100), -3);
        Check.due("open(-1)", x.open(-1), -3);
        Check.due("opens(1)", x.opens(1), 41);
        Check.due("opens(0)", x.opens(0), 0);
        Check.due("opens(2)", x.opens(2), -2);
        Check.due("opens(-1)", x.opens(-1), -2);
        x.waits(45);
        Check.due("opens(1)", x.opens(1), 0);
        Check.due("opens(0)", x.opens(0), 15);
        Check.due("a touch", x.shoot(0, 8, 0), -10);
        Check.due("hurt", x.open(0), 0);
        Check.due("never, being hurt", x.opens(1), -1);
        LashRing y = Check.ring("butt eye 8 11;opens:minute>98;");
        Check.due("the last one", y.opens(1), 99);
        LashRing z = Check.ring("butt eye 8 11;opens:minute>99;");
        Check.due("one too late", z.opens(1), -1);
        LashRing h = Check.ring("butt eye 8 11;shooter shake 0;opens:hurt<9;");
        for (int i = 1; i <= 11; i++) {
            h.shoot(0, 9, 0);
        }
        Check.due("hurt nine times, then shut", h.count(8), 9);
        LashRing c = Check.ring("butt eye 8 11;shooter shake 0;opens:hurt<10;");
        for (int i = 1; i <= 12; i++) {
            c.shoot(0, 9, 0);
        }
        Check.due("counted on, told as 9", c.count(8), 12);
        Check.due("open still", c.open(0), 1);
    }
}
