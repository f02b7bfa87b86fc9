/** Promises 33 to 37: who can have shot, and what the wind is. */
public final class SeenTest {
    public static void main(String[] args) {
        refusedSeen();
        seen();
        telling();
        refusedStrayed();
        strayed();
        Check.end("SeenTest");
    }

    private static final String TEXT = "butt eye 9 11;shooter shake 0;shooter shake 2;shooter shake 5;";

    private static void refusedSeen() {
        LashRing x = Check.ring(TEXT);
        Check.due("missing", x.shooters(0, 0), -6);
        Check.due("no tray", x.shooters(4, 0), -2);
        Check.due("no tray", x.shooters(-1, 0), -2);
        Check.due("no aim ahead of missing", x.shooters(0, 21), -2);
        Check.due("missing", x.odds(0, 0, 0, 0), -6);
        Check.due("no shooter ahead of missing", x.odds(0, 0, 3, 0), -2);
        Check.due("no what ahead of missing", x.odds(0, 0, 0, 2), -2);
        Check.due("missing", x.tells(0, 0), -6);
        Check.due("no aim", x.tells(0, -1), -2);
        Check.tray(x, 0, 1);
        Check.due("none in it", x.shooters(0, 0), -4);
        Check.due("none in it", x.odds(0, 0, 0, 0), -4);
        Check.due("none in it", x.tells(0, 0), -4);
        Check.tray(x, 0, 1, 1, 2, 3, 4, 5, 6, 7, 8, 99);
        Check.due("nine, ahead of what they are", x.shooters(0, 0), -4);
        Check.tray(x, 0, 1, 1, 2, 3, 4, 5, 6, 7, 21);
        Check.due("no place", x.shooters(0, 0), -3);
        Check.due("no place", x.odds(0, 0, 0, 0), -3);
        Check.due("no place", x.tells(0, 0), -3);
        Check.tray(x, 0, 3, -1);
        Check.due("no place", x.shooters(0, 0), -3);
        Check.tray(x, 0, 3, (1L << 32) + 5);
        Check.due("no place", x.shooters(0, 0), -3);
    }

    private static void seen() {
        LashRing x = Check.ring(TEXT);
        // At 10: shake 0 lands on 10; shake 2 on 8, 9, 9, 10 five times, 11, 11; shake 5 on 5 to 14 once each.
        Check.tray(x, 0, 0, 10, 10);
        Check.due("all", x.shooters(0, 10), 7);
        Check.due("100 of 126", x.odds(0, 10, 0, 0), 50);
        Check.due("100 of 126", x.odds(0, 10, 0, 1), 63);
        Check.due("25 of 126", x.odds(0, 10, 1, 0), 25);
        Check.due("25 of 126", x.odds(0, 10, 1, 1), 126);
        Check.due("1 of 126", x.odds(0, 10, 2, 0), 1);
        Check.tray(x, 0, 0, 10, 9, 9);
        Check.due("the shaking ones", x.shooters(0, 10), 6);
        Check.due("0", x.odds(0, 10, 0, 0), 0);
        Check.due("0", x.odds(0, 10, 0, 1), 1);
        Check.due("20 of 21", x.odds(0, 10, 1, 0), 20);
        Check.tray(x, 0, 0, 20);
        Check.due("nobody", x.shooters(0, 10), 0);
        Check.due("nobody", x.odds(0, 10, 0, 0), -5);
        Check.due("nobody", x.tells(0, 10), -1);
        Check.tray(x, 0, 0, 0, 0, 0, 0, 0, 0, 0, 0);
        // 10 to the 8th of it and 8 to the 8th and 6 to the 8th.
        Check.due("the greatest numbers", x.odds(0, 0, 0, 0), 390625);
        Check.due("the greatest numbers", x.odds(0, 0, 0, 1), 462722);
        Check.due("all at the edge", x.shooters(0, 0), 7);
        LashRing z = new LashRing();
        Check.tray(z, 0, 0, 0);
        Check.due("no shooters", z.shooters(0, 0), 0);
        Check.due("no shooters", z.tells(0, 0), -1);
        // Its age too.
        LashRing a = Check.ring("butt eye 0 0;shooter shake 0;strays:age;");
        Check.tray(a, 0, 0, 11);
        Check.due("too young", a.shooters(0, 10), 0);
        a.shoot(0, 1, 0);
        Check.due("old enough", a.shooters(0, 10), 1);
    }

    private static void telling() {
        LashRing x = Check.ring(TEXT);
        Check.tray(x, 0, 0, 10);
        Check.due("all meet by all aims", x.tells(0, 10), 0);
        // By aims above 4 shake 1 and shake 2 part; shake 3 stays with shake 1.
        LashRing y = Check.ring("butt eye 9 11;shooter shake 1;shooter shake 2;shooter shake 3;"
            + "strays:if aim>4 and shake=2 then 3 else if aim>12 then shake else 0 end end;");
        Check.tray(y, 0, 0, 3);
        Check.due("three of them", y.shooters(0, 3), 7);
        // By 13 on: 2 strays 3, 1 strays 1, 3 strays 3: one pair meets, as by 5 to 12.
        Check.due("the first of those with one pair", y.tells(0, 3), 5);
        Check.tray(y, 0, 0, 13);
        Check.due("two of them", y.shooters(0, 13), 0);
        Check.tray(y, 0, 0, 16);
        Check.due("two of them", y.shooters(0, 13), 6);
        // These two part by 5 to 12; from 13 on they meet.
        Check.due("the two", y.tells(0, 13), 5);
        // The two part by 20 alone.
        LashRing z = Check.ring("butt eye 9 11;shooter shake 1;shooter shake 2;strays:if aim=20 then 0-shake else 0 end;");
        Check.tray(z, 0, 0, 3);
        Check.due("the last aim", z.tells(0, 3), 20);
        LashRing w = Check.ring("butt eye 9 11;shooter shake 1;shooter shake 2;strays:if aim=1 then shake else lot end;");
        Check.tray(w, 0, 0, 8);
        Check.due("the second aim", w.tells(0, 3), 1);
        LashRing v = Check.ring("butt eye 9 11;shooter shake 1;shooter shake 2;"
            + "strays:if lot=0 or aim=4 then 5 else if lot<9 and aim<4 then shake else shake end end;");
        Check.tray(v, 0, 0, 10);
        Check.due("one LOT is enough to meet", v.tells(0, 5), 0);
        Check.tray(y, 0, 0, 14);
        Check.due("one alone", y.shooters(0, 13), 1);
        Check.due("any will do", y.tells(0, 13), 0);
    }

    private static void refusedStrayed() {
        LashRing x = Check.ring(TEXT);
        Check.due("missing", x.winds(0, 0, 0), -6);
        Check.due("missing", x.attempt(0, 0, 0), -6);
        Check.due("no tray", x.winds(4, 0, 0), -2);
        Check.due("no shooter", x.winds(0, 3, 0), -2);
        Check.due("no aim", x.winds(0, 0, 21), -2);
        Check.due("no aim", x.attempt(0, 0, -1), -2);
        Check.tray(x, 0, 2);
        Check.due("none in it", x.winds(0, 0, 0), -4);
        Check.due("none in it", x.attempt(0, 0, 0), -4);
        Check.tray(x, 0, 2, 0, 0, 0, 0, 0, 0, 0, 0, -1);
        Check.due("nine", x.winds(0, 0, 0), -4);
        long[] cannot = {-1, -100, 21, 99, 121, 921, 999, 1000, 1020};
        for (long v : cannot) {
            Check.tray(x, 0, 2, 0, v);
            Check.due("winds " + v, x.winds(0, 0, 0), -3);
            Check.due("attempt " + v, x.attempt(0, 0, 0), -3);
        }
        Check.tray(x, 0, 3, (1L << 33) + 5);
        Check.due("far too great", x.winds(0, 0, 0), -3);
        Check.tray(x, 0, 2, 920);
        Check.due("can be told", x.winds(0, 0, 20), 1023);
    }

    private static void strayed() {
        LashRing x = Check.ring("butt eye 9 11;shooter shake 0;wind 7;strays:if lot<wind then 1 else if lot=9 then wind else 0 end end;");
        Check.tray(x, 0, 1, 311);
        Check.due("more than 3", x.winds(0, 0, 10), 0b1111110000);
        Check.tray(x, 0, 1, 311, 610);
        Check.due("4 to 6", x.winds(0, 0, 10), 0b1110000);
        // LOT 9 tells each wind from the others: one each.
        Check.due("which to look at", x.attempt(0, 0, 10), 9);
        Check.tray(x, 0, 1, 310, 611);
        Check.due("by none", x.winds(0, 0, 10), 0);
        Check.due("by none", x.attempt(0, 0, 10), -1);
        Check.tray(x, 0, 1, 311, 510);
        Check.due("4 and 5", x.winds(0, 0, 10), 0b110000);
        // LOT 4 parts the two: by wind 4 it isn't below, by wind 5 it is.
        Check.due("the first that parts them", x.attempt(0, 0, 10), 4);
        Check.tray(x, 0, 1, 311, 410);
        Check.due("4 alone", x.winds(0, 0, 10), 0b10000);
        Check.due("any will do", x.attempt(0, 0, 10), 0);
        Check.due("the wind stays", x.count(6), 7);
        Check.tray(x, 0, 1, 0);
        Check.due("LOT 0 on PLACE 0", x.winds(0, 0, 0), 1);
        LashRing z = Check.ring("butt eye 9 11;shooter shake 0;strays:if lot=1 then wind else if lot=9 and wind>0 then 1 else 0 end end;");
        Check.tray(z, 0, 1, 0);
        Check.due("all winds", z.winds(0, 0, 0), 1023);
        Check.due("LOT 1 tells all", z.attempt(0, 0, 0), 1);
        Check.tray(z, 0, 1, 901);
        Check.due("all but 0", z.winds(0, 0, 0), 1022);
        Check.tray(z, 0, 1, 900, 100);
        Check.due("0 alone", z.winds(0, 0, 0), 1);
        LashRing y = Check.ring("butt eye 9 11;shooter shake 0;");
        Check.tray(y, 0, 1, 10);
        Check.due("no law, no wind", y.winds(0, 0, 10), 1023);
        Check.due("all alike", y.attempt(0, 0, 10), 0);
    }
}
