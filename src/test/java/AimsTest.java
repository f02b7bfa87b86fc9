/** Promises 21 to 29: touches, means and best aims. */
public final class AimsTest {
    private static final String TEXT = "butt eye 9 11;top 20 falls 4 cost 15;shooter shake 0;shooter shake 2;wind 3;";

    public static void main(String[] args) {
        touchesAndMeans();
        bestAims();
        carefulOnes();
        daring();
        likely();
        leaving();
        greedyOnes();
        Check.end("AimsTest");
    }

    private static void touchesAndMeans() {
        LashRing x = Check.ring(TEXT);
        // Shake 2 strays by -2, -1, -1, 0, 0, 0, 0, 0, 1, 1.
        int[] touched = {0, 0, 0, 0, 0, 0, 0, 0, 2, 7, 9, 10, 3, 1, 0, 0, 0, 0, 0, 0, 0};
        int[] straying = {-2, -1, -1, 0, 0, 0, 0, 0, 1, 1};
        for (int aim = 0; aim < 21; aim++) {
            int sum = 0;
            int n = 0;
            for (int stray : straying) {
                int place = Math.max(0, Math.min(20, aim + stray));
                sum += x.scores(place);
                n += x.far(place) == 0 ? 1 : 0;
            }
            Check.due("touches(1, " + aim + ")", x.touches(1, aim), n);
            Check.due("mean(1, " + aim + ")", 10 * x.mean(1, aim, 0), (long) sum * x.mean(1, aim, 1));
        }
        Check.due("touches(1, 8)", x.touches(1, 8), touched[8]);
        Check.due("touches(1, 9)", x.touches(1, 9), touched[9]);
        Check.due("touches(1, 12)", x.touches(1, 12), touched[12]);
        Check.due("touches(1, 13)", x.touches(1, 13), touched[13]);
        Check.due("above 0", x.mean(0, 10, 0), 0);
        Check.due("below 0", x.mean(0, 10, 1), 1);
        x.waits(1);
        Check.due("a negative one, above", x.mean(0, 10, 0), -15);
        Check.due("a negative one, below", x.mean(0, 10, 1), 1);
        LashRing y = Check.ring("butt eye 5 5;top 3 falls 3 cost 1;shooter shake 0;opens:1=1;strays:if lot<3 then 0 else 9 end;");
        Check.due("-3 by 10", y.mean(0, 5, 0), -3);
        Check.due("-3 by 10", y.mean(0, 5, 1), 10);
        Check.due("no shooter", x.touches(2, 0), -2);
        Check.due("no aim", x.touches(0, 21), -2);
        Check.due("no aim", x.touches(0, -1), -2);
        Check.due("no shooter", x.mean(-1, 0, 0), -99000002);
        Check.due("no aim", x.mean(0, 21, 0), -99000002);
        Check.due("no what", x.mean(0, 0, 2), -99000002);
        Check.due("no what", x.mean(0, 0, -1), -99000002);
    }

    private static void bestAims() {
        LashRing x = Check.ring(TEXT);
        Check.due("like ones: 8 and 12", x.bestAim(0), 8);
        Check.due("bestAim(1)", x.bestAim(1), 7);
        Check.due("no shooter", x.bestAim(2), -2);
        Check.due("no shooter", x.bestAim(-1), -2);
        // The eye spans all: shut, all aims are alike; open too.
        LashRing y = Check.ring("butt eye 0 20;shooter shake 4;");
        Check.due("all alike", y.bestAim(0), 0);
        y.waits(1);
        Check.due("all alike, open", y.bestAim(0), 0);
        // Aims near the left edge are held there: shots before 0 land on 0.
        LashRing z = Check.ring("butt eye 1 20;top 50 falls 0 cost 1;shooter shake 9;");
        Check.due("the edge helps", z.bestAim(0), 0);
        // An eye that opens makes the aim go away from it.
        LashRing o = Check.ring("butt eye 10 10;top 20 falls 1 cost 99;shooter shake 1;strays:if lot=0 then 1 else 0 end;");
        // At 9 one LOT touches: 180 of 200; at 8 19*9 + 20; at 11 one lands at 12: 180 + 19.
        Check.due("shut", o.bestAim(0), 11);
        o.waits(1);
        Check.due("open", o.bestAim(0), 11);
    }

    private static void carefulOnes() {
        LashRing x = Check.ring(TEXT);
        int all = (1 << 21) - 1;
        Check.due("careful(0)", x.careful(0), all & ~(7 << 9));
        Check.due("careful(1)", x.careful(1), all & ~(63 << 8));
        Check.due("edge(0)", x.edge(0), 8);
        Check.due("edge(1)", x.edge(1), 7);
        Check.due("no shooter", x.careful(2), -2);
        Check.due("no shooter", x.edge(2), -2);
        Check.due("no shooter", x.edge(-1), -2);
        LashRing y = Check.ring("butt eye 0 20;shooter shake 0;");
        Check.due("none", y.careful(0), 0);
        Check.due("none", y.edge(0), -1);
        // All careful aims score 0: the first of them.
        LashRing z = Check.ring("butt eye 3 4;top 0 falls 0 cost 0;shooter shake 0;");
        Check.due("the first", z.edge(0), 0);
        LashRing w = Check.ring("butt eye 0 4;top 9 falls 9 cost 0;shooter shake 0;");
        Check.due("the only one that scores", w.edge(0), 5);
    }

    private static void daring() {
        LashRing x = Check.ring("butt eye 10 10;top 20 falls 20 cost 50;shooter shake 0;strays:if lot=0 then 1 else 0 end;");
        // At 9: nine times 20, one touch; at 11: nine times 20 and one 0 (12 is 2 far). Like ones at cost 0: the first.
        Check.due("at cost 0 alone", x.dares(0), 0);
        LashRing y = Check.ring("butt eye 10 10;top 30 falls 3 cost 50;shooter shake 0;strays:if lot<1 then 1 else 0 end;");
        // At 9: 270 less the cost; at 11: 270 + 27.
        Check.due("never", y.dares(0), -1);
        LashRing z = Check.ring("butt eye 10 20;top 30 falls 3 cost 1;shooter shake 0;strays:if lot<1 then 1 else 0 end;");
        // At 9: 270 less the cost; at 8: 27 * 9 + 30 = 273.
        Check.due("never with falls 3", z.dares(0), -1);
        LashRing w = Check.ring("butt eye 10 20;top 30 falls 5 cost 1;shooter shake 0;strays:if lot<1 then 1 else 0 end;");
        // At 9: 270 less the cost; at 8: 25 * 9 + 30 = 255; so up to 15: of like ones the first, 8.
        Check.due("up to 14", w.dares(0), 14);
        Check.due("no shooter", w.dares(1), -2);
        Check.due("no shooter", w.dares(-1), -2);
        LashRing v = Check.ring("butt eye 0 20;shooter shake 0;");
        Check.due("nothing else", v.dares(0), 99);
    }

    private static void likely() {
        LashRing x = Check.ring(TEXT);
        Check.due("likeliest(1, 10)", x.likeliest(1, 10), 10);
        Check.due("held at 0", x.likeliest(1, 0), 0);
        Check.due("held at 20", x.likeliest(1, 20), 20);
        LashRing y = Check.ring("butt eye 3 3;shooter shake 9;strays:if lot<5 then 2 else 1 end;");
        Check.due("like ones", y.likeliest(0, 10), 11);
        Check.due("no shooter", x.likeliest(2, 0), -2);
        Check.due("no aim", x.likeliest(0, 21), -2);
        Check.due("no aim", x.likeliest(0, -1), -2);
    }

    private static void leaving() {
        LashRing x = Check.ring("butt eye 0 0;top 9 falls 1 cost 50;shooter shake 3;"
            + "strays : if lot < 5 then 0 - age else wind - shake end;opens : hurt < 2;wind 4;");
        // By age a the best is 8.5 less a half of a, till the one half scores 0 at least: 4.5.
        Check.due("leaves(0, 9)", x.leaves(0, 9), 0);
        Check.due("leaves(0, 8)", x.leaves(0, 8), 1);
        Check.due("leaves(0, 7)", x.leaves(0, 7), 3);
        Check.due("leaves(0, 5)", x.leaves(0, 5), 7);
        Check.due("at none: nothing is below 0", x.leaves(0, 4), -1);
        Check.due("no shooter", x.leaves(1, 0), -2);
        Check.due("no shooter ahead of n", x.leaves(1, 100), -2);
        Check.due("n", x.leaves(0, 100), -3);
        Check.due("n", x.leaves(0, -1), -3);
        LashRing y = Check.ring("butt eye 0 0;top 99 falls 1 cost 5;shooter shake 0;strays:if age<9 then 0 else 0-9 end;");
        // At 9 the shot still lands beside the eye from 10 on: only the law of an older one could change that.
        Check.due("99 is enough", y.leaves(0, 99), 0);
        Check.due("98 at no age", y.leaves(0, 98), -1);
        LashRing z = Check.ring("butt eye 0 9;top 99 falls 99 cost 5;shooter shake 0;strays:if age<9 then 0 else 9*aim-99*aim end;");
        Check.due("at 9 alone, none at all", z.leaves(0, 0), -1);
        LashRing w = Check.ring("butt eye 0 12;top 99 falls 99 cost 5;shooter shake 0;strays:if age<9 then 0 else 0-9 end;");
        Check.due("at 9 all touch", w.leaves(0, 0), 9);
        Check.due("at 9 all touch", w.leaves(0, 98), 9);
        x.shoot(0, 9, 9);
        Check.due("all else as now: its age is told", x.leaves(0, 7), 3);
    }

    private static void greedyOnes() {
        LashRing x = Check.ring("butt eye 5 15;top 30 falls 30 cost 2;shooter shake 9;shooter shake 0;shooter shake 9;");
        Check.due("greedy()", x.greedy(), 5);
        x.waits(1);
        Check.due("open or not", x.greedy(), 5);
        // At 9 one LOT touches for nothing, 9 * 20 in all; at 11 there is one 0 instead: like ones.
        LashRing y = Check.ring("butt eye 10 10;top 20 falls 20 cost 0;shooter shake 0;strays:if lot=0 then 1 else 0 end;");
        Check.due("by one LOT", y.greedy(), 1);
        LashRing z = Check.ring("butt eye 10 10;top 20 falls 19 cost 0;shooter shake 0;strays:if lot=0 then 1 else 0 end;");
        Check.due("none", z.greedy(), 0);
        Check.due("no shooters", new LashRing().greedy(), 0);
    }
}
