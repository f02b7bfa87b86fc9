/** Promises 30 to 32: matches and rounds. */
public final class RoundsTest {
    public static void main(String[] args) {
        matches();
        rounds();
        roundsKnowWhatWentBefore();
        beginnings();
        Check.end("RoundsTest");
    }

    private static void matches() {
        // Shooter 0 always scores 10; shooter 1 by five LOTS 10, by five 9.
        LashRing x = Check.ring("butt eye 0 0;shooter shake 0;shooter shake 1;strays:if lot<5 then 0 else shake end;");
        Check.due("half of them", x.beats(0, 1, 1, 0), 1);
        Check.due("half of them", x.beats(0, 1, 1, 1), 2);
        Check.due("two shots", x.beats(0, 1, 2, 0), 3);
        Check.due("two shots", x.beats(0, 1, 2, 1), 4);
        Check.due("three shots", x.beats(0, 1, 3, 0), 7);
        Check.due("three shots", x.beats(0, 1, 3, 1), 8);
        Check.due("never", x.beats(1, 0, 3, 0), 0);
        Check.due("never", x.beats(1, 0, 3, 1), 1);
        Check.due("no shooter", x.beats(0, 2, 1, 0), -2);
        Check.due("no shooter", x.beats(-1, 0, 1, 0), -2);
        Check.due("both one", x.beats(1, 1, 1, 0), -2);
        Check.due("no what", x.beats(0, 1, 1, 2), -2);
        Check.due("n", x.beats(0, 1, 0, 0), -3);
        Check.due("n", x.beats(0, 1, 4, 0), -3);
        Check.due("what ahead of n", x.beats(0, 1, 4, 2), -2);
        // The greatest losses: the eye is all, open, cost 99.
        LashRing y = Check.ring("butt eye 0 20;top 0 falls 0 cost 99;shooter shake 0;shooter shake 0;opens:1=1;");
        Check.due("like ones", y.beats(0, 1, 3, 0), 0);
        LashRing z = Check.ring("butt eye 1 20;top 99 falls 0 cost 99;opens:1=1;shooter shake 0;shooter shake 9;"
            + "strays:if shake=0 then 0-9 else 9 end;");
        Check.due("the greatest lead", z.beats(0, 1, 3, 0), 1);
        Check.due("the greatest loss", z.beats(1, 0, 3, 0), 0);
        Check.due("the greatest loss", z.beats(1, 0, 3, 1), 1);
    }

    private static void rounds() {
        LashRing x = Check.ring("butt eye 9 11;top 20 falls 4 cost 15;shooter shake 0;shooter shake 2;");
        Check.due("round(0, 0, 0)", x.round(0, 0, 0), 0);
        Check.due("round(0, 0, 1)", x.round(0, 0, 1), 1);
        Check.due("round(0, 4, 0)", x.round(0, 4, 0), 80);
        Check.due("round(0, 4, 1)", x.round(0, 4, 1), 1);
        Check.due("round(1, 4, 0)", x.round(1, 4, 0), 304);
        Check.due("round(1, 4, 1)", x.round(1, 4, 1), 5);
        Check.due("no shooter", x.round(2, 1, 0), -99000002);
        Check.due("no what", x.round(0, 1, 2), -99000002);
        Check.due("n", x.round(0, 5, 0), -99000003);
        Check.due("n", x.round(0, -1, 0), -99000003);
        Check.due("the shooter ahead of n", x.round(2, 5, 0), -99000002);
        // Nothing but losses: it waits.
        LashRing y = Check.ring("butt eye 0 20;shooter shake 0;opens:1=1;");
        Check.due("to wait", y.round(0, 4, 0), 0);
        Check.due("to wait", y.begins(0, 4), 21);
    }

    private static void roundsKnowWhatWentBefore() {
        // Once hurt the eye is shut; a young shooter lands on 0 (the eye), an older one on 1 for 99.
        LashRing x = Check.ring("butt eye 0 0;top 99 falls 99 cost 9;shooter shake 0;"
            + "strays:if age=0 then 0-9 else if aim=9 then 0-8 else 0-9 end end;opens:hurt=0;");
        // Aims 9 and above: young ones land at aim - 9. At 10 it lands on 1 for 99 while young.
        Check.due("one turn", x.round(0, 1, 0), 99);
        Check.due("begins", x.begins(0, 1), 10);
        LashRing y = Check.ring("butt eye 0 0;top 50 falls 50 cost 10;shooter shake 0;"
            + "strays:if age=0 then 0-20 else 1 end;opens:minute=0;");
        // Held at -9, aim 10 lands on 1 while young; older: aim 0 lands on 1: 50 a turn.
        Check.due("four turns", y.round(0, 4, 0), 200);
        LashRing z = Check.ring("butt eye 0 11;top 60 falls 60 cost 10;shooter shake 0;"
            + "strays:if age=0 then 0-9 else 0-8 end;opens:minute=0;");
        // Young: lands at 11 at most, a touch: -10 in minute 0, 0 later. Older: 12 from 20 on: 60.
        Check.due("one turn", z.round(0, 1, 0), 0);
        Check.due("one turn waits", z.begins(0, 1), 21);
        Check.due("two turns", z.round(0, 2, 0), 50);
        Check.due("two turns begin", z.begins(0, 2), 0);
        Check.due("three turns", z.round(0, 3, 0), 110);
        Check.due("four turns", z.round(0, 4, 0), 170);
        // Being hurt opens or shuts the eye: a first touch of 5 lets the later ones be free.
        LashRing w = Check.ring("butt eye 0 0;top 0 falls 0 cost 5;shooter shake 0;opens:hurt=0;");
        Check.due("no gain", w.round(0, 4, 0), 0);
        Check.due("the first of like ones", w.begins(0, 4), 1);
        LashRing u = Check.ring("butt eye 0 11;top 9 falls 1 cost 5;shooter shake 0;strays:age+0-8;");
        // Beside the eye is 12: from 20 while young, from 19 at the age of 1, and so on.
        Check.due("each time at another aim", u.round(0, 4, 0), 36);
        LashRing t = Check.ring("butt eye 0 19;top 9 falls 1 cost 5;shooter shake 0;strays:0-2+if age=2 then 2 else 0 end;opens:1=2;");
        Check.due("the third shot alone", t.round(0, 2, 0), 0);
        Check.due("the third shot alone", t.round(0, 3, 0), 9);
        Check.due("then it waits or touches", t.round(0, 4, 0), 9);
        // The eye opens later on, and being hurt twice opens it no more.
        LashRing q = Check.ring("butt eye 0 20;top 9 falls 1 cost 5;shooter shake 0;opens:minute>1;");
        Check.due("nothing is lost", q.round(0, 4, 0), 0);
        Check.due("an aim while it is shut", q.begins(0, 4), 0);
        q.waits(2);
        Check.due("to wait while it is open", q.begins(0, 4), 21);
        LashRing p = Check.ring("butt eye 0 11;top 60 falls 60 cost 10;shooter shake 0;strays:if age<2 then 0-9 else 0-8 end;"
            + "opens:hurt<1;");
        // Two young shots: one costs 10 and hurts, the next one is free; then 60 a turn.
        Check.due("hurt but once", p.round(0, 3, 0), 50);
        Check.due("hurt but once", p.round(0, 4, 0), 110);
        // The age goes no further than 9.
        LashRing v = Check.ring("butt eye 0 0;top 9 falls 9 cost 5;shooter shake 0;strays:if age<10 then 0 else 9 end;");
        for (int i = 0; i < 9; i++) {
            v.shoot(0, 1, 0);
        }
        Check.due("nine at most", v.round(0, 4, 0), 36);
    }

    private static void beginnings() {
        LashRing x = Check.ring("butt eye 9 11;top 20 falls 4 cost 15;shooter shake 0;shooter shake 2;");
        Check.due("begins(0, 4)", x.begins(0, 4), 8);
        Check.due("begins(1, 4)", x.begins(1, 4), 7);
        Check.due("begins(0, 0)", x.begins(0, 0), -1);
        Check.due("begins(0, 5)", x.begins(0, 5), -3);
        Check.due("begins(0, -1)", x.begins(0, -1), -3);
        Check.due("begins(2, 5)", x.begins(2, 5), -2);
        Check.due("begins(-1, 0)", x.begins(-1, 0), -2);
        // To wait scores as much as each aim: the aim is first.
        LashRing y = Check.ring("butt eye 0 20;shooter shake 0;opens:1=2;");
        Check.due("to wait is behind all", y.begins(0, 2), 0);
    }
}
