import java.util.List;

/** Edges that the document names of the text, its tokens and its faults (promises 3 and 4, by the Terms). */
final class TextEdges {
    private static final String B = "butt eye 1 1;";
    private static final int BEHIND = B.length();
    private static final String SIGNS = ";:+-*()[]=<>";
    private static final String[] WORDS = ("butt eye top falls cost shooter shake wind strays opens or and not if then else end "
        + "lot age aim minute hurt").split(" ");
    private static final List<String> LINES = List.of("top", "shooter", "wind", "strays", "opens");
    private static final List<String> OF_STRAYS = List.of("wind", "lot", "shake", "age", "aim");
    private static final List<String> OF_OPENS = List.of("wind", "minute", "hurt");

    private TextEdges() {
    }

    static void all() {
        longest();
        without();
        lines();
        kindsOfLine();
        sums();
        atoms();
        truths();
        units();
        within();
        eye();
        tops();
        shakes();
        winds();
        laterOnesStrike();
        blanks();
        words();
        digits();
        signs();
        firstAndLeast();
        noToken();
        cantStand();
        outOfBounds();
        oneTooMany();
    }

    private static void longest() {
        Check.terms(3, "THE BUTT is a TEXT of at most 900 bytes");
        Check.good(B + " ".repeat(880) + "wind 9;", 2);
        Check.good(B + "wind 1;".repeat(126), 127);
        Check.fault(B + " ".repeat(886) + ",", 1, 899);
        Check.fault("butt" + " ".repeat(896), 2, 900);
        Check.fault(B + "a".repeat(887), 2, BEHIND);
        Check.fault(B + "1".repeat(887), 1, BEHIND);
        Check.fault(B + ";".repeat(887), 2, BEHIND);
        String law = "butt eye 1 1;shooter shake 0;strays:1" + "+0".repeat(430) + "+7;";
        Check.due("a law to the last byte", law.length(), 900);
        Check.due("its sum", Check.ring(law).lands(0, 10, 0), 18);
        String truth = "butt eye 1 1;opens:" + "1=2 or ".repeat(125) + "1=1  ;";
        Check.due("a truth to the last byte", truth.length(), 900);
        Check.due("it holds", Check.ring(truth).open(0), 1);
        LashRing x = new LashRing();
        Check.feed(x, B + " ".repeat(887));
        Check.due("the twenty behind", x.feed(0, 0, 0, 0, 0), -5);
    }

    private static void without() {
        Check.terms(1, "(without one: the eye from 10 to 10, top 10, falls 1, cost 10, no SHOOTERS, WIND 0)");
        LashRing x = new LashRing();
        int[] counts = {10, 10, 0, 10, 1, 10, 0};
        for (int i = 0; i < counts.length; i++) {
            Check.due("count(" + i + ")", x.count(i), counts[i]);
        }
        Check.due("far(10)", x.far(10), 0);
        Check.due("scores(9)", x.scores(9), 10);
        Check.due("scores(20)", x.scores(20), 1);
        Check.due("scores(0)", x.scores(0), 1);
        x.waits(1);
        Check.due("scores(10), open", x.scores(10), -10);
        LashRing y = Check.ring(B);
        for (int i = 2; i < counts.length; i++) {
            Check.due("no such LINE: count(" + i + ")", y.count(i), counts[i]);
        }
    }

    private static void lines() {
        Check.terms(3, "butt eye N N ; { LINE ; }");
        Check.good(B, 1);
        Check.good(B + "wind 1;", 2);
        Check.fault("butt eye 1 1", 2, 12);
        Check.fault("butt eye 1 1:", 2, 12);
        Check.fault("butt eye 1;", 2, 10);
        Check.fault("butt eye ;", 2, 9);
        Check.fault("butt 1 1;", 2, 5);
        Check.fault(B + ";", 2, 13);
        Check.fault(B + "wind 1", 2, 19);
        Check.fault(B + "wind 1;;", 2, 20);
        Check.fault(B + "wind 1 wind 1;", 2, 20);
    }

    private static void kindsOfLine() {
        Check.terms(3, "LINE: top N falls N cost N | shooter shake N | wind N | strays : SUM | opens : TRUTH.");
        String[] tokens = ("butt eye 1 2 ; top 3 falls 4 cost 5 ; shooter shake 6 ; wind 7 ; "
            + "strays : if lot = 1 then ( 2 ) * 3 else shake + age - aim end ; "
            + "opens : not [ minute < hurt or wind > 1 and 2 = 2 ] ;").split(" ");
        StringBuilder ahead = new StringBuilder();
        int told = 0;
        for (String token : tokens) {
            int place = ahead.length();
            String text = ahead.toString();
            if (text.endsWith("; ")) {
                Check.good(text, told);
            } else {
                Check.fault(text, 2, place);
            }
            Check.fault(text + "zz", 2, place);
            Check.fault(text + "A", 1, place);
            Check.fault(text + "1000", 1, place);
            ahead.append(token).append(' ');
            told += token.equals(";") ? 1 : 0;
        }
        Check.good(ahead.toString(), 6);
    }

    /** By how many PLACES a SHOT by LOT 2 at 10 strays; shake 3, WIND 4. */
    private static void strays(String sum, int stray) {
        LashRing x = Check.ring("butt eye 0 0;shooter shake 3;wind 4;strays:" + sum + ";");
        Check.due("strays: " + sum, x.lands(0, 10, 2) - 10, stray);
    }

    /** Whether the eye is OPEN in MINUTE 5; WIND 4. */
    private static void opens(String truth, int open) {
        LashRing x = Check.ring("butt eye 0 0;wind 4;opens:" + truth + ";");
        x.waits(5);
        Check.due("opens: " + truth, x.open(0), open);
    }

    private static void sums() {
        Check.terms(7, "SUM: TERM { + TERM | - TERM }; TERM: ATOM { * ATOM };");
        strays("7", 7);
        strays("1+2+3", 6);
        strays("9-3-2", 4);
        strays("9-3+2", 8);
        strays("2*2*2", 8);
        strays("1+2*3", 7);
        strays("2*3+1", 7);
        strays("9-2*3-1", 2);
        strays("2*3-2*2", 2);
        Check.fault(B + "strays:;", 2, 20);
        Check.fault(B + "strays:-1;", 2, 20);
        Check.fault(B + "strays:1+;", 2, 22);
        Check.fault(B + "strays:1+-1;", 2, 22);
        Check.fault(B + "strays:1*;", 2, 22);
        Check.fault(B + "strays:1 2;", 2, 22);
        Check.fault(B + "strays:1=1;", 2, 21);
    }

    private static void atoms() {
        Check.terms(7, "ATOM: N, ( SUM ), if TRUTH then SUM else SUM end, wind, in strays lot, shake, age, aim, "
            + "in opens minute, hurt.");
        strays("0", 0);
        strays("009", 9);
        strays("9-(3-2)", 8);
        strays("(1+2)*(1+1)", 6);
        strays("if lot=2 then 1+2 else 0 end*2+1", 7);
        strays("if lot=3 then 0 else 1+2 end", 3);
        strays("wind", 4);
        strays("lot", 2);
        strays("shake", 3);
        strays("age", 0);
        strays("aim-4", 6);
        opens("if minute=5 then 7 else 8 end=7", 1);
        opens("wind=4", 1);
        opens("minute=5", 1);
        opens("hurt=0", 1);
        opens("(minute+1)*2=12", 1);
        Check.fault(B + "strays:();", 2, 21);
        Check.fault(B + "strays:(1;", 2, 22);
        Check.fault(B + "strays:1);", 2, 21);
        Check.fault(B + "strays:if 1 then 2 else 3 end;", 2, 25);
        Check.fault(B + "strays:if 1=1 2 else 3 end;", 2, 27);
        Check.fault(B + "strays:if 1=1 then 2 3 end;", 2, 34);
        Check.fault(B + "strays:if 1=1 then 2 end;", 2, 34);
        Check.fault(B + "strays:if 1=1 then 2 else 3;", 2, 40);
        Check.fault(B + "strays:then;", 2, 20);
        Check.fault(B + "strays:end;", 2, 20);
        Check.fault(B + "strays:top;", 2, 20);
    }

    private static void truths() {
        Check.terms(10, "TRUTH: BOTH { or BOTH }; BOTH: UNIT { and UNIT };");
        String t = "1=1";
        String f = "1=2";
        opens(f + " or " + f, 0);
        opens(f + " or " + t, 1);
        opens(t + " or " + f, 1);
        opens(f + " or " + f + " or " + t, 1);
        opens(t + " and " + t, 1);
        opens(t + " and " + f, 0);
        opens(f + " and " + t, 0);
        opens(t + " and " + t + " and " + f, 0);
        opens(t + " or " + t + " and " + f, 1);
        opens(f + " and " + t + " or " + t, 1);
        Check.fault(B + "opens:;", 2, 19);
        Check.fault(B + "opens:1=1 or;", 2, 25);
        Check.fault(B + "opens:1=1 and;", 2, 26);
        Check.fault(B + "opens:or 1=1;", 2, 19);
        Check.fault(B + "opens:1=1 or and 1=1;", 2, 26);
        Check.fault(B + "opens:1=1 1=1;", 2, 23);
    }

    private static void units() {
        Check.terms(10, "UNIT: not UNIT, [ TRUTH ], or SUM, one of = < >, SUM.");
        opens("not 1=2", 1);
        opens("not not 1=2", 0);
        opens("not 1=1 or 1=1", 1);
        opens("not 1=2 and 1=2", 0);
        opens("not[1=1 or 1=1]", 0);
        opens("[1=1 or 1=1] and 1=2", 0);
        opens("minute=4", 0);
        opens("minute<5", 0);
        opens("minute<6", 1);
        opens("minute>5", 0);
        opens("minute>4", 1);
        opens("minute+1=2*3", 1);
        opens("0-2<0-1", 1);
        Check.fault(B + "opens:1;", 2, 20);
        Check.fault(B + "opens:1=;", 2, 21);
        Check.fault(B + "opens:=1;", 2, 19);
        Check.fault(B + "opens:1==1;", 2, 21);
        Check.fault(B + "opens:1<=1;", 2, 21);
        Check.fault(B + "opens:1=1=1;", 2, 22);
        Check.fault(B + "opens:(1=1);", 2, 21);
        Check.fault(B + "opens:[1=1);", 2, 23);
        Check.fault(B + "opens:[1=1;", 2, 23);
        Check.fault(B + "opens:[];", 2, 20);
        Check.fault(B + "opens:[1];", 2, 21);
        Check.fault(B + "opens:1=1];", 2, 22);
        Check.fault(B + "opens:not;", 2, 22);
        Check.fault(B + "opens:1=not 1=1;", 2, 21);
    }

    private static void within() {
        Check.terms(3, "At most six of not [ ( if within one another.");
        Check.good(B + "strays:" + "(".repeat(6) + "1" + ")".repeat(6) + ";", 2);
        Check.fault(B + "strays:" + "(".repeat(7) + "1" + ")".repeat(7) + ";", 4, 26);
        Check.good(B + "opens:" + "[".repeat(6) + "1=1" + "]".repeat(6) + ";", 2);
        Check.fault(B + "opens:" + "[".repeat(7) + "1=1" + "]".repeat(7) + ";", 4, 25);
        Check.good(B + "opens:" + "not ".repeat(6) + "1=1;", 2);
        Check.fault(B + "opens:" + "not ".repeat(7) + "1=1;", 4, 43);
        Check.good(B + "strays:" + "if 1=1 then ".repeat(6) + "1" + " else 1 end".repeat(6) + ";", 2);
        Check.fault(B + "strays:" + "if 1=1 then ".repeat(7) + "1" + " else 1 end".repeat(7) + ";", 4, 92);
        Check.good(B + "strays:" + "if 1=".repeat(6) + "1" + " then 1 else 1 end".repeat(6) + ";", 2);
        Check.fault(B + "strays:" + "if 1=".repeat(7), 4, 50);
        String elses = "if 1=1 then 1 else ";
        Check.good(B + "strays:" + elses.repeat(6) + "1" + " end".repeat(6) + ";", 2);
        Check.fault(B + "strays:" + elses.repeat(7), 4, 20 + 6 * elses.length());
        Check.good(B + "opens:not[not[((1))=1]];", 2);
        Check.good(B + "opens:not[not[(if 1=1 then 1 else 2 end)=1]];", 2);
        Check.fault(B + "opens:not[not[(if 1=(1) then 1 else 2 end)=1]];", 4, 33);
        // Beside one another they are not within one another.
        Check.good(B + "strays:((((((1))))))+((((((1))))))-((((((1))))))*((((((1))))));", 2);
        Check.good(B + "opens:((((((1))))))=((((((1)))))) and ((((((1))))))<1 or ((((((1))))))>1;", 2);
        Check.good(B + "opens:not not not not not not 1=1 and not not not not not not 1=1;", 2);
        Check.good(B + "opens:not 1=1 and ((((((1))))))=1;", 2);
        Check.good(B + "opens:not(((((1)))))=(((((1)))));", 2);
        Check.fault(B + "opens:not 1=((((((1))))));", 4, 30);
        Check.good(B + "strays:if (((((1)))))=1 then (((((1))))) else (((((1))))) end+((((((1))))));", 2);
        Check.good(B + "strays:((((((1))))));strays:((((((1))))));opens:[[[[[[1=1]]]]]];", 4);
    }

    private static void eye() {
        Check.terms(3, "butt: PLACES are 0 to 20; the eye is from one to one, the second no less than the first.");
        Check.good("butt eye 0 0;", 1);
        Check.good("butt eye 0 20;", 1);
        Check.good("butt eye 20 20;", 1);
        Check.fault("butt eye 21 21;", 3, 9);
        Check.fault("butt eye 0 21;", 3, 11);
        Check.fault("butt eye 999 999;", 3, 9);
        Check.good("butt eye 7 7;", 1);
        Check.fault("butt eye 7 6;", 3, 11);
        Check.fault("butt eye 1 0;", 3, 11);
        Check.fault("butt eye 20 19;", 3, 12);
    }

    private static void tops() {
        Check.terms(3, "top 0 to 99, falls 0 to 99, cost 0 to 99.");
        Check.good(B + "top 0 falls 0 cost 0;", 2);
        Check.good(B + "top 99 falls 99 cost 99;", 2);
        Check.fault(B + "top 100 falls 1 cost 1;", 3, 17);
        Check.fault(B + "top 1 falls 100 cost 1;", 3, 25);
        Check.fault(B + "top 1 falls 1 cost 100;", 3, 32);
    }

    private static void shakes() {
        Check.terms(5, "shooter: how it shakes, 0 to 9; numbered from 0 on, 4 at most.");
        LashRing x = Check.ring(B + "shooter shake 9;shooter shake 0;shooter shake 5;shooter shake 4;");
        int[] shakes = {9, 0, 5, 4};
        for (int s = 0; s < 4; s++) {
            Check.due("shooter(" + s + ", 0)", x.shooter(s, 0), shakes[s]);
        }
        Check.due("four of them", x.count(2), 4);
        Check.fault(B + "shooter shake 10;", 3, 27);
        Check.fault(B + "shooter shake 1;".repeat(5), 4, 77);
    }

    private static void winds() {
        Check.terms(3, "wind 0 to 9;");
        Check.due("wind 0", Check.ring(B + "wind 0;").count(6), 0);
        Check.due("wind 9", Check.ring(B + "wind 9;").count(6), 9);
        Check.fault(B + "wind 10;", 3, 18);
    }

    private static void laterOnesStrike() {
        Check.terms(3, "later ones of top, wind, strays, opens strike.");
        LashRing x = Check.ring("butt eye 5 6;top 1 falls 2 cost 3;wind 1;strays:1;opens:1=1;shooter shake 1;"
            + "top 4 falls 5 cost 6;wind 2;strays:2;opens:1=2;shooter shake 2;");
        Check.due("top", x.count(3), 4);
        Check.due("falls", x.count(4), 5);
        Check.due("cost", x.count(5), 6);
        Check.due("wind", x.count(6), 2);
        Check.due("strays", x.lands(0, 10, 0), 12);
        Check.due("opens", x.open(0), 0);
        Check.due("shooters do not", x.count(2), 2);
        Check.due("each is a LINE", x.count(11), 11);
    }

    private static void blanks() {
        Check.terms(3, "TOKENS, as long as they go on, between them blanks (10, 32):");
        Check.good("\n butt\neye \n 1\n\n1 ; \n", 1);
        Check.good("butt eye1 1;wind9;", 2);
        Check.good(B + "strays:if lot=1then 2else 3end;", 2);
        Check.fault("butteye 1 1;", 2, 0);
        Check.fault("butt eye 11;", 2, 11);
        Check.fault(B + "wi nd 1;", 2, 13);
        Check.fault(B + "windy 1;", 2, 13);
        Check.fault(B + "win 1;", 2, 13);
        Check.fault(B + "wind 1 0;", 2, 20);
        Check.due("12 is one N", Check.ring("butt eye 12 20;").count(0), 12);
        for (int b = 0; b < 33; b++) {
            if (b == 10 || b == 32) {
                Check.good(B + (char) b, 1);
            } else {
                Check.fault(B + (char) b, 1, BEHIND);
            }
        }
    }

    private static void words() {
        Check.terms(3, "words (small letters),");
        for (int b = 0; b < 256; b++) {
            boolean small = b >= 'a' && b <= 'z';
            if (small) {
                Check.fault(B + (char) b, 2, BEHIND);
                // It goes on the word.
                Check.fault(B + "wind" + (char) b + " 1;", 2, BEHIND);
            } else if (b >= 'A' && b <= 'Z' || b > 127) {
                Check.fault(B + (char) b, 1, BEHIND);
                Check.fault(B + "wind" + (char) b + " 1;", 1, BEHIND + 4);
            }
        }
        Check.fault("Butt eye 1 1;", 1, 0);
        Check.fault(B + "wind`1;", 1, 17);
        Check.fault(B + "wind{1;", 1, 17);
    }

    private static void digits() {
        Check.terms(3, "N (1 to 3 digits),");
        Check.good("butt eye 1 01;", 1);
        Check.good("butt eye 001 001;", 1);
        Check.good(B + "strays:999;", 2);
        Check.fault("butt eye 0001 1;", 1, 9);
        Check.fault(B + "strays:1234;", 1, 20);
        for (char c = '0'; c <= '9'; c++) {
            Check.due("wind " + c, Check.ring(B + "wind " + c + ";").count(6), c - '0');
        }
        Check.fault(B + "wind /;", 1, 18);
        Check.fault(B + "wind :;", 2, 18);
    }

    private static void signs() {
        Check.terms(3, "the signs ; : + - * ( ) [ ] = < >.");
        for (int b = 33; b < 127; b++) {
            boolean token = b >= 'a' && b <= 'z' || b >= '0' && b <= '9' || SIGNS.indexOf(b) >= 0;
            Check.fault(B + (char) b, token ? 2 : 1, BEHIND);
        }
        Check.fault(B + (char) 127, 1, BEHIND);
        Check.good(B + "strays:(1+2-3)*4;opens:[1=2 or 1<2 or 1>2];", 3);
    }

    private static void firstAndLeast() {
        Check.terms(4, "FAULTS, the first along the text, of one TOKEN the least kind:");
        Check.fault("butt eye 21 1000;", 3, 9);
        Check.fault(B + "wind 10,", 3, 18);
        Check.fault(B + "wind wind,", 2, 18);
        Check.fault(B + ", wind 10; zoo", 1, 13);
        Check.fault(B + "shooter shake 1;".repeat(5) + ",", 4, 77);
        // 1 and 2, 1 and 3 of one TOKEN.
        Check.fault(B + "1000", 1, 13);
        Check.fault(B + "wind 1000;", 1, 18);
        // 2 and 3: an N that is out of all bounds, where no N can stand.
        Check.fault(B + "wind 1 999;", 2, 20);
        // 2 and 4: a seventh that can't stand there.
        Check.fault(B + "strays:((((((1(;", 2, 27);
        Check.fault(B + "strays:(((((([;", 2, 26);
        Check.fault(B + "strays:((((((not;", 2, 26);
        Check.fault(B + "opens:[[[[[[1=not;", 2, 27);
        Check.fault(B + "opens:[[[[[[1=1 if;", 2, 29);
    }

    private static void noToken() {
        Check.terms(4, "1 no TOKEN begins so (4 digits and more: at their first).");
        Check.fault(",", 1, 0);
        Check.fault("butt eye 1 1," , 1, 12);
        Check.fault(B + "wind 1000;", 1, 18);
        Check.fault(B + "wind 10000;", 1, 18);
        Check.fault(B + "wind 0000;", 1, 18);
        Check.fault(B + "wind 100", 3, 18);
        Check.fault(B + "wind 12345678901234567890;", 1, 18);
        Check.fault(B + "opens:1=1 & 1=1;", 1, 23);
    }

    private static void cantStand() {
        Check.terms(4, "2 it can't stand there (the end: the text's length; butt must be told first, and once; "
            + "a word of the other law).");
        Check.fault("", 2, 0);
        Check.fault("  \n", 2, 3);
        Check.fault("butt eye 1 1", 2, 12);
        Check.fault("butt eye 1 1   ", 2, 15);
        Check.fault(B + "wind", 2, 17);
        Check.fault("wind 1;" + B, 2, 0);
        Check.fault("eye 1 1;", 2, 0);
        Check.fault(B + B, 2, 13);
        Check.fault(B + "wind 1;" + B, 2, 20);
        Check.fault(B + "strays:minute;", 2, 20);
        Check.fault(B + "strays:hurt;", 2, 20);
        Check.fault(B + "strays:if minute=1 then 1 else 2 end;", 2, 23);
        for (String word : new String[] {"lot", "shake", "age", "aim"}) {
            Check.fault(B + "opens:" + word + "=1;", 2, 19);
            Check.fault(B + "strays:lot;opens:1=" + word + ";", 2, 32);
        }
        Check.good(B + "opens:minute=hurt;strays:lot+shake+age+aim;", 3);
        for (String word : WORDS) {
            Check.fault("butt eye " + word, 2, 9);
            Check.fault("butt eye 1 " + word, 2, 11);
            Check.fault(B + "wind " + word, 2, 18);
            Check.fault(B + word + " " + word + ";", 2, LINES.contains(word) ? BEHIND + word.length() + 1 : BEHIND);
            if (OF_STRAYS.contains(word)) {
                Check.good(B + "strays:1+" + word + ";", 2);
            } else {
                Check.fault(B + "strays:1+" + word + ";", 2, word.equals("if") ? 24 : 22);
            }
            if (OF_OPENS.contains(word)) {
                Check.good(B + "opens:1=" + word + ";", 2);
            } else {
                Check.fault(B + "opens:1=" + word + ";", 2, word.equals("if") ? 23 : 21);
            }
        }
        // The end of a text is where n says, though the tape goes on.
        LashRing x = new LashRing();
        Check.feed(x, B + "wind 1;");
        Check.due("butt(18)", x.butt(18), -32);
        Check.due("fault(1)", x.fault(1), 18);
    }

    private static void outOfBounds() {
        Check.terms(4, "3 an N out of its bounds.");
        Check.fault("butt eye 21 20;", 3, 9);
        Check.fault("butt eye 2 1;", 3, 11);
        Check.fault(B + "top 100 falls 1 cost 1;", 3, 17);
        Check.fault(B + "shooter shake 999;", 3, 27);
        Check.fault(B + "wind 10", 3, 18);
        // An N of a law has none.
        Check.good(B + "strays:999;opens:999=999;", 3);
    }

    private static void oneTooMany() {
        Check.terms(4, "4 the first TOKEN of a 5th shooter; a seventh of not [ ( if.");
        String four = B + "shooter shake 1;".repeat(4);
        Check.good(four, 5);
        Check.good(four + "wind 1;", 6);
        Check.fault(four + "shooter", 4, 77);
        Check.fault(four + "wind 1; shooter shake 10;", 4, 85);
        Check.fault(four + "shooter shooter", 4, 77);
        Check.fault(B + "opens:[[[[[[[", 4, 25);
        Check.fault(B + "opens:[[[[[[not", 4, 25);
        Check.fault(B + "opens:[[[[[[(", 4, 25);
        Check.fault(B + "opens:[[[[[[if", 4, 25);
        Check.fault(B + "strays:((((((if", 4, 26);
        Check.fault(B + "strays:((((((1+(", 4, 28);
    }
}
