/** What the tests share: texts put on the tape, trays filled, answers compared. */
final class Check {
    private static int done = 0;
    private static int wrong = 0;
    /** The sentence by which answers are due at the moment, and how many were since it was told. */
    private static String sentence = "";
    private static int since = 0;

    private Check() {
    }

    static void due(String call, long got, long want) {
        done++;
        since++;
        if (got != want) {
            wrong++;
            if (wrong <= 50) {
                System.out.println(sentence + call + " answered " + got + ", due is " + want);
            }
        }
    }

    /** What is due from here on is due by this sentence of a promise. */
    static void promise(int number, String words) {
        endSentence();
        sentence = "[promise " + number + ": " + words + "] ";
        lookUp(number, words);
    }

    /** What is due from here on is due by this sentence of the Terms, which a promise goes by. */
    static void terms(int number, String words) {
        endSentence();
        sentence = "[Terms, promise " + number + ": " + words + "] ";
        lookUp(Doc.TERMS, words);
    }

    private static void lookUp(int section, String words) {
        if (Doc.isThere()) {
            due("stands in the document", Doc.tell(section, words) ? 1 : 0, 1);
        }
        since = 0;
    }

    /** A sentence by which nothing is due has no test. */
    static void endSentence() {
        if (!sentence.isEmpty() && since == 0) {
            due("has a test", 0, 1);
        }
        sentence = "";
    }

    static void end(String name) {
        endSentence();
        System.out.println(name + ": " + done + " answers, " + wrong + " wrong");
        if (wrong != 0 || done == 0) {
            System.exit(1);
        }
    }

    /** Puts a text on the tape, blanks behind it up to twenty bytes. */
    static void feed(LashRing x, String text) {
        for (int from = 0; from < text.length(); from += 20) {
            int[] words = new int[5];
            for (int i = 0; i < 20; i++) {
                int b = from + i < text.length() ? text.charAt(from + i) : ' ';
                words[i / 4] |= (b & 255) << 24 - 8 * (i % 4);
            }
            x.feed(words[0], words[1], words[2], words[3], words[4]);
        }
    }

    static int tell(LashRing x, String text) {
        feed(x, text);
        return x.butt(text.length());
    }

    static LashRing ring(String text) {
        LashRing x = new LashRing();
        int lines = tell(x, text);
        if (lines < 1) {
            due("butt of '" + text + "', fault " + x.fault(0) + " at " + x.fault(1), lines, 1);
        }
        return x;
    }

    static void tray(LashRing x, int tray, int sort, long... values) {
        due("numbers", x.numbers(tray, sort, values.length), 0);
        for (int i = 0; i < values.length; i++) {
            due("write", x.write(tray, i, values[i]), values[i]);
        }
    }

    static void fault(String text, int kind, int place) {
        LashRing x = new LashRing();
        due("'" + text + "'", tell(x, text), -30 - kind);
        due("'" + text + "' fault(0)", x.fault(0), kind);
        due("'" + text + "' fault(1)", x.fault(1), place);
        due("'" + text + "' count(11)", x.count(11), 0);
        due("'" + text + "' count(10)", x.count(10), 0);
    }

    static void good(String text, int lines) {
        LashRing x = new LashRing();
        due("'" + text + "'", tell(x, text), lines);
        due("'" + text + "' fault(0)", x.fault(0), 0);
        due("'" + text + "' fault(1)", x.fault(1), LashRing.NONE);
    }
}
