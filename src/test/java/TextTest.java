/** Promises 11 to 13: the text and the profile that is read from it. */
public final class TextTest {
    private static final Check CHECK = new Check();

    public static void main(String[] args) {
        append();
        clearText();
        load();
        loadedTexts();
        wrongTexts();
        spaces();
        zerosAhead();
        ranges();
        ascending();
        ninthItem();
        anyOtherCharacter();
        endOfTheText();
        firstErrorOnly();
        lengths();
        oneLoadAfterAnother();
        CHECK.finish();
    }

    private static void due(String call, int got, int want) {
        CHECK.due(call, got, want);
    }

    private static void append() {
        RoastKeeper k = new RoastKeeper();
        due("append(0)", k.append(0), Check.INVALID);
        due("append(256)", k.append(256), Check.INVALID);
        due("append(-1)", k.append(-1), Check.INVALID);
        due("append(1)", k.append(1), 1);
        due("append(255)", k.append(255), 2);
        for (int n = 3; n <= 100; n++) {
            due("append no. " + n, k.append(' '), n);
        }
        due("a 101st", k.append(' '), Check.FULL);
        due("a 101st out of range", k.append(0), Check.INVALID);
        due("length", k.count(12), 100);
        due("append is no action", k.count(11), 0);
    }

    private static void clearText() {
        RoastKeeper k = new RoastKeeper();
        due("clearText of none", k.clearText(), 0);
        Check.type(k, "0 1;");
        due("clearText", k.clearText(), 4);
        due("length", k.count(12), 0);
        due("clearText is no action", k.count(11), 0);
        due("nothing is left of it", k.load(), 0);
    }

    private static void load() {
        RoastKeeper k = new RoastKeeper();
        k.setPoint(7, 70);
        Check.type(k, "0 900;60 1500;");
        due("load", k.load(), 2);
        due("target(0)", k.target(0), 900);
        due("target(7): the present profile is gone", k.target(7), 970);
        due("target(60)", k.target(60), 1500);
        due("the text is empty", k.count(12), 0);
        due("load is an action", k.count(11), 2);
        Check.type(k, "1 2;3 4");
        due("load of an error", k.load(), -200007);
        due("the text is kept", k.count(12), 7);
        due("the profile is kept", k.target(60), 1500);
        due("it is not recorded", k.count(11), 2);
        k.append(';');
        due("load when mended", k.load(), 2);
        Check.type(k, "5 5;");
        due("undo of load", k.undo(), 2);
        due("the profile is back", k.target(60), 1500);
        due("the text is none of the state", k.count(12), 4);
        k.clearText();
        due("load of no items", k.load(), 0);
        due("no points then", k.target(0), Check.NONE);
    }

    private static void loadedTexts() {
        reads("", 0);
        reads("   ", 0);
        reads("0 0;", 1);
        reads("400 3000;", 1);
        reads("399 2999;400 0;", 2);
        reads(" 10 5 ; 20 6 ;   ", 2);
        reads("10    5;", 1);
        reads("0 1;1 1;2 1;3 1;4 1;5 1;6 1;7 1;", 8);
        reads("0 1;1 1;2 1;3 1;4 1;5 1;6 1;7 1;  ", 8);
        reads("0 1;" + " ".repeat(96), 1);
    }

    private static void wrongTexts() {
        failsAt("0", 1);
        failsAt("0 ", 2);
        failsAt("0 1", 3);
        failsAt("0 1  ", 5);
        failsAt("0 1;5", 5);
        failsAt(";", 0);
        failsAt("0;", 1);
        failsAt("0 1;;", 4);
        failsAt("0 1 2;", 4);
        failsAt("0 1 01;", 4);
        failsAt("401 0;", 0);
        failsAt("  401 0;", 2);
        failsAt("0 3001;", 2);
        failsAt("401", 0);
        failsAt("0 3001", 2);
        failsAt("00 1;", 0);
        failsAt("01 1;", 0);
        failsAt("0 00;", 2);
        failsAt("0 01", 2);
        failsAt("5 1;5 2;", 4);
        failsAt("5 1;4 2;", 4);
        failsAt("5 1;4", 4);
        failsAt("0 1;1 1;2 1;3 1;4 1;5 1;6 1;7 1;8 1;", 32);
        failsAt("0 1;1 1;2 1;3 1;4 1;5 1;6 1;7 1;  8", 34);
        failsAt("0 1;1 1;2 1;3 1;4 1;5 1;6 1;7 1;#", 32);
        failsAt("x", 0);
        failsAt("0 x;", 2);
        failsAt("0x 1;", 1);
        failsAt("-1 1;", 0);
        failsAt("1,2;", 1);
        failsAt("1\t2;", 1);
        failsAt("0 1" + (char) 160 + ";", 3);
        failsAt("1 2:", 3);
        failsAt("1 /", 2);
        // 2^32 + 1, 2^64 + 1 and a hundred digits must not wrap around into the range
        failsAt("4294967297 1;", 0);
        failsAt("0 18446744073709551617;", 2);
        failsAt("1".repeat(100), 0);
        failsAt("1 " + "2".repeat(98), 2);
        failsAt(" ".repeat(99) + "7", 100);
        failsAt(" ".repeat(98) + "7 ", 100);
    }

    /** They may stand before, between and after tokens, and are needed between two numbers alone. */
    private static void spaces() {
        reads("1 2;3 4;", 2);
        reads(" 1 2;3 4;", 2);
        reads("1  2;3 4;", 2);
        reads("1 2 ;3 4;", 2);
        reads("1 2; 3 4;", 2);
        reads("1 2;3 4; ", 2);
        reads("   1   2   ;   3   4   ;   ", 2);
        failsAt("12;3 4;", 2);
        failsAt("1 2;34;", 6);
        failsAt("1 2 3;", 4);
        // a space within a number makes two of it
        failsAt("1 2 5;", 4);
        failsAt("1 2;3 0 4;", 8);
    }

    private static void zerosAhead() {
        reads("0 0;", 1);
        reads("10 100;", 1);
        for (String number : new String[] {"00", "01", "007", "000", "0400", "0000000001"}) {
            failsAt(number + " 5;", 0);
            failsAt(number, 0);
            failsAt("5 " + number + ";", 2);
            failsAt("5 " + number, 2);
            failsAt("5 5; " + number + " 5;", 5);
        }
        failsAt("0 5;0 5;", 4);
    }

    private static void ranges() {
        loadsPoint("0 0;", 0, 0);
        loadsPoint("0 3000;", 0, 3000);
        loadsPoint("400 0;", 400, 0);
        loadsPoint("400 3000;", 400, 3000);
        loadsPoint("399 2999;", 399, 2999);
        loadsPoint("9 10;", 9, 10);
        for (String tick : new String[] {"401", "410", "500", "999", "1000", "4000", "65536", "2147483647",
            "2147483648", "4294967296", "4294967696", "18446744073709551616", "10000000000000000000000000000"}) {
            failsAt(tick + " 5;", 0);
            failsAt(tick, 0);
            failsAt("3 5;" + tick + " 5;", 4);
        }
        for (String temperature : new String[] {"3001", "3010", "4000", "10000", "30000", "65536", "2147483648",
            "4294967296", "4294970296", "18446744073709551616", "10000000000000000000000000000"}) {
            failsAt("5 " + temperature + ";", 2);
            failsAt("5 " + temperature, 2);
        }
    }

    private static void loadsPoint(String text, int tick, int temperature) {
        RoastKeeper k = new RoastKeeper();
        Check.type(k, text);
        due("load of '" + text + "'", k.load(), 1);
        due("the point of '" + text + "'", k.removePoint(tick), temperature);
    }

    private static void ascending() {
        reads("0 9;1 9;", 2);
        reads("399 9;400 9;", 2);
        failsAt("1 9;0 9;", 4);
        failsAt("1 9;1 9;", 4);
        failsAt("400 9;400 9;", 6);
        failsAt("400 9;399 9;", 6);
        failsAt("400 9;0 9;", 6);
        failsAt("400 9;401 9;", 6);
        failsAt("1 9;5 9;3 9;", 8);
        failsAt("5 9;1", 4);
        // temperatures need not ascend, nor be greater than the TICK
        reads("1 9;2 9;3 8;", 3);
        reads("400 0;", 1);
    }

    private static void ninthItem() {
        String eight = "0 1;1 1;2 1;3 1;4 1;5 1;6 1;7 1;";
        String seven = "0 1;1 1;2 1;3 1;4 1;5 1;6 1;";
        reads(seven, 7);
        reads(eight, 8);
        reads(eight + "   ", 8);
        for (String tick : new String[] {"8", "400", "401", "7", "0", "08", ";", "x", "8 1;", "8;"}) {
            failsAt(eight + tick, 32);
            failsAt(eight + "  " + tick, 34);
        }
        failsAt(seven + "7 1", 31);
        failsAt(seven + "7", 29);
        failsAt(seven + "7 3001;8 1;", 30);
    }

    /** At each place where a token stands, and within a number. */
    private static void anyOtherCharacter() {
        for (int code = 1; code <= 255; code++) {
            char other = (char) code;
            boolean digit = other >= '0' && other <= '9';
            if (!digit && other != ' ' && other != ';') {
                failsAt(other + "1 2;", 0);
                failsAt("1" + other + "2;", 1);
                failsAt("1 " + other + ";", 2);
                failsAt("1 2" + other + ";", 3);
                failsAt("1 2;" + other, 4);
                failsAt("1 2;5" + other, 5);
            }
        }
        failsAt(";1 2;", 0);
        failsAt("1;2;", 1);
        failsAt("1 ;2;", 2);
        failsAt("1 2;;", 4);
        failsAt("1 2; ;", 5);
    }

    private static void endOfTheText() {
        reads("", 0);
        failsAt("1", 1);
        failsAt("1   ", 4);
        failsAt("1 2", 3);
        failsAt("1 2   ", 6);
        failsAt("1 2;3", 5);
        failsAt("1 2;3 4", 7);
        failsAt("1 2;3 4  ", 9);
        reads("1 2;3 4;", 2);
    }

    private static void firstErrorOnly() {
        failsAt("401 3001;", 0);
        failsAt("00 x", 0);
        failsAt("1 3001 x", 2);
        failsAt("1 2 3 x", 4);
        failsAt("x 401", 0);
        failsAt("5 1;4 3001;", 4);
    }

    private static void lengths() {
        reads("0 1;" + " ".repeat(96), 1);
        reads(" ".repeat(96) + "0 1;", 1);
        reads("0" + " ".repeat(97) + "1;", 1);
        reads("0 1" + " ".repeat(96) + ";", 1);
        reads(" ".repeat(100), 0);
        failsAt("0" + " ".repeat(98) + "1", 100);
        failsAt("0 1" + " ".repeat(97), 100);
        failsAt(" ".repeat(99) + "x", 99);
        failsAt(";".repeat(100), 0);
        failsAt("0".repeat(100), 0);
        failsAt("0 1;" + " ".repeat(95) + ";", 99);
        failsAt("0 1;1 1;2 1;3 1;4 1;5 1;6 1;7 1;" + " ".repeat(67) + "8", 99);
        // the longest numbers that are in their ranges
        reads("393 3000;394 3000;395 3000;396 3000;397 3000;398 3000;399 3000;400 3000;", 8);
    }

    private static void oneLoadAfterAnother() {
        RoastKeeper k = new RoastKeeper();
        Check.type(k, "400 1;5 5;");
        due("load", k.load(), -200006);
        k.clearText();
        Check.type(k, "0 7;");
        due("the ticks begin anew after an error", k.load(), 1);
        Check.type(k, "0 8;");
        due("the ticks begin anew", k.load(), 1);
        due("in place of the present profile", k.target(0), 8);
        Check.type(k, "9 9");
        due("load", k.load(), -200003);
        due("nothing of it is in the profile", k.count(8) * 10 + k.target(9), 18);
        due("again the same", k.load(), -200003);
        k.append(';');
        due("mended", k.load(), 1);
        due("nothing of the former profile", k.target(0), 9);
        due("a second load reads the empty text", k.load(), 0);
        due("so there is no profile", k.target(0), Check.NONE);
        k.undo();
        due("undo brings it back", k.target(0), 9);
        for (int n = 0; n <= 8; n++) {
            for (int m = 0; m <= 8; m++) {
                oneLoadAfter(n, m);
            }
        }
    }

    /** So many points, and then so many: nothing of the former text has a part in the latter. */
    private static void oneLoadAfter(int former, int latter) {
        String[] items = {"0 1;", "1 1;", "2 1;", "3 1;", "4 1;", "5 1;", "6 1;", "7 1;"};
        RoastKeeper k = new RoastKeeper();
        for (int n = 0; n < former; n++) {
            Check.type(k, items[n]);
        }
        Check.type(k, "x");
        due("an error behind " + former + " items", k.load(), -200000 - 4 * former);
        k.clearText();
        for (int n = 0; n < former; n++) {
            Check.type(k, items[n]);
        }
        due("load of " + former + " items", k.load(), former);
        for (int n = 0; n < latter; n++) {
            Check.type(k, items[n]);
        }
        due("load of " + latter + " items after " + former, k.load(), latter);
        due("points", k.count(8), latter);
        due("text", k.count(12), 0);
    }

    private static void reads(String text, int points) {
        RoastKeeper k = new RoastKeeper();
        Check.type(k, text);
        due("load of '" + text + "'", k.load(), points);
        due("points of '" + text + "'", k.count(8), points);
        due("length of the text after it", k.count(12), 0);
    }

    private static void failsAt(String text, int position) {
        RoastKeeper k = new RoastKeeper();
        k.setPoint(9, 90);
        Check.type(k, text);
        due("load of '" + text + "'", k.load(), -200000 - position);
        due("length after '" + text + "'", k.count(12), text.length());
        due("profile after '" + text + "'", k.target(0), 90);
    }
}
