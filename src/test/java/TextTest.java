/** Promises 11 to 13: the text and the profile that is read from it. */
public final class TextTest {
    private static final Check CHECK = new Check();

    public static void main(String[] args) {
        append();
        clearText();
        load();
        loadedTexts();
        wrongTexts();
        CHECK.finish();
    }

    private static void due(String call, int got, int want) {
        CHECK.due(call, got, want);
    }

    private static void append() {
        RoastKeeper k = new RoastKeeper();
        due("append(0)", k.append(0), Check.INVALID);
        due("append(256)", k.append(256), Check.INVALID);
        due("append(-1)", k.append(-1), Check.INVALID);
        due("append(1)", k.append(1), 1);
        due("append(255)", k.append(255), 2);
        for (int n = 3; n <= 100; n++) {
            due("append no. " + n, k.append(' '), n);
        }
        due("a 101st", k.append(' '), Check.FULL);
        due("a 101st out of range", k.append(0), Check.INVALID);
        due("length", k.count(12), 100);
        due("append is no action", k.count(11), 0);
    }

    private static void clearText() {
        RoastKeeper k = new RoastKeeper();
        due("clearText of none", k.clearText(), 0);
        Check.type(k, "0 1;");
        due("clearText", k.clearText(), 4);
        due("length", k.count(12), 0);
        due("clearText is no action", k.count(11), 0);
        due("nothing is left of it", k.load(), 0);
    }

    private static void load() {
        RoastKeeper k = new RoastKeeper();
        k.setPoint(7, 70);
        Check.type(k, "0 900;60 1500;");
        due("load", k.load(), 2);
        due("target(0)", k.target(0), 900);
        due("target(7): the present profile is gone", k.target(7), 970);
        due("target(60)", k.target(60), 1500);
        due("the text is empty", k.count(12), 0);
        due("load is an action", k.count(11), 2);
        Check.type(k, "1 2;3 4");
        due("load of an error", k.load(), -200007);
        due("the text is kept", k.count(12), 7);
        due("the profile is kept", k.target(60), 1500);
        due("it is not recorded", k.count(11), 2);
        k.append(';');
        due("load when mended", k.load(), 2);
        Check.type(k, "5 5;");
        due("undo of load", k.undo(), 2);
        due("the profile is back", k.target(60), 1500);
        due("the text is none of the state", k.count(12), 4);
        k.clearText();
        due("load of no items", k.load(), 0);
        due("no points then", k.target(0), Check.NONE);
    }

    private static void loadedTexts() {
        reads("", 0);
        reads("   ", 0);
        reads("0 0;", 1);
        reads("400 3000;", 1);
        reads("399 2999;400 0;", 2);
        reads(" 10 5 ; 20 6 ;   ", 2);
        reads("10    5;", 1);
        reads("0 1;1 1;2 1;3 1;4 1;5 1;6 1;7 1;", 8);
        reads("0 1;1 1;2 1;3 1;4 1;5 1;6 1;7 1;  ", 8);
        reads("0 1;" + " ".repeat(96), 1);
    }

    private static void wrongTexts() {
        failsAt("0", 1);
        failsAt("0 ", 2);
        failsAt("0 1", 3);
        failsAt("0 1  ", 5);
        failsAt("0 1;5", 5);
        failsAt(";", 0);
        failsAt("0;", 1);
        failsAt("0 1;;", 4);
        failsAt("0 1 2;", 4);
        failsAt("0 1 01;", 4);
        failsAt("401 0;", 0);
        failsAt("  401 0;", 2);
        failsAt("0 3001;", 2);
        failsAt("401", 0);
        failsAt("0 3001", 2);
        failsAt("00 1;", 0);
        failsAt("01 1;", 0);
        failsAt("0 00;", 2);
        failsAt("0 01", 2);
        failsAt("5 1;5 2;", 4);
        failsAt("5 1;4 2;", 4);
        failsAt("5 1;4", 4);
        failsAt("0 1;1 1;2 1;3 1;4 1;5 1;6 1;7 1;8 1;", 32);
        failsAt("0 1;1 1;2 1;3 1;4 1;5 1;6 1;7 1;  8", 34);
        failsAt("0 1;1 1;2 1;3 1;4 1;5 1;6 1;7 1;#", 32);
        failsAt("x", 0);
        failsAt("0 x;", 2);
        failsAt("0x 1;", 1);
        failsAt("-1 1;", 0);
        failsAt("1,2;", 1);
        failsAt("1\t2;", 1);
        failsAt("0 1" + (char) 160 + ";", 3);
        failsAt("1 2:", 3);
        failsAt("1 /", 2);
        // 2^32 + 1, 2^64 + 1 and a hundred digits must not wrap around into the range
        failsAt("4294967297 1;", 0);
        failsAt("0 18446744073709551617;", 2);
        failsAt("1".repeat(100), 0);
        failsAt("1 " + "2".repeat(98), 2);
        failsAt(" ".repeat(99) + "7", 100);
        failsAt(" ".repeat(98) + "7 ", 100);
    }

    private static void reads(String text, int points) {
        RoastKeeper k = new RoastKeeper();
        Check.type(k, text);
        due("load of '" + text + "'", k.load(), points);
        due("points of '" + text + "'", k.count(8), points);
    }

    private static void failsAt(String text, int position) {
        RoastKeeper k = new RoastKeeper();
        k.setPoint(9, 90);
        Check.type(k, text);
        due("load of '" + text + "'", k.load(), -200000 - position);
        due("length after '" + text + "'", k.count(12), text.length());
        due("profile after '" + text + "'", k.target(0), 90);
    }
}
