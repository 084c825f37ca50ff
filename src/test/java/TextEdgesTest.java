/** Texts: empty, full, the first fault, what is carried out before a refused line, and the latest reason. */
public final class TextEdgesTest {
    private TextEdgesTest() {
    }

    public static void main(String[] args) {
        atMost100();
        clearedLength();
        emptyText();
        digits();
        formOfALine();
        eachFollowedBySemicolon();
        firstLineThatIsWrong();
        faultAtTheEnds();
        askedOfTheLiningOfNow();
        runStays();
        runOfAFault();
        runOfAFullText();
        untilOneIsRefused();
        refusedInAnOverCampaign();
        whatIsNotRefused();
        oneChange();
        noReason();
        reasonOfTheLatest();
        reasonOverRatherThanThick();
        reasonThickRatherThanStock();
        reasonJustNot();
        Due.end("TextEdgesTest");
    }

    /** One ring of three, in which heats wear evenly. */
    private static LiningLog even() {
        LiningLog log = Due.lining(1, 3);
        log.set(1, 500);
        return log;
    }

    private static void run(LiningLog log, String text, int lines, int reason) {
        Due.text(log, text);
        Due.same("run() of " + text, log.run(), lines);
        Due.same("reason() behind " + text, log.reason(), reason);
    }

    private static void fault(LiningLog log, String text, int due) {
        Due.text(log, text);
        Due.same("fault() of " + text, log.fault(), due);
        if (due != Due.MISSING) {
            Due.same("run() of " + text, log.run(), Due.IMPOSSIBLE);
        }
    }

    private static void atMost100() {
        Due.about("LIMIT_REACHED if it has 100 characters");
        LiningLog log = new LiningLog();
        for (int length = 1; length <= 100; length++) {
            Due.same("type", log.type(length % 2 == 1 ? 's' : ';'), length);
        }
        for (int more = 0; more < 3; more++) {
            Due.same("one more", log.type(';'), Due.REACHED);
        }
        Due.same("INVALID_ARGUMENT rather than LIMIT_REACHED, 31", log.type(31), Due.INVALID);
        Due.same("INVALID_ARGUMENT rather than LIMIT_REACHED, 127", log.type(127), Due.INVALID);
        Due.same("length", log.count(8), 100);
        Due.same("nothing was lost or changed", log.fault(), Due.MISSING);
        Due.same("clearText()", log.clearText(), 100);
        Due.same("type again", log.type('s'), 1);
    }

    private static void clearedLength() {
        Due.about("Empties the text. Returns the length it had");
        LiningLog log = new LiningLog();
        Due.same("of none", log.clearText(), 0);
        log.type('x');
        Due.same("of one", log.clearText(), 1);
        Due.same("of none again", log.clearText(), 0);
        Due.same("length", log.count(8), 0);
        Due.same("no change", log.count(7), 0);
        Due.text(log, "s;s;");
        Due.text(log, "s");
        Due.same("what was typed before is gone", log.fault(), 0);
    }

    private static void emptyText() {
        Due.about("NOT_FOUND if it has none (also if it is empty)");
        LiningLog log = new LiningLog();
        Due.same("fault()", log.fault(), Due.MISSING);
        Due.same("run()", log.run(), 0);
        Due.same("a change, also if none is carried out", log.count(7), 1);
        Due.same("reason()", log.reason(), 0);
        Due.same("undo()", log.undo(), 0);
    }

    private static void digits() {
        Due.about("Numbers have 1 to 4 digits (zeros may stand ahead)");
        LiningLog log = new LiningLog();
        String[] right = {"r0;", "r00;", "r000;", "r0000;", "r2;", "r02;", "r0002;", "g0,1;", "g0000,0001;", "g17,05;",
            "h1400,0;", "h1400,00;", "h1400,0000;", "h1800,0100;", "h1800,100;"};
        for (String text : right) {
            fault(log, text, Due.MISSING);
        }
        String[] wrong = {"r;", "r00000;", "r00002;", "g,1;", "g00000,1;", "g0,;", "g0,00001;", "h,0;", "h01400,0;",
            "h1400,;", "h1400,00000;", "r1234567890;", "r4294967296;"};
        for (String text : wrong) {
            fault(log, text, 0);
        }
    }

    private static void formOfALine() {
        Due.about("\"h\", a temperature, \",\" and a slag number; \"g\", a spot, \",\" and an amount; \"s\"; or \"r\" and a ring");
        // Each right line with each of its characters left out, doubled, or spoilt by a neighbour in the code.
        for (String line : new String[] {"h1600,50;", "g12,250;", "s;", "r1;"}) {
            LiningLog right = new LiningLog();
            fault(right, line, Due.MISSING);
            int letters = 0;
            for (int at = 0; at < line.length(); at++) {
                char sign = line.charAt(at);
                if (sign < '0' || sign > '9') {
                    LiningLog log = new LiningLog();
                    fault(log, line.substring(0, at) + line.substring(at + 1), 0);
                    fault(log, line.substring(0, at) + (char) (sign + 1) + line.substring(at + 1), 0);
                    fault(log, line.substring(0, at) + (char) (sign - 1) + line.substring(at + 1), 0);
                    fault(log, line.substring(0, at) + ' ' + line.substring(at), 0);
                    letters++;
                }
            }
            Due.same("letters and signs of " + line, letters, line.contains(",") ? 3 : 2);
        }
        LiningLog log = new LiningLog();
        // Characters beside the digits.
        fault(log, "r/;", 0);
        fault(log, "r:;", 0);
        fault(log, "g1/,1;", 0);
        fault(log, "g1,1:;", 0);
        fault(log, "ss;", 0);
        fault(log, "s1;", 0);
    }

    private static void eachFollowedBySemicolon() {
        Due.about("a sequence of lines, each followed by \";\"");
        LiningLog log = new LiningLog();
        fault(log, "s", 0);
        fault(log, "s;s", 2);
        fault(log, "r1", 0);
        fault(log, "g1,1", 0);
        fault(log, "h1600,1", 0);
        fault(log, "s;h1600,1", 2);
        fault(log, ";", 0);
        fault(log, "s;;", 2);
        fault(log, ";s;", 0);
    }

    private static void firstLineThatIsWrong() {
        Due.about("the position, from 0, of the first character of the first line that is not of this form");
        LiningLog log = new LiningLog();
        fault(log, "s;r3;x;", 2);
        fault(log, "s;x;r3;", 2);
        fault(log, "r2;r3;r4;", 3);
        fault(log, "g17,1;g18,1;", 6);
        fault(log, "h1600,100;h1600,101;s;", 10);
        fault(log, "h1800,0;h1801,0;x", 8);
        fault(log, "s;h1600,0", 2);
    }

    private static void faultAtTheEnds() {
        Due.about("the position, from 0");
        LiningLog log = new LiningLog();
        String fifty = "s;".repeat(50);
        fault(log, "x" + fifty.substring(1), 0);
        log = new LiningLog();
        fault(log, fifty.substring(0, 98) + "x;", 98);
        log = new LiningLog();
        fault(log, fifty.substring(0, 98) + "s", 98);
        log = new LiningLog();
        fault(log, fifty.substring(0, 96) + "r0;;", 99);
        log = new LiningLog();
        fault(log, fifty.substring(0, 96) + "r0;s", 99);
        log = new LiningLog();
        fault(log, fifty.substring(0, 92) + "h1600,01", 92);
        log = new LiningLog();
        fault(log, fifty.substring(0, 92) + "h1600,1;", Due.MISSING);
        log = new LiningLog();
        fault(log, fifty.substring(0, 94) + "h1600,", 94);
        log = new LiningLog();
        fault(log, fifty.substring(0, 94) + "g17,500;".substring(0, 6), 94);
    }

    private static void askedOfTheLiningOfNow() {
        Due.about("or has a number that is out of its range, or no spot or ring");
        LiningLog log = new LiningLog();
        fault(log, "g17,1;r2;", Due.MISSING);
        log.begin(1, 3);
        Due.same("begun smaller", log.fault(), 0);
        log.begin(2, 9);
        Due.same("no third ring", log.fault(), 6);
        log.begin(6, 3);
        Due.same("18 spots again", log.fault(), Due.MISSING);
        log.undo();
        Due.same("undone", log.fault(), 6);
        log.undo();
        log.undo();
        Due.same("undone to the first lining", log.fault(), Due.MISSING);
    }

    private static void runStays() {
        Due.about("Carries out the lines of the text, which stays, until one is refused");
        LiningLog log = even();
        for (int runs = 1; runs <= 3; runs++) {
            if (runs == 1) {
                Due.text(log, "h1600,0;r0;s;");
            }
            Due.same("run()", log.run(), 3);
            Due.same("length", log.count(8), 13);
            Due.same("heats", log.count(2), runs);
            Due.same("scans", log.count(6), runs);
        }
    }

    private static void runOfAFault() {
        Due.about("NOT_POSSIBLE if the text has a fault");
        for (String text : new String[] {"s;s", "s;x;", "s;r3;", "s;g18,1;", "s;h1801,0;", "x", ";"}) {
            LiningLog log = new LiningLog();
            Due.text(log, text);
            Due.same("run() of " + text, log.run(), Due.IMPOSSIBLE);
            Due.same("no line ahead of the fault is carried out", log.count(6), 0);
            Due.same("no change", log.count(7), 0);
            Due.same("no line was refused", log.reason(), 0);
            Due.same("the text stays", log.count(8), text.length());
        }
    }

    private static void runOfAFullText() {
        Due.about("a text of at most 100 characters");
        LiningLog log = even();
        run(log, "s;".repeat(50), 50, 0);
        Due.same("scans", log.count(6), 4);
        LiningLog heats = even();
        run(heats, "h1600,0;".repeat(12) + "s;s;", 14, 0);
        Due.same("heats", heats.count(2), 12);
        Due.same("scans", heats.count(6), 2);
        LiningLog rings = even();
        run(rings, "r0;".repeat(33), 33, 0);
        Due.same("laid", rings.account(0), 34 * 9000);
        Due.same("broken out", rings.account(3), 33 * 9000);
    }

    private static void untilOneIsRefused() {
        Due.about("Lines are carried out one after the other until one is refused");
        LiningLog log = even();
        log.set(4, 10);
        run(log, "g0,11;s;r0;", 0, 3);
        Due.same("the first: no scan", log.count(6), 0);
        Due.same("nothing laid", log.account(0), 9000);
        Due.same("nothing gunned", log.account(1), 0);
        run(log, "s;g0,5;g1,6;s;", 2, 3);
        Due.same("the third: one scan", log.count(6), 1);
        Due.same("gunned by the second", log.spot(0, 1), 3);
        Due.same("not by the third", log.spot(1, 1), 0);
        Due.same("stock", log.count(24), 5);
        run(log, "s;g1,5;g1,1;", 2, 3);
        Due.same("the last one", log.count(6), 2);
        Due.same("stock", log.count(24), 0);
        Due.same("fault() of lines that are refused", log.fault(), Due.MISSING);
    }

    private static void refusedInAnOverCampaign() {
        Due.about("In a campaign that is over there are no heats and nothing is gunned, by lines either");
        LiningLog log = even();
        log.rate(0, 50);
        log.set(0, 2000);
        Due.heats(log, 9, 1800, 100);
        run(log, "h1800,100;h1800,100;h1800,100;", 2, 1);
        Due.same("over", log.count(5), 1);
        Due.same("heats", log.count(2), 11);
        run(log, "s;r0;h1600,0;s;", 2, 1);
        Due.same("scans", log.count(6), 1);
        Due.same("relined, still over", log.count(5), 1);
        run(log, "g0,1;s;", 0, 1);
        Due.same("stock", log.count(24), 20000);
    }

    private static void whatIsNotRefused() {
        Due.about("\"s\" (a scan); or \"r\" and a ring (relining), which are never refused");
        LiningLog log = HeatsTest.overLining();
        log.set(4, 0);
        run(log, "s;r0;s;r0;", 4, 0);
        Due.same("scans", log.count(6), 2);
        Due.same("still the first campaign", log.count(4), 1);
        Due.same("of as many heats", log.count(3), 11);
    }

    private static void oneChange() {
        Due.about("They are one change, also if none is carried out");
        LiningLog log = new LiningLog();
        run(log, "s;h1600,0;g0,5;r1;", 4, 0);
        Due.same("states", log.count(7), 1);
        Due.same("undo() of all four", log.undo(), 0);
        Due.same("scans", log.count(6), 0);
        Due.same("heats", log.count(2), 0);
        Due.same("laid", log.account(0), 54000);
        Due.same("gunned", log.account(1), 0);
        Due.same("the text stays", log.count(8), 18);
        log.set(4, 0);
        run(log, "g0,1;", 0, 3);
        Due.same("none: states", log.count(7), 2);
        Due.same("none: undo()", log.undo(), 1);
        Due.same("none: the stock is that ahead of it", log.count(24), 0);
        Due.same("reason() stays", log.reason(), 3);
    }

    private static void noReason() {
        Due.about("0: none was refused, of all texts since the log was created");
        LiningLog log = HeatsTest.overLining();
        log.heat(1600, 0);
        log.gun(0, 1);
        Due.same("refused calls are no lines", log.reason(), 0);
        run(log, "s;", 1, 0);
        Due.text(log, "h9999,0;");
        log.run();
        Due.same("a fault is no refused line", log.reason(), 0);
    }

    private static void reasonOfTheLatest() {
        Due.about("why the latest refused line of all texts was refused, since the log was created");
        LiningLog log = even();
        log.set(4, 0);
        run(log, "g0,1;", 0, 3);
        log.set(4, 1000);
        run(log, "g0,500;g0,336;", 1, 2);
        run(log, "g1,1;s;", 2, 2);
        log.clearText();
        Due.same("run() of none", log.run(), 0);
        Due.same("clearText and run leave it", log.reason(), 2);
        log.undo();
        log.undo();
        log.undo();
        Due.same("undo leaves it", log.reason(), 2);
        log.begin(2, 3);
        Due.same("begin leaves it", log.reason(), 2);
        log.reline(-1);
        Due.same("the next campaign leaves it", log.reason(), 2);
        log.set(4, 0);
        run(log, "g0,1;", 0, 3);
    }

    private static void reasonOverRatherThanThick() {
        Due.about("1 is told rather than 2");
        LiningLog log = Due.lining(2, 3);
        log.set(0, 2000);
        log.set(1, 500);
        log.rate(0, 0);
        log.rate(1, 50);
        Due.heats(log, 10, 1800, 100);
        log.gun(0, 500);
        run(log, "g0,500;", 0, 2);
        log.heat(1800, 100);
        Due.same("over", log.count(5), 1);
        run(log, "g0,500;", 0, 1);
        log.undo();
        log.set(4, 0);
        run(log, "s;g0,500;", 1, 1);
        Due.same("thick enough for 2 all the same", log.spot(0, 2) > 3200 ? 1 : 0, 1);
    }

    private static void reasonThickRatherThanStock() {
        Due.about("2 rather than 3");
        LiningLog log = even();
        log.gun(0, 500);
        log.set(4, 400);
        run(log, "g1,401;", 0, 3);
        run(log, "g0,401;", 0, 2);
        run(log, "g0,400;", 0, 2);
        run(log, "g2,401;", 0, 3);
    }

    private static void reasonJustNot() {
        Due.about("the thickness would have been greater than 3500; the stock was less than the amount");
        LiningLog log = even();
        log.gun(0, 500);
        run(log, "g0,334;", 1, 0);
        Due.same("just 3500", log.spot(0, 2), 3500);
        run(log, "g0,1;", 1, 0);
        run(log, "g0,2;", 0, 2);
        log.set(4, 7);
        run(log, "g1,7;", 1, 2);
        run(log, "g1,1;", 0, 3);
    }
}
