/** Each sentence of "Rule text" that names a limit or a place of a syntax error: promises 22 to 24. */
final class RuleTextBoundsTest {
    private static final String PARSE = "Promise 24:";
    private static final String DIGITS = "0123456789";

    public static void main(String[] args) {
        lengthOfTheText();
        noRules();
        semicolons();
        numbers();
        everyByteEverywhere();
        spaces();
        textEndsTooEarly();
        threeDigits();
        greaterThan15();
        occursAlready();
        fifthAtom();
        rule25();
        orderOfFinding();
        whatIsFoundFirst();
        errorsAddNothing();
        Check.end();
    }

    /** What parse answers for the text on a new object. */
    private static void read(String text, int answer) {
        read(new HornEngine(), 0, text, answer);
    }

    /** What parse answers for the text where so many rules exist; after an error no rule and no state is new. */
    private static void read(HornEngine x, int rules, String text, int answer) {
        Check.due("parse() of \"" + text + "\" with " + rules + " rules", Texts.parse(x, text), answer);
        Check.due("then rules()", x.rules(), answer < 0 ? rules : rules + answer);
        if (rules == 0) {
            Check.due("then undo()", x.undo(), answer < 0 ? -5 : 0);
        }
    }

    private static void error(String text, int place) {
        read(text, -10 - place);
    }

    private static void lengthOfTheText() {
        Check.sentence("Promises 22, 24:", "The text has at most 120 bytes");
        HornEngine x = new HornEngine();
        for (int length = 1; length <= 120; length++) {
            Check.due("append at " + length, x.append("1:02;".charAt((length - 1) % 5)), length);
        }
        Check.due("the 121st byte", x.append(' '), -4);
        Check.due("parse() of 24 rules in 120 bytes", x.parse(), 24);
        for (int rule = 0; rule < 24; rule++) {
            Check.due("head(" + rule + ")", x.head(rule), 1);
            Check.due("body(" + rule + ")", x.body(rule), 4);
        }
        String full = "1:02;".repeat(24);
        error(full.substring(0, 119), 119);
        error(full.substring(0, 119) + "x", 119);
        error(full.substring(0, 119) + ",", 120);
        error(full.substring(0, 118) + "16", 119);
        error(full.substring(0, 117) + "16;", 117);
        read(full.substring(0, 115) + "  1:;", 24);
        Unchanged.butCounter("the 121st byte", States::full, e -> e.append('1'), -4);
    }

    private static void noRules() {
        Check.sentence(PARSE, "The text may have no rules");
        read("", 0);
        read(" ", 0);
        read(" ".repeat(119), 0);
        read(" ".repeat(120), 0);
        error(" ".repeat(119) + ";", 119);
        read(States.facts(24), 24, "", 0);
        read(States.facts(24), 24, " ".repeat(120), 0);
        HornEngine cleared = Texts.engine("1:;");
        cleared.clearText();
        Check.due("parse() of a text that was emptied", cleared.parse(), 0);
    }

    private static void semicolons() {
        Check.sentence(PARSE, "a sequence of rules, each terminated by a semicolon");
        read("1:;", 1);
        read("1:2;", 1);
        read("1:;2:3;", 2);
        error("1:", 2);
        error("1:2", 3);
        error("1:;2:3", 6);
        error(";", 0);
        error("1:;;", 3);
        error("1;", 1);
        Check.sentence(PARSE, "the head, a colon, and the atoms of the body separated by commas (no atoms for a fact)");
        body("1:;", 0);
        body("1:0;", 1);
        body("1:15;", 0x8000);
        body("1:0,15;", 0x8001);
        body("1:15,0,7,8;", 0x8181);
        error(":;", 0);
        error("1::;", 2);
        error("1,2;", 1);
        error("1:,;", 2);
        error("1:,2;", 2);
        error("1:2,;", 4);
        error("1:2,,3;", 4);
        error("1:2:3;", 3);
    }

    private static void body(String text, int body) {
        Check.due("body(0) of \"" + text + "\"", Texts.engine(text).body(0), body);
    }

    /** Every number of 1, 2, 3 and of four digits, as a head, as the first atom and as the fourth one. */
    private static void numbers() {
        Check.sentence(PARSE, "An atom is a number of 1 or 2 digits with the value 0 to 15");
        for (int value = 0; value <= 9; value++) {
            number("" + value, value);
        }
        for (int value = 0; value <= 99; value++) {
            number(value < 10 ? "0" + value : "" + value, value);
        }
        for (int value = 0; value <= 999; value++) {
            number(("" + (1000 + value)).substring(1), value);
        }
        for (int value = 0; value <= 9999; value += 101) {
            number(("" + (10000 + value)).substring(1), value);
        }
    }

    private static void number(String written, int value) {
        int found = written.length() > 2 ? 2 : 0;
        boolean good = found == 0 && value <= 15;
        String three = value == 0 ? "3:1,2,4," : value % 2 == 0 ? "3:1,3,5," : "3:0,2,4,";
        HornEngine head = new HornEngine();
        Check.due("the head " + written, Texts.parse(head, written + ":;"), good ? 1 : -10 - found);
        HornEngine first = new HornEngine();
        Check.due("the first atom " + written, Texts.parse(first, "3:" + written + ";"), good ? 1 : -12 - found);
        HornEngine fourth = new HornEngine();
        Check.due("the fourth atom " + written, Texts.parse(fourth, three + written + ";"), good ? 1 : -18 - found);
        Check.due("the head's value " + written, head.head(0), good ? value : -2);
        Check.due("the first atom's value " + written, first.body(0), good ? 1 << value : -2);
        if (good) {
            Check.due("the fourth atom's value " + written, fourth.body(0) >> value & 1, 1);
            Check.due("the number of atoms", Integer.bitCount(fourth.body(0)), 4);
        }
    }

    private static void everyByteEverywhere() {
        Check.sentence(PARSE, "the index of the first byte that cannot stand where it stands");
        next("", DIGITS + " ", "", 0);
        next("1:;", DIGITS + " ", "", 0);
        next("1:;  ", DIGITS + " ", "", 0);
        next("1", "012345 :", "6789", 0);
        next("0", DIGITS + " :", "", 0);
        next("2", " :", DIGITS, 0);
        next("12", " :", "", 0);
        next("1 ", " :", "", 0);
        next("1:", DIGITS + " ;", "", 0);
        next("1: ", DIGITS + " ;", "", 0);
        next("1:1", "012345 ,;", "6789", 2);
        next("1:2", " ,;", DIGITS, 2);
        next("1:12", " ,;", "", 0);
        next("1:2 ", " ,;", "", 0);
        next("1:1,", "023456789 ", "", 0);
        next("1:2,", "013456789 ", "", 0);
        next("1:2,1", "012345 ,;", "6789", 4);
        next("1:2,3,4,5", " ,;", DIGITS, 8);
        next("1:2,3,4,5 ", " ,;", "", 0);
        next("1:2,3,4,5,", " ", "", 0);
        next("1:2,3,4,5, ", " ", "", 0);
    }

    /**
     * Each byte behind a beginning that is good so far: those that may stand there bring the end of the text (or a
     * text that is good), the digits that make the number too great are found at its first digit, all others at once.
     */
    private static void next(String start, String good, String tooGreat, int firstDigit) {
        boolean whole = start.isBlank() || start.trim().endsWith(";");
        for (int value = 0; value <= 127; value++) {
            String text = start + (char) value;
            if (good.indexOf(value) < 0) {
                error(text, tooGreat.indexOf(value) < 0 ? start.length() : firstDigit);
            } else if (value == ';' || value == ' ' && whole) {
                read(text, text.indexOf(';') < 0 ? 0 : 1);
            } else {
                error(text, text.length());
            }
        }
    }

    private static void spaces() {
        Check.sentence(PARSE, "Spaces (byte 32) may stand anywhere except inside a number");
        String[] parts = {"1", ":", "2", ",", "15", ",", "0", ",", "06", ";", "07", ":", ";", ""};
        for (int gap = -1; gap < parts.length; gap++) {
            for (int spaces = 0; spaces <= 3; spaces++) {
                StringBuilder text = new StringBuilder();
                for (int part = 0; part < parts.length; part++) {
                    text.append(" ".repeat(gap == part || gap == -1 ? spaces : 0)).append(parts[part]);
                }
                HornEngine x = Texts.engine(text.toString());
                Check.due("rules() of \"" + text + "\"", x.rules(), 2);
                Check.due("body(0) of \"" + text + "\"", x.body(0), 0x8045);
                Check.due("head(1) of \"" + text + "\"", x.head(1), 7);
            }
        }
        error("1 5:;", 2);
        error("0 7:;", 2);
        error("1   5:;", 4);
        error("1:1 5;", 4);
        error("1:2,1 5;", 6);
        error("1:2,1  5;", 7);
        error("1 5", 2);
        error("15 0:;", 3);
        error("1:1 11;", 4);
        for (int other : new int[] {0, 9, 10, 13, 31, 33, 127}) {
            error("1" + (char) other + ":;", 1);
            error((char) other + "1:;", 0);
            error("1:;" + (char) other, 3);
        }
    }

    private static void textEndsTooEarly() {
        Check.sentence(PARSE, "or the length of the text if the text ends too early");
        String text = "12:3,4;0:;15 : 1 , 2,3,04 ; ";
        int rules = 0;
        for (int length = 0; length <= text.length(); length++) {
            String part = text.substring(0, length);
            rules += part.endsWith(";") ? 1 : 0;
            read(part, part.trim().isEmpty() || part.trim().endsWith(";") ? rules : -10 - length);
        }
        error("1   ", 4);
        error("1:   ", 5);
        error("1:2   ", 6);
        error("1:2,   ", 7);
        error("1:" + " ".repeat(118), 120);
        error("1:2,3,4,5,", 10);
        error("1:2,3,4,5,  ", 12);
    }

    private static void threeDigits() {
        Check.sentence(PARSE, "A number with three or more digits has its error at the third digit, whatever its value");
        for (String digits : new String[] {"000", "001", "010", "015", "016", "100", "150", "160", "999", "0000", "9999"}) {
            error(digits, 2);
            error(digits + ":;", 2);
            error("  " + digits + ":;", 4);
            error("1:" + digits + ";", 4);
            error("1:2," + digits + ";", 6);
            error("1:2,3,4," + digits, 10);
            error("1:;" + digits + ":;", 5);
        }
        error("0".repeat(120), 2);
        Check.sentence(PARSE, "the range of a number is checked only if it has one or two digits");
        error("16:;", 0);
        error("160:;", 2);
        error("1:99;", 2);
        error("1:990;", 4);
        read("15:;", 1);
        error("150:;", 2);
    }

    private static void greaterThan15() {
        Check.sentence(PARSE, "the first digit of a number greater than 15");
        read("14:14;", 1);
        read("15:15;", 1);
        error("16:16;", 0);
        error("17:;", 0);
        error("99:;", 0);
        error(" 16:;", 1);
        error("1:16;", 2);
        error("1: 16;", 3);
        error("1:15,16;", 5);
        error("1:0,1,2,16;", 8);
        error("1:;16:;", 3);
        error("16", 0);
        error("1:16", 2);
        error("16x", 0);
    }

    private static void occursAlready() {
        Check.sentence(PARSE, "the first digit of an atom that occurs in the body already");
        error("1:2,2;", 4);
        error("1:2,02;", 4);
        error("1:02,2;", 5);
        error("1:0,00;", 4);
        error("1:15,15;", 5);
        error("1:15, 15;", 6);
        error("1:2,3,2;", 6);
        error("1:2,3,3;", 6);
        error("1:2,3,4,2;", 8);
        error("1:2,3,4,3;", 8);
        error("1:2,3,4,4;", 8);
        error("1:1,1;", 4);
        error("1:;1:2,2;", 7);
        read("1:2,3;", 1);
        read("2:2;", 1);
        read("1:2;1:2;", 2);
        read("1:2,12;", 1);
        read("1:1,11;", 1);
        read("1:1,10,0,11;", 1);
    }

    private static void fifthAtom() {
        Check.sentence(PARSE, "the first digit of a fifth atom of a body");
        read("1:2,3,4;", 1);
        read("1:2,3,4,5;", 1);
        error("1:2,3,4,5,6;", 10);
        error("1:2,3,4,5,06;", 10);
        error("1:2,3,4,5,  6;", 12);
        error("1:2,3,4,5 ,6;", 11);
        error("1:12,13,14,15,0;", 14);
        error("1:2,3,4,5,6,7;", 10);
        error("1:;1:2,3,4,5,6;", 13);
        read("1:2,3,4,5;1:2,3,4,5;", 2);
    }

    private static void rule25() {
        Check.sentence(PARSE, "the first digit of the head of a 25th rule (with those that exist)");
        for (int exist = 0; exist <= 24; exist++) {
            int room = 24 - exist;
            for (int more = Math.max(0, room - 2); more <= room + 2; more++) {
                read(States.facts(exist), exist, "3:;".repeat(more), more <= room ? more : -10 - 3 * room);
            }
        }
        read("3:;".repeat(40), -10 - 72);
        read("3:;".repeat(24) + "   ", 24);
        read("3:;".repeat(24) + "   15:;", -10 - 75);
        read(States.facts(23), 23, " 1 : ; ", 1);
        read(States.facts(23), 23, " 1 : ; 1", -10 - 7);
        read(States.facts(24), 24, "  1:;", -12);
        HornEngine removed = States.facts(24);
        removed.removeRule(0);
        read(removed, 23, "1:;", 1);
        HornEngine undone = States.facts(24);
        undone.undo();
        read(undone, 23, "1:;2:;", -13);
    }

    private static void orderOfFinding() {
        Check.sentence(PARSE, "That an atom is the fifth one, or that the rule is the 25th one,"
            + " is found before the number is read");
        error("1:2,3,4,5,160;", 10);
        error("1:2,3,4,5,016;", 10);
        error("1:2,3,4,5,16;", 10);
        error("1:2,3,4,5,2;", 10);
        error("1:2,3,4,5,6", 10);
        error("1:2,3,4,5,999", 10);
        read(States.facts(24), 24, "160:;", -10);
        read(States.facts(24), 24, "16:;", -10);
        read(States.facts(24), 24, "1", -10);
        read(States.facts(24), 24, " 999", -11);
        read(States.facts(23), 23, "1:;160:;", -13);
        read(States.facts(23), 23, "160:;", -12);
        Check.sentence(PARSE, "that it occurs in the body already is found after it has been read and found to be in"
            + " its range");
        error("1:2,022;", 6);
        error("1:15,150;", 7);
        error("1:2,222;", 6);
        error("1:2,22;", 4);
        error("1:2,2", 4);
        error("1:2,2x", 4);
        error("1:1,1 2;", 4);
        error("1:1,12;1:1,1;", 11);
    }

    private static void whatIsFoundFirst() {
        Check.sentence(PARSE, "The syntax error position is the index of the first byte");
        error("16:;x", 0);
        error("x16:;", 0);
        error("1:1,1;16:;", 4);
        error("1:16,16;", 2);
        error("1:2,2,16;", 4);
        error("1:2,16,2;", 4);
        error("1:160,16;", 4);
        error("1:2 3,16;", 4);
        error("1:2,3,4,4,5;", 8);
        error("1:;2;3", 4);
        read(States.facts(23), 23, "1:1,1;2:;", -14);
        read(States.facts(23), 23, "1:1;2:2,2;", -14);
        read(States.facts(23), 23, "1:1", -13);
        read(States.facts(24), 24, "x", -10);
        read(States.facts(24), 24, ";1:;", -10);
    }

    private static void errorsAddNothing() {
        Check.sentence(PARSE, "then nothing changes, no state is saved, and no error is counted");
        syntaxError("1:;2:;16:;", 6);
        syntaxError("1:;2:;1:2,2;", 10);
        syntaxError("1:;2:;3", 7);
        syntaxError("1:;2:;x", 6);
        syntaxError("1:2,3,4,5,6;", 10);
        syntaxError("100:;", 2);
        syntaxError(";", 0);
        syntaxError("0:;".repeat(40), 60);
        Unchanged.atAll("parse() when worn", States::worn, HornEngine::parse, -14);
        Unchanged.atAll("parse() when full", States::full, HornEngine::parse, -10);
    }

    private static void syntaxError(String text, int place) {
        Unchanged.atAll("parse() of \"" + text + "\"", () -> {
            HornEngine x = States.busy();
            Texts.put(x, text);
            return x;
        }, HornEngine::parse, -10 - place);
    }
}
