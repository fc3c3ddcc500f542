/** The edges of the buffer, of the grammar of its texts and of execute(). */
public final class TextsEdgesTest {
    private static final Checks C = new Checks("TextsEdgesTest");
    private static final int LIMIT = -4;
    private static final int BAD_TEXT = -5;
    private static final int NONE = -6;

    public static void main(String[] args) {
        theBufferHasRoomFor80Characters();
        clearTextTellsHowManyThereWere();
        anEmptyBufferIsNoText();
        eachCharacterOfEachPlace();
        aCodeHasFourDigits();
        aNumberIs1To30WithoutLeadingZeros();
        aTextEndsWithACommand();
        theErrorIsTheFirstOne();
        aBufferThatIsFullAndNoText();
        anAppendedCharacterCanMendTheText();
        eachCommandStandsForItsMethod();
        eachSenderSizeShelfAndNumberIsRead();
        codesWithZerosAhead();
        executeStopsAtTheFirstError();
        wrongCodesAreNoErrors();
        executeEmptiesTheBuffer();
        executeOfNoTextChangesNothing();
        aFullBufferIsExecuted();
        executeRecordsOneState();
        commandsSetTheRefusal();
        theLatestCommandSetsTheRefusal();
        C.end();
    }

    private static void theBufferHasRoomFor80Characters() {
        ParcelShelves s = new ParcelShelves();
        for (int i = 1; i <= 80; i++) {
            C.due("append no " + i, s.append(33 + i), i);
        }
        C.due("append no 81", s.append('a'), LIMIT);
        C.due("append no 82", s.append('~'), LIMIT);
        C.due("clearText()", s.clearText(), 80);
        C.due("append after clearText()", s.append('d'), 1);
    }

    private static void clearTextTellsHowManyThereWere() {
        for (int length : new int[] {0, 1, 2, 79, 80}) {
            ParcelShelves s = new ParcelShelves();
            for (int i = 0; i < length; i++) {
                s.append('!');
            }
            C.due("clearText() of " + length, s.clearText(), length);
            C.due("clearText() again", s.clearText(), 0);
            C.due("errorPosition() then", s.errorPosition(), 0);
        }
    }

    private static void anEmptyBufferIsNoText() {
        ParcelShelves s = new ParcelShelves();
        C.due("errorPosition()", s.errorPosition(), 0);
        C.due("execute()", s.execute(), BAD_TEXT);
        C.due("nothing is recorded", s.undo(), -3);
    }

    private static int errorOf(String text) {
        ParcelShelves s = new ParcelShelves();
        Checks.write(s, text);
        return s.errorPosition();
    }

    /** What may stand after some beginnings, tried with all 94 characters that a buffer can hold. */
    private static void eachCharacterOfEachPlace() {
        String digits = "0123456789";
        String[][] places = {{"", "apxmd"}, {"a", digits}, {"a0", "sml"}, {"a9s", ";"}, {"a0m", ";"}, {"a0l", ";"},
            {"p", digits}, {"p0", digits}, {"p12", digits}, {"p123", digits}, {"p1234", ";"},
            {"x", digits}, {"x9", digits}, {"x98", digits}, {"x987", digits}, {"x9876", ";"},
            {"m", digits}, {"m0", digits}, {"m01", digits}, {"m012", digits}, {"m0123", ">"},
            {"m0123>", "012345"}, {"m0123>0", ";"}, {"m0123>5", ";"},
            {"d", "123456789"}, {"d1", digits + ";"}, {"d2", digits + ";"}, {"d3", "0;"}, {"d4", ";"}, {"d9", ";"},
            {"d10", ";"}, {"d19", ";"}, {"d20", ";"}, {"d29", ";"}, {"d30", ";"},
            {"a0s;", "apxmd"}, {"p0000;", "apxmd"}, {"x0000;", "apxmd"}, {"m0000>0;", "apxmd"}, {"d1;", "apxmd"},
            {"d3;", "apxmd"}, {"d30;", "apxmd"}, {"d30;d", "123456789"}, {"d4;d3", "0;"}, {"a0s;p12", digits}};
        for (String[] place : places) {
            for (char sign = 33; sign <= 126; sign++) {
                boolean isError = errorOf(place[0] + sign) == place[0].length();
                boolean isEnd = errorOf(place[0] + sign) == place[0].length() + 1;
                boolean isText = errorOf(place[0] + sign) == NONE;
                boolean isDue = place[1].indexOf(sign) >= 0;
                C.due("error after " + place[0] + ": " + sign, isError ? 1 : 0, isDue ? 0 : 1);
                C.due("no error after " + place[0] + ": " + sign, isEnd || isText ? 1 : 0, isDue ? 1 : 0);
            }
        }
    }

    private static void aCodeHasFourDigits() {
        for (String letter : new String[] {"p", "x"}) {
            C.due(letter + "123", errorOf(letter + "123"), 4);
            C.due(letter + "1234", errorOf(letter + "1234"), NONE);
            C.due(letter + "12345", errorOf(letter + "12345"), 5);
            C.due(letter + "123;", errorOf(letter + "123;"), 4);
            C.due(letter + "0000", errorOf(letter + "0000"), NONE);
            C.due(letter + "9999", errorOf(letter + "9999"), NONE);
        }
        C.due("m123>1", errorOf("m123>1"), 4);
        C.due("m1234>1", errorOf("m1234>1"), NONE);
        C.due("m12345>1", errorOf("m12345>1"), 5);
        C.due("m1234", errorOf("m1234"), 5);
        C.due("m1234>", errorOf("m1234>"), 6);
        C.due("m1234;", errorOf("m1234;"), 5);
    }

    private static void aNumberIs1To30WithoutLeadingZeros() {
        for (int number = 0; number <= 120; number++) {
            String text = "d" + number;
            int want = NONE;
            if (number == 0) {
                want = 1;
            } else if (number > 30) {
                want = number >= 100 && number / 10 <= 30 ? 3 : 2;
            }
            C.due(text, errorOf(text), want);
        }
        C.due("d01", errorOf("d01"), 1);
        C.due("d030", errorOf("d030"), 1);
        C.due("d300", errorOf("d300"), 3);
        C.due("d301", errorOf("d301"), 3);
        C.due("d310", errorOf("d310"), 2);
        C.due("d", errorOf("d"), 1);
    }

    private static void aTextEndsWithACommand() {
        C.due("a0s", errorOf("a0s"), NONE);
        C.due("a0s;", errorOf("a0s;"), 4);
        C.due("a0s;;", errorOf("a0s;;"), 4);
        C.due(";a0s", errorOf(";a0s"), 0);
        C.due("a0s;d1", errorOf("a0s;d1"), NONE);
        C.due("a0s;d1;", errorOf("a0s;d1;"), 7);
        C.due("a0sd1", errorOf("a0sd1"), 3);
    }

    private static void theErrorIsTheFirstOne() {
        C.due("two errors", errorOf("a0x;zz"), 2);
        C.due("right again after the error", errorOf("d0;d1;a0s"), 1);
        C.due("the first character", errorOf("!a0s"), 0);
        C.due("the second command", errorOf("d30;d31;d0"), 6);
    }

    private static String often(String text, int times) {
        StringBuilder all = new StringBuilder();
        for (int i = 0; i < times; i++) {
            all.append(text);
        }
        return all.toString();
    }

    private static void aBufferThatIsFullAndNoText() {
        C.due("80 characters, a text", errorOf(often("d1;", 26) + "d1"), NONE);
        C.due("80 characters, the last one is missing", errorOf(often("d1;", 25) + "p1234"), NONE);
        C.due("80 characters that end with a semicolon", errorOf(often("d30;", 20)), 80);
        C.due("80 characters that end within a command", errorOf(often("d1;", 26) + "a0"), 80);
        C.due("an error in the last character", errorOf(often("d1;", 26) + "d0"), 79);
        C.due("an error in the one ahead of it", errorOf(often("d1;", 26) + ";d"), 78);
        ParcelShelves s = new ParcelShelves();
        Checks.write(s, often("d1;", 26) + "a0s");
        C.due("the 81st is not there", s.errorPosition(), 80);
        C.due("execute()", s.execute(), BAD_TEXT);
        C.due("clearText()", s.clearText(), 80);
    }

    private static void anAppendedCharacterCanMendTheText() {
        ParcelShelves s = new ParcelShelves();
        int[] due = {1, NONE, NONE, 4, 5, 6, NONE};
        String text = "d30;a0s";
        for (int i = 0; i < text.length(); i++) {
            s.append(text.charAt(i));
            C.due("errorPosition() of " + text.substring(0, i + 1), s.errorPosition(), due[i]);
            C.due("it changes nothing", s.errorPosition(), due[i]);
        }
        C.due("execute()", s.execute(), 2);
    }

    private static void eachCommandStandsForItsMethod() {
        C.alike("a", s -> Checks.run(s, "a7m"), s -> s.come(7, 1));
        C.alike("p", s -> {
            s.come(1, 2);
            s.pass(4);
            Checks.run(s, "p1403");
        }, s -> {
            s.come(1, 2);
            s.pass(4);
            s.fetch(1403);
        });
        C.alike("x", s -> {
            s.come(1, 2);
            Checks.run(s, "x1403");
        }, s -> {
            s.come(1, 2);
            s.refuse(1403);
        });
        C.alike("m", s -> {
            s.come(1, 1);
            Checks.run(s, "m1205>4");
        }, s -> {
            s.come(1, 1);
            s.move(1205, 4);
        });
        C.alike("d", s -> Checks.run(s, "d17"), s -> s.pass(17));
    }

    private static void eachSenderSizeShelfAndNumberIsRead() {
        for (int sender = 0; sender <= 9; sender++) {
            ParcelShelves s = new ParcelShelves();
            Checks.run(s, "a" + sender + "s;a" + sender + "m;a" + sender + "l");
            for (int size = 0; size < 3; size++) {
                C.due("its sender", s.parcel(s.codeAt(2 * size, 0), 0), sender);
                C.due("its size", s.parcel(s.codeAt(2 * size, 0), 1), size);
            }
        }
        for (int shelf = 1; shelf <= 5; shelf++) {
            ParcelShelves s = new ParcelShelves();
            C.due("a and m", Checks.run(s, "a0s;m1007>" + shelf), 2);
            C.due("on shelf " + shelf, s.codeAt(shelf, 0), Checks.code(0, shelf, 0));
            C.due("and back", Checks.run(s, "d1;m" + Checks.code(0, shelf, 0) + ">0"), 2);
            C.due("on shelf 0", s.codeAt(0, 0), 2004);
        }
        for (int days = 1; days <= 30; days++) {
            ParcelShelves s = new ParcelShelves();
            C.due("d" + days, Checks.run(s, "d" + days), 1);
            C.due("day()", s.day(), days);
            C.due("d" + days + " and one more", Checks.run(s, "d" + days + ";d1"), 2);
            C.due("day()", s.day(), 2 * days + 1);
        }
    }

    private static void codesWithZerosAhead() {
        ParcelShelves s = new ParcelShelves();
        C.due("p0000", Checks.run(s, "p0000"), 1);
        C.due("counted as wrong", s.total(7), 1);
        C.due("x0007", Checks.run(s, "x0007"), 0);
        C.due("refusal(0)", s.refusal(0), 4);
        C.due("m0100>0", Checks.run(s, "m0100>0"), 0);
    }

    private static void executeStopsAtTheFirstError() {
        String[] texts = {"x0000;a0s;a0s", "a0s;x0000;a0s", "a0s;a0s;x0000", "a0s;a0s;a0s"};
        for (int i = 0; i < 4; i++) {
            ParcelShelves s = new ParcelShelves();
            C.due("execute() of " + texts[i], Checks.run(s, texts[i]), i);
            C.due("came", s.total(2), i);
            C.due("the buffer", s.clearText(), 0);
        }
    }

    private static void wrongCodesAreNoErrors() {
        ParcelShelves s = new ParcelShelves();
        C.due("three wrong codes and one more command", Checks.run(s, "p0001;p0002;p0003;a0s"), 4);
        C.due("counted", s.total(7), 3);
        C.due("came", s.total(2), 1);
        C.due("a fourth is refused", Checks.run(s, "p0004;a0s"), 0);
        C.due("a new day opens the counter", Checks.run(s, "d1;p0005;p1007"), 3);
        C.due("fetched", s.total(3), 1);
    }

    private static void executeEmptiesTheBuffer() {
        String[] texts = {"d1", "x0000", "a0s;x0000;d1"};
        for (String text : texts) {
            ParcelShelves s = new ParcelShelves();
            Checks.run(s, text);
            C.due("errorPosition() after " + text, s.errorPosition(), 0);
            C.due("clearText() after " + text, s.clearText(), 0);
            C.due("append() after " + text, s.append('a'), 1);
        }
    }

    private static void executeOfNoTextChangesNothing() {
        String[] texts = {"", "a", "a0s;", "a0s;d31", "d1;d1;x000"};
        for (String text : texts) {
            ParcelShelves s = new ParcelShelves();
            Checks.write(s, text);
            C.due("execute() of " + text, s.execute(), BAD_TEXT);
            C.due("day()", s.day(), 0);
            C.due("total(2)", s.total(2), 0);
            C.due("nothing is recorded", s.undo(), -3);
            C.due("no refusal", s.refusal(0), NONE);
            C.due("the buffer stays", s.clearText(), text.length());
        }
    }

    private static void aFullBufferIsExecuted() {
        ParcelShelves s = new ParcelShelves();
        C.due("27 commands in 80 characters", Checks.run(s, often("d1;", 26) + "d1"), 27);
        C.due("day()", s.day(), 27);
        C.due("20 commands in 79 characters", Checks.run(s, often("a0s;", 19) + "a1s"), 20);
        C.due("came", s.total(2), 20);
        C.due("the last one", s.sender(1, 0), 1);
        C.due("one recorded state for each", s.undo(), 1);
    }

    private static void executeRecordsOneState() {
        ParcelShelves s = new ParcelShelves();
        Checks.run(s, "a0s;d1;a0s");
        C.due("undo()", s.undo(), 0);
        C.due("day()", s.day(), 0);
        C.due("came", s.total(2), 0);
        Checks.run(s, "x0000");
        C.due("no command is executed, but one state is recorded", s.undo(), 0);
        for (int i = 0; i < 5; i++) {
            s.pass(1);
        }
        Checks.run(s, "d10;d10");
        for (int i = 4; i >= 0; i--) {
            C.due("undo()", s.undo(), i);
            C.due("day()", s.day(), i + 1);
        }
        C.due("the sixth state discarded the oldest", s.undo(), -3);
    }

    private static void refusalAfter(ParcelShelves s, String text, int reason, int behind) {
        Checks.run(s, text);
        C.due("refusal(0) after " + text, s.refusal(0), reason);
        C.due("refusal(1) after " + text, s.refusal(1), behind);
    }

    private static void commandsSetTheRefusal() {
        ParcelShelves s = new ParcelShelves();
        Checks.comeOften(s, 16, 0, 2);
        refusalAfter(s, "a0l", 1, 6);
        refusalAfter(s, "x1007", 4, NONE);
        refusalAfter(s, "m1403>5", 1, 6);
        refusalAfter(s, "m1007>0", 4, NONE);
        refusalAfter(s, "p1573;a0l", 1, 5);
        refusalAfter(s, "m1403>4", 1, 5);
        refusalAfter(s, "p0001;p0002;p0003", 1, 5);
        refusalAfter(s, "p0004", 2, NONE);
        refusalAfter(s, "x1573", 4, 5);
        refusalAfter(s, "d1;a0s", 4, 5);
        s = new ParcelShelves();
        Checks.fillBin(s, 0, 9);
        int code = s.come(0, 0);
        refusalAfter(s, "x" + code + ";d1", 3, NONE);
    }

    /** Only one command of a text can return an error code; an earlier text or call may have set another one. */
    private static void theLatestCommandSetsTheRefusal() {
        ParcelShelves s = new ParcelShelves();
        s.refuse(1);
        refusalAfter(s, "a0s;p1007;x1007;d1", 4, 5);
        C.due("the command behind it is not executed", s.day(), 0);
        refusalAfter(s, "a0s;m1010>0", 4, 5);
        refusalAfter(s, "x1010;x1023", 4, NONE);
    }
}
