/** Promises 24 to 27: append, clearText, errorPosition, execute. */
public final class TextsTest {
    private static final Checks C = new Checks("TextsTest");

    public static void main(String[] args) {
        promise24Append();
        promise25ClearText();
        promise26Errors();
        promise26Texts();
        promise27Commands();
        promise27Stops();
        promise27Records();
        promise27Refusals();
        C.end();
    }

    private static void promise24Append() {
        ParcelShelves s = new ParcelShelves();
        C.due("32", s.append(32), -2);
        C.due("127", s.append(127), -2);
        C.due("-1", s.append(-1), -2);
        C.due("max", s.append(Integer.MAX_VALUE), -2);
        C.due("97 + 65536", s.append(97 + 65536), -2);
        C.due("33", s.append(33), 1);
        C.due("126", s.append(126), 2);
        for (int i = 3; i <= 80; i++) {
            C.due("append", s.append('a'), i);
        }
        C.due("full", s.append('a'), -4);
        C.due("out of range ahead of full", s.append(32), -2);
        C.due("nothing recorded", s.undo(), -3);
        C.due("no refusal", s.refusal(0), -6);
        C.due("clearText()", s.clearText(), 80);
        C.due("append", s.append('a'), 1);
    }

    private static void promise25ClearText() {
        ParcelShelves s = new ParcelShelves();
        C.due("empty", s.clearText(), 0);
        Checks.write(s, "d1;d2");
        C.due("five", s.clearText(), 5);
        C.due("empty again", s.clearText(), 0);
        C.due("nothing recorded", s.undo(), -3);
        C.due("no text", s.execute(), -5);
    }

    private static void error(String text, int position) {
        ParcelShelves s = new ParcelShelves();
        Checks.write(s, text);
        C.due("errorPosition() of " + text, s.errorPosition(), position);
        if (position != ParcelShelves.NONE) {
            C.due("execute() of " + text, s.execute(), -5);
            C.due("buffer stays: " + text, s.clearText(), text.length());
            C.due("nothing recorded: " + text, s.undo(), -3);
        }
    }

    private static void promise26Errors() {
        error("", 0);
        error(";", 0);
        error("b", 0);
        error("A0s", 0);
        error("a", 1);
        error("a0", 2);
        error("as", 1);
        error("a00", 2);
        error("a0S", 2);
        error("a9ls", 3);
        error("a9l;", 4);
        error("a9l;;", 4);
        error("p", 1);
        error("p1", 2);
        error("p12", 3);
        error("p123", 4);
        error("p12a4", 3);
        error("p1/", 2);
        error("p1:", 2);
        error("p12345", 5);
        error("x12", 3);
        error("xx", 1);
        error("x12345", 5);
        error("m1", 2);
        error("m1234", 5);
        error("m1234;", 5);
        error("m1234>", 6);
        error("m1234>6", 6);
        error("m1234>a", 6);
        error("m1234>/", 6);
        error("m123>1", 4);
        error("m12345", 5);
        error("m1234>55", 7);
        error("d", 1);
        error("d0", 1);
        error("d:", 1);
        error("d;", 1);
        error("d31", 2);
        error("d3/", 2);
        error("d40", 2);
        error("d91", 2);
        error("d100", 3);
        error("d300", 3);
        error("d30;d", 5);
        error("d1!", 2);
    }

    private static void promise26Texts() {
        error("a0s", -6);
        error("a9m", -6);
        error("a5l", -6);
        error("p0000", -6);
        error("p9999", -6);
        error("x0123", -6);
        error("m9876>0", -6);
        error("m0000>5", -6);
        for (int days = 1; days <= 30; days++) {
            error("d" + days, -6);
            error("d" + days + ";p0000", -6);
        }
        error("a0s;p1007;x1007;m1007>3;d12;d3;d30", -6);
        error("d30;d30;d30;d30;d30;d30;d30;d30;d30;d30;d30;d30;d30;d30;d30;d30;d30;d30;d30;d999", 78);
        error("d30;d30;d30;d30;d30;d30;d30;d30;d30;d30;d30;d30;d30;d30;d30;d30;d30;d30;d30;d30;", 80);
    }

    private static void promise27Commands() {
        ParcelShelves s = new ParcelShelves();
        C.due("execute()", Checks.run(s, "a1s;a2m;a3l;a0s"), 4);
        C.due("buffer is empty", s.clearText(), 0);
        C.due("first", s.parcel(1007, 0), 1);
        C.due("second", s.parcel(1205, 0), 2);
        C.due("third", s.parcel(1403, 0), 3);
        C.due("fourth", s.parcel(1010, 0), 0);
        C.due("d", Checks.run(s, "d7"), 1);
        C.due("day()", s.day(), 7);
        C.due("d twice", Checks.run(s, "d10;d23"), 2);
        C.due("day()", s.day(), 40);
        C.due("all gone", s.total(0), 0);
        s = new ParcelShelves();
        C.due("execute()", Checks.run(s, "a1s;a2s;a3s;d3;p1007;x1010;m1023>5"), 7);
        C.due("fetched", s.sender(1, 3), 1);
        C.due("fee", s.total(5), 10);
        C.due("refused", s.sender(2, 1), 1);
        C.due("moved", s.parcel(4503, 0), 3);
        C.due("wrong codes count as executed", Checks.run(s, "p0000;p0001;p0002"), 3);
        C.due("locked", s.total(8), 1);
        C.due("20 commands", Checks.run(s,
                "d30;d30;d30;d30;d30;d30;d30;d30;d30;d30;d30;d30;d30;d30;d30;d30;d30;d30;d30;d30"), 20);
        C.due("day()", s.day(), 603);
    }

    private static void promise27Stops() {
        ParcelShelves s = new ParcelShelves();
        C.due("none", Checks.run(s, "x1007;a0s"), 0);
        C.due("nothing came", s.total(2), 0);
        C.due("buffer is empty", s.clearText(), 0);
        C.due("one", Checks.run(s, "a0s;x1008;a0s"), 1);
        C.due("came", s.total(2), 1);
        C.due("same shelf", Checks.run(s, "m1007>0;a0s"), 0);
        s.fetch(0);
        s.fetch(0);
        C.due("locked on the way", Checks.run(s, "p0000;p1007;d1"), 1);
        C.due("day()", s.day(), 0);
        ParcelShelves t = new ParcelShelves();
        for (int i = 0; i < 331; i++) {
            t.pass(30);
        }
        C.due("the last day", Checks.run(t, "d30;d30;d10;d9"), 2);
        C.due("day()", t.day(), 9990);
        C.due("no refusal", t.refusal(0), -6);
    }

    private static void promise27Records() {
        ParcelShelves s = new ParcelShelves();
        s.come(0, 0);
        Checks.run(s, "a1s;a1s;d1");
        C.due("one recorded state", s.undo(), 1);
        C.due("day()", s.day(), 0);
        C.due("total(2)", s.total(2), 1);
        C.due("buffer is not part of the state", s.clearText(), 0);
        Checks.run(s, "x0000");
        C.due("recorded also if none is executed", s.undo(), 1);
        C.due("first call", s.undo(), 0);
        C.due("total(2)", s.total(2), 0);
        Checks.write(s, "d");
        C.due("no text", s.execute(), -5);
        C.due("nothing recorded", s.undo(), -3);
        Checks.write(s, "1;a0s");
        s.save();
        C.due("execute", s.execute(), 2);
        Checks.write(s, "a0s");
        s.restore();
        C.due("the buffer stays", s.clearText(), 3);
    }

    private static void promise27Refusals() {
        ParcelShelves s = new ParcelShelves();
        Checks.run(s, "a0s;x1007;x1007");
        C.due("reason 4", s.refusal(0), 4);
        C.due("behind 5", s.refusal(1), 5);
        Checks.run(s, "a0s;m1010>0");
        C.due("others leave it", s.refusal(0), 4);
        C.due("others leave it", s.refusal(1), 5);
        Checks.run(s, "p0000;p0000;p0000;p0000");
        C.due("reason 2", s.refusal(0), 2);
        C.due("nothing behind", s.refusal(1), -6);
        for (int i = 0; i < 16; i++) {
            s.come(1, 2);
        }
        Checks.run(s, "d1;a0l");
        C.due("reason 1", s.refusal(0), 1);
        C.due("behind 6", s.refusal(1), 6);
        Checks.run(s, "m1432>5;m1010>9");
        Checks.run(s, "x0000");
        C.due("reason 4", s.refusal(0), 4);
        C.due("nothing behind", s.refusal(1), -6);
        Checks.run(s, "m1432>5");
        C.due("move: reason 1", s.refusal(0), 1);
        for (int i = 0; i < 8; i++) {
            s.refuse(s.codeAt(4, i));
        }
        s.refuse(s.codeAt(5, 0));
        Checks.run(s, "d1;x1515");
        C.due("reason 3", s.refusal(0), 3);
        s.execute();
        C.due("a buffer without a text leaves it", s.refusal(0), 3);
    }
}
