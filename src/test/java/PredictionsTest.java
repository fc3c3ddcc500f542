/** Promises 20 to 23: nextCode, feeIn, goesIn, chargesIn. */
public final class PredictionsTest {
    private static final Checks C = new Checks("PredictionsTest");

    public static void main(String[] args) {
        promise20NextCode();
        promise21FeeIn();
        promise22GoesIn();
        promise22FullBins();
        promise23ChargesIn();
        theyChangeNothing();
        C.end();
    }

    private static void promise20NextCode() {
        ParcelShelves s = new ParcelShelves();
        C.due("small", s.nextCode(0), 1007);
        C.due("middle", s.nextCode(1), 1205);
        C.due("large", s.nextCode(2), 1403);
        C.due("-1", s.nextCode(-1), -2);
        C.due("3", s.nextCode(3), -2);
        C.due("max", s.nextCode(Integer.MAX_VALUE), -2);
        Checks.comeOften(s, 16, 0, 2);
        C.due("all large ones taken", s.nextCode(2), -6);
        C.due("no refusal", s.refusal(0), -6);
        C.due("middle", s.nextCode(1), 1205);
        s.fetch(1403);
        C.due("the only one rests", s.nextCode(2), -6);
        s.pass(1);
        C.due("of the next day", s.nextCode(2), 2400);
        C.due("as come() answers", s.come(1, 2), 2400);

        s = new ParcelShelves();
        Checks.comeOften(s, 15, 0, 2);
        C.due("the last place of all", s.nextCode(2), 1573);
        C.due("as come() answers", s.come(0, 2), 1573);
    }

    private static void promise21FeeIn() {
        ParcelShelves s = new ParcelShelves();
        s.come(0, 2);
        C.due("0", s.feeIn(1403, 0), 0);
        C.due("2", s.feeIn(1403, 2), 0);
        C.due("3", s.feeIn(1403, 3), 30);
        C.due("99", s.feeIn(1403, 99), 2910);
        s.pass(5);
        C.due("0", s.feeIn(1403, 0), 90);
        C.due("1", s.feeIn(1403, 1), 120);
        s.set(2, 0);
        C.due("at rate 0", s.feeIn(1403, 99), 0);
        C.due("-1", s.feeIn(1403, -1), -2);
        C.due("100", s.feeIn(1403, 100), -2);
        C.due("max", s.feeIn(1403, Integer.MAX_VALUE), -2);
        C.due("no parcel", s.feeIn(1404, 0), -1);
        C.due("no parcel", s.feeIn(1404, -1), -1);
        C.due("no parcel", s.feeIn(-1, 0), -1);
        C.due("no parcel", s.feeIn(Integer.MAX_VALUE, 0), -1);
        C.due("no refusal", s.refusal(0), -6);
    }

    private static void promise22GoesIn() {
        ParcelShelves s = new ParcelShelves();
        s.come(0, 0);
        C.due("keeping 7", s.goesIn(1007), 8);
        s.pass(7);
        C.due("day 7", s.goesIn(1007), 1);
        s.set(3, 20);
        C.due("keeping 20", s.goesIn(1007), 14);
        s.set(3, 1);
        C.due("kept too long already", s.goesIn(1007), 1);
        C.due("no parcel", s.goesIn(1008), -1);
        C.due("no parcel", s.goesIn(0), -1);
        C.due("no parcel", s.goesIn(-1), -1);
        C.due("no parcel", s.goesIn(Integer.MAX_VALUE), -1);
        C.due("no refusal", s.refusal(0), -6);
    }

    private static void promise22FullBins() {
        ParcelShelves s = new ParcelShelves();
        s.set(3, 20);
        Checks.comeOften(s, 48, 4, 0);
        C.due("first", s.goesIn(1007), 21);
        C.due("ninth", s.goesIn(s.codeAt(1, 0)), 21);
        C.due("tenth", s.goesIn(s.codeAt(1, 1)), 24);
        C.due("nineteenth", s.goesIn(s.codeAt(2, 2)), 27);
        C.due("last", s.goesIn(s.codeAt(5, 7)), 36);
        s.set(3, 1);
        C.due("last", s.goesIn(s.codeAt(5, 7)), 15);
    }

    private static void promise23ChargesIn() {
        ParcelShelves s = new ParcelShelves();
        C.due("0", s.chargesIn(0), -2);
        C.due("-1", s.chargesIn(-1), -2);
        C.due("31", s.chargesIn(31), -2);
        C.due("max", s.chargesIn(Integer.MAX_VALUE), -2);
        C.due("no parcels", s.chargesIn(30), 0);
        Checks.comeOften(s, 2, 0, 0);
        Checks.comeOften(s, 2, 1, 0);
        s.come(2, 0);
        C.due("8", s.chargesIn(8), 0);
        C.due("9", s.chargesIn(9), 160);
        C.due("30", s.chargesIn(30), 160);
        s.refuse(1007);
        s.call(0);
        C.due("earlier charges do not count", s.chargesIn(30), 80);
        s.set(4, 1);
        C.due("least number 1", s.chargesIn(30), 160);
        s.set(2, 1);
        C.due("rate 1", s.chargesIn(30), 16);

        s = new ParcelShelves();
        Checks.comeOften(s, 2, 0, 0);
        s.refuse(1007);
        s.refuse(1010);
        s.pass(1);
        C.due("1, no courier", s.chargesIn(1), 0);
        C.due("2, courier", s.chargesIn(2), 80);
        s.pass(1);
        C.due("1, courier", s.chargesIn(1), 80);
    }

    private static void theyChangeNothing() {
        ParcelShelves s = new ParcelShelves();
        Checks.comeOften(s, 3, 0, 0);
        s.fetch(1);
        s.nextCode(0);
        s.feeIn(1007, 99);
        s.goesIn(1007);
        s.chargesIn(30);
        C.due("day()", s.day(), 0);
        C.due("total(0)", s.total(0), 3);
        C.due("total(1)", s.total(1), 0);
        C.due("total(6)", s.total(6), 0);
        C.due("total(7)", s.total(7), 1);
        C.due("restsUntil", s.restsUntil(1007), -6);
        C.due("recorded", s.undo(), 3);
        C.due("total(0)", s.total(0), 3);
    }
}
