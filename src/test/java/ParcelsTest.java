/** Promises 4 to 9: come, fetch, refuse, move, pass, call. */
public final class ParcelsTest {
    private static final Checks C = new Checks("ParcelsTest");

    public static void main(String[] args) {
        promise4Order();
        promise4Rest();
        promise4Errors();
        promise5Fetch();
        promise5Counter();
        promise6Refuse();
        promise7Move();
        promise7Limit();
        promise8Pass();
        promise8Courier();
        promise8FullBin();
        promise8LastDay();
        promise9Call();
        C.end();
    }

    private static void promise4Order() {
        ParcelShelves s = new ParcelShelves();
        int got = 0;
        for (int shelf = 0; shelf < 6; shelf++) {
            for (int place = 0; place < 8; place++) {
                int want = s.codeOf(0, shelf, place);
                C.due("come(3, 0) no " + got, s.come(3, 0), want);
                got++;
            }
        }
        C.due("come(3, 0) when all is taken", s.come(3, 0), -4);
        C.due("refusal(0)", s.refusal(0), 1);
        C.due("refusal(1)", s.refusal(1), 6);
        C.due("total(2)", s.total(2), 48);

        s = new ParcelShelves();
        C.due("come(0, 1)", s.come(0, 1), 1205);
        C.due("come(0, 2)", s.come(0, 2), 1403);
        C.due("come(0, 0)", s.come(0, 0), 1007);
        Checks.comeOften(s, 15, 1, 1);
        C.due("seventeenth of size 1", s.come(1, 1), 1416);
        s.pass(1);
        C.due("code of the second weekday", s.come(9, 0), 2017);
        s.pass(6);
        C.due("code of the first weekday again", s.come(9, 0), 1023);
    }

    private static void promise4Rest() {
        ParcelShelves s = new ParcelShelves();
        s.come(0, 0);
        s.fetch(1007);
        C.due("the code of the first place rests", s.come(0, 0), 1010);
        s.fetch(1010);
        s.pass(1);
        C.due("the codes of another weekday do not", s.come(0, 0), 2004);

        s = new ParcelShelves();
        s.set(0, 8);
        s.come(0, 0);
        s.fetch(1007);
        s.pass(7);
        C.due("day 7, rest until 8", s.come(0, 0), 1010);
        s = new ParcelShelves();
        s.set(0, 7);
        s.come(0, 0);
        s.fetch(1007);
        s.pass(7);
        C.due("day 7, rest until 7", s.come(0, 0), 1007);

        s = new ParcelShelves();
        s.set(0, 0);
        s.come(0, 0);
        s.fetch(1007);
        C.due("rest 0: again on the same day", s.come(0, 0), 1007);
        s.pass(7);
        s.fetch(1007);
        s.set(0, 5);
        C.due("the latest day counts", s.restsUntil(1007), 12);

        s = new ParcelShelves();
        for (int i = 0; i < 16; i++) {
            s.fetch(s.come(0, 2));
        }
        C.due("all codes of large places rest", s.come(0, 2), -4);
        C.due("refusal(0)", s.refusal(0), 1);
        C.due("refusal(1)", s.refusal(1), 5);
        C.due("smaller ones get a place", s.come(0, 1), 1205);
        s.set(0, 0);
        Checks.comeOften(s, 15, 0, 2);
        s.set(0, 5);
        C.due("all but the last taken, the last rests", s.come(0, 2), -4);
        C.due("refusal(1)", s.refusal(1), 5);
        s.fetch(1560);
        C.due("two free ones, both rest", s.come(0, 2), -4);
        C.due("refusal(1)", s.refusal(1), 5);
    }

    private static void promise4Errors() {
        ParcelShelves s = new ParcelShelves();
        C.due("come(-1, 0)", s.come(-1, 0), -1);
        C.due("come(10, 0)", s.come(10, 0), -1);
        C.due("come(10, 3)", s.come(10, 3), -1);
        C.due("come(min, 0)", s.come(Integer.MIN_VALUE, 0), -1);
        C.due("come(0, -1)", s.come(0, -1), -2);
        C.due("come(0, 3)", s.come(0, 3), -2);
        C.due("come(9, max)", s.come(9, Integer.MAX_VALUE), -2);
        C.due("nothing came", s.total(2), 0);
        C.due("nothing recorded", s.undo(), -3);
        C.due("no refusal", s.refusal(0), -6);
        C.due("come(9, 2)", s.come(9, 2), 1403);
        C.due("one recorded", s.undo(), 0);
        C.due("undone", s.total(2), 0);
        C.due("place is free again", s.codeAt(4, 0), -6);
    }

    private static void promise5Fetch() {
        ParcelShelves s = new ParcelShelves();
        s.come(4, 0);
        s.come(4, 1);
        s.come(5, 2);
        s.pass(2);
        C.due("fee within the free nights", s.fetch(1007), 0);
        s.pass(1);
        C.due("fee of one night, middle", s.fetch(1205), 20);
        s.pass(2);
        C.due("fee of three nights, large", s.fetch(1403), 90);
        C.due("fees paid", s.total(5), 110);
        C.due("fetched", s.total(3), 3);
        C.due("fetched of sender 4", s.sender(4, 3), 2);
        C.due("fetched of sender 5", s.sender(5, 3), 1);
        C.due("on the shelves", s.total(0), 0);
        C.due("came", s.total(2), 3);
        C.due("rests from the day of leaving", s.restsUntil(1403), 10);
        C.due("undo()", s.undo(), 4);
        C.due("fees after undo", s.total(5), 20);
        C.due("parcel is back", s.codeAt(4, 0), 1403);
        C.due("fetch(-1)", s.fetch(-1), -2);
        C.due("fetch(10000)", s.fetch(10000), -2);
        C.due("fetch(min)", s.fetch(Integer.MIN_VALUE), -2);
        C.due("none of them counted", s.total(7), 0);
    }

    private static void promise5Counter() {
        ParcelShelves s = new ParcelShelves();
        s.come(0, 0);
        C.due("fetch(0)", s.fetch(0), -7);
        C.due("fetch(9999)", s.fetch(9999), -7);
        C.due("counted", s.total(7), 2);
        C.due("not locked", s.total(8), 0);
        C.due("no refusal", s.refusal(0), -6);
        C.due("a right code is not counted", s.fetch(1007), 0);
        C.due("counted still", s.total(7), 2);
        s.come(0, 0);
        C.due("a code that rests is wrong", s.fetch(1007), -7);
        C.due("locked", s.total(8), 1);
        C.due("locked for a right code", s.fetch(1010), -3);
        C.due("refusal(0)", s.refusal(0), 2);
        C.due("refusal(1)", s.refusal(1), -6);
        C.due("out of range ahead of locked", s.fetch(10000), -2);
        C.due("others go on", s.come(0, 0), 1023);
        C.due("refuse goes on", s.refuse(1010), 1);
        C.due("wrong ones are no more counted", s.fetch(3), -3);
        C.due("counted", s.total(7), 3);
        s.undo();
        s.undo();
        C.due("undo() takes back a wrong code", s.undo(), 2);
        C.due("counted after undo", s.total(7), 2);
        C.due("not locked after undo", s.fetch(1010), 0);
        C.due("fetch(1)", s.fetch(1), -7);
        C.due("locked again", s.total(8), 1);
        s.pass(1);
        C.due("a new day", s.total(7), 0);
        C.due("a new day", s.total(8), 0);
        C.due("the counter is open", s.fetch(1010), -7);
        C.due("the refusal stays", s.refusal(0), 2);
    }

    private static void promise6Refuse() {
        ParcelShelves s = new ParcelShelves();
        s.come(2, 0);
        s.come(2, 2);
        s.come(3, 0);
        s.pass(3);
        C.due("refuse", s.refuse(1007), 1);
        C.due("refuse", s.refuse(1403), 2);
        C.due("bin of sender 2", s.sender(2, 1), 2);
        C.due("refuse", s.refuse(1010), 1);
        C.due("no fee is paid", s.total(5), 0);
        C.due("none fetched", s.total(3), 0);
        C.due("in bins", s.total(1), 3);
        C.due("on shelves", s.total(0), 0);
        C.due("rests", s.restsUntil(1007), 8);
        C.due("refuse again", s.refuse(1007), -1);
        C.due("refusal(0)", s.refusal(0), 4);
        C.due("refusal(1)", s.refusal(1), 5);
        C.due("refuse(1023)", s.refuse(1023), -1);
        C.due("refusal(0)", s.refusal(0), 4);
        C.due("refusal(1)", s.refusal(1), -6);
        s.refuse(1007);
        C.due("refuse(-1)", s.refuse(-1), -1);
        C.due("refusal(1)", s.refusal(1), -6);
        C.due("refuse(0)", s.refuse(0), -1);
        C.due("refuse(max)", s.refuse(Integer.MAX_VALUE), -1);
        C.due("wrong codes are not counted", s.total(7), 0);
        C.due("undo()", s.undo(), 4);
        C.due("undone", s.parcel(1010, 0), 3);
        C.due("undone", s.sender(3, 1), 0);

        s = new ParcelShelves();
        Checks.comeOften(s, 10, 6, 0);
        for (int place = 0; place < 8; place++) {
            s.refuse(s.codeAt(0, place));
        }
        C.due("ninth", s.refuse(s.codeAt(1, 0)), 9);
        C.due("tenth", s.refuse(1118), -1);
        C.due("tenth", s.refuse(1119), -3);
        C.due("refusal(0)", s.refusal(0), 3);
        C.due("refusal(1)", s.refusal(1), -6);
        C.due("stays on its place", s.codeAt(1, 1), 1119);
    }

    private static void promise7Move() {
        ParcelShelves s = new ParcelShelves();
        s.come(1, 1);
        s.pass(3);
        C.due("move", s.move(1205, 4), 4404);
        C.due("its sender", s.parcel(4404, 0), 1);
        C.due("its size", s.parcel(4404, 1), 1);
        C.due("its nights go on", s.parcel(4404, 2), 0);
        C.due("its fee", s.parcel(4404, 5), 20);
        C.due("its shelf", s.parcel(4404, 3), 4);
        C.due("its old place is free", s.codeAt(2, 0), -6);
        C.due("its old code rests", s.restsUntil(1205), 8);
        C.due("its new code does not", s.restsUntil(4404), -6);
        C.due("none came", s.total(2), 1);
        C.due("same shelf", s.move(4404, 4), -2);
        C.due("too small", s.move(4404, 1), -2);
        C.due("too small", s.move(4404, 0), -2);
        C.due("no such shelf", s.move(4404, 6), -1);
        C.due("no such shelf", s.move(4404, -1), -1);
        C.due("no refusal", s.refusal(0), -6);
        C.due("no parcel, no shelf", s.move(1205, 6), -1);
        C.due("refusal(0)", s.refusal(0), 4);
        C.due("refusal(1)", s.refusal(1), 5);
        C.due("no parcel", s.move(-5, 0), -1);
        C.due("refusal(1)", s.refusal(1), -6);
        C.due("to its own size", s.move(4404, 3), 4305);
        C.due("back: the code rests", s.move(4305, 4), 4417);
        C.due("undo()", s.undo(), 4);
        C.due("undone", s.codeAt(3, 0), 4305);
        C.due("undone", s.restsUntil(4305), -6);
    }

    private static void promise7Limit() {
        ParcelShelves s = new ParcelShelves();
        Checks.comeOften(s, 8, 0, 2);
        s.come(0, 0);
        C.due("no place", s.move(1007, 4), -4);
        C.due("refusal(0)", s.refusal(0), 1);
        C.due("refusal(1)", s.refusal(1), 6);
        s.fetch(1403);
        C.due("the only free place rests", s.move(1007, 4), -4);
        C.due("refusal(0)", s.refusal(0), 1);
        C.due("refusal(1)", s.refusal(1), 5);
        C.due("still there", s.codeAt(0, 0), 1007);
        s.pass(1);
        C.due("the code of the next day", s.move(1007, 4), 2400);
        C.due("small shelf to small shelf", s.come(0, 0), 2004);
        C.due("small shelf to small shelf", s.move(2004, 1), 2103);
    }

    private static void promise8Pass() {
        ParcelShelves s = new ParcelShelves();
        C.due("pass(0)", s.pass(0), -2);
        C.due("pass(-1)", s.pass(-1), -2);
        C.due("pass(31)", s.pass(31), -2);
        C.due("pass(max)", s.pass(Integer.MAX_VALUE), -2);
        C.due("pass(min)", s.pass(Integer.MIN_VALUE), -2);
        C.due("day()", s.day(), 0);
        C.due("nothing recorded", s.undo(), -3);
        s.come(0, 0);
        s.pass(1);
        s.come(1, 2);
        C.due("seven nights are kept", s.pass(6), 0);
        C.due("day()", s.day(), 7);
        C.due("the eighth is not", s.pass(1), 1);
        C.due("bin", s.sender(0, 1), 1);
        C.due("rests from that day", s.restsUntil(1007), 13);
        C.due("the other", s.pass(1), 1);
        C.due("both in bins", s.total(1), 2);
        C.due("none on shelves", s.total(0), 0);
        C.due("undo()", s.undo(), 4);
        C.due("day()", s.day(), 8);
        C.due("bin", s.sender(1, 1), 0);
        C.due("parcel is back", s.parcel(2400, 0), 1);
    }

    private static void promise8Courier() {
        ParcelShelves s = new ParcelShelves();
        Checks.comeOften(s, 3, 0, 0);
        s.come(1, 0);
        s.refuse(1007);
        s.refuse(1010);
        s.refuse(1036);
        s.pass(2);
        C.due("no courier on days 1 and 2", s.sender(0, 1), 2);
        s.pass(1);
        C.due("courier on day 3", s.sender(0, 1), 0);
        C.due("charge of sender 0", s.sender(0, 2), 80);
        C.due("taken of sender 0", s.sender(0, 4), 2);
        C.due("less than the least number", s.sender(1, 1), 1);
        C.due("no charge", s.sender(1, 2), 0);
        C.due("charges", s.total(6), 80);
        C.due("taken", s.total(4), 2);
        s.set(4, 1);
        s.set(2, 7);
        s.pass(3);
        C.due("least number 1", s.sender(1, 2), 28);
        C.due("taken", s.total(4), 3);

        // the courier comes ahead of the parcels that go into bins on the same day
        s = new ParcelShelves();
        s.set(3, 2);
        s.set(4, 1);
        s.come(5, 0);
        C.due("pass(3)", s.pass(3), 1);
        C.due("in the bin", s.sender(5, 1), 1);
        C.due("not charged", s.sender(5, 2), 0);
        s.pass(2);
        C.due("in the bin", s.sender(5, 1), 1);
        s.pass(1);
        C.due("taken", s.sender(5, 4), 1);
    }

    private static void promise8FullBin() {
        ParcelShelves s = new ParcelShelves();
        s.set(3, 1);
        s.set(4, 9);
        Checks.comeOften(s, 11, 8, 0);
        s.come(7, 2);
        C.due("pass(1)", s.pass(1), 0);
        C.due("pass(1)", s.pass(1), 10);
        C.due("full", s.sender(8, 1), 9);
        C.due("in order of places", s.codeAt(1, 0), -6);
        C.due("in order of places", s.codeAt(1, 1), 1119);
        C.due("in order of places", s.codeAt(1, 2), 1122);
        C.due("the other sender", s.sender(7, 1), 1);
        C.due("pass(1)", s.pass(1), 2);
        C.due("emptied first", s.sender(8, 1), 2);
        C.due("not emptied", s.sender(7, 1), 1);
        C.due("charge", s.sender(8, 2), 360);
    }

    private static void promise8LastDay() {
        ParcelShelves s = new ParcelShelves();
        for (int i = 0; i < 333; i++) {
            s.pass(30);
        }
        C.due("day()", s.day(), 9990);
        C.due("pass(10)", s.pass(10), -4);
        C.due("pass(31)", s.pass(31), -2);
        C.due("no refusal", s.refusal(0), -6);
        int code = s.come(0, 0);
        C.due("weekday 2", code, 2004);
        C.due("pass(9)", s.pass(9), 1);
        C.due("day()", s.day(), 9999);
        C.due("pass(1)", s.pass(1), -4);
        C.due("undo() of pass(9)", s.undo(), 4);
        C.due("day()", s.day(), 9990);
        s.pass(9);
        code = s.come(0, 0);
        C.due("weekday 4", code, 4008);
        C.due("feeIn beyond the last day", s.feeIn(code, 10), 80);
        C.due("goesIn beyond the last day", s.goesIn(code), 8);
        s.refuse(code);
        C.due("rests beyond the last day", s.restsUntil(code), 10004);
        C.due("chargesIn beyond the last day", s.chargesIn(30), 80);
    }

    private static void promise9Call() {
        ParcelShelves s = new ParcelShelves();
        C.due("call(-1)", s.call(-1), -1);
        C.due("call(10)", s.call(10), -1);
        C.due("call(max)", s.call(Integer.MAX_VALUE), -1);
        C.due("call(0)", s.call(0), -3);
        C.due("no refusal", s.refusal(0), -6);
        C.due("nothing recorded", s.undo(), -3);
        Checks.comeOften(s, 3, 9, 0);
        s.refuse(1007);
        C.due("one", s.call(9), 60);
        C.due("empty", s.call(9), -3);
        s.refuse(1010);
        s.refuse(1023);
        s.set(2, 50);
        C.due("two at rate 50", s.call(9), 600);
        C.due("charged", s.sender(9, 2), 660);
        C.due("taken", s.sender(9, 4), 3);
        C.due("bin", s.sender(9, 1), 0);
        C.due("charges", s.total(6), 660);
        C.due("undo()", s.undo(), 4);
        C.due("bin", s.sender(9, 1), 2);
        C.due("charged", s.sender(9, 2), 60);
        s.set(2, 0);
        C.due("at rate 0", s.call(9), 0);
        C.due("taken", s.sender(9, 4), 3);
    }
}
