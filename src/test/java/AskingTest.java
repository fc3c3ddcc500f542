/** Promises 10 to 16: day, parcel, codeAt, shelf, sender, total, refusal. */
public final class AskingTest {
    private static final Checks C = new Checks("AskingTest");

    public static void main(String[] args) {
        promise10Day();
        promise11Parcel();
        promise12CodeAt();
        promise13Shelf();
        promise14Sender();
        promise15Total();
        promise16Refusal();
        C.end();
    }

    private static void promise10Day() {
        ParcelShelves s = new ParcelShelves();
        C.due("day()", s.day(), 0);
        s.pass(1);
        C.due("day()", s.day(), 1);
        s.pass(30);
        C.due("day()", s.day(), 31);
        s.pass(31);
        C.due("day()", s.day(), 31);
        s.undo();
        C.due("day()", s.day(), 1);
    }

    private static void promise11Parcel() {
        ParcelShelves s = new ParcelShelves();
        s.pass(4);
        Checks.comeOften(s, 2, 6, 1);
        s.pass(3);
        int code = 5216;
        C.due("sender", s.parcel(code, 0), 6);
        C.due("size", s.parcel(code, 1), 1);
        C.due("day", s.parcel(code, 2), 4);
        C.due("shelf", s.parcel(code, 3), 2);
        C.due("place", s.parcel(code, 4), 1);
        C.due("fee", s.parcel(code, 5), 20);
        C.due("part -1", s.parcel(code, -1), -2);
        C.due("part 6", s.parcel(code, 6), -2);
        C.due("part max", s.parcel(code, Integer.MAX_VALUE), -2);
        C.due("wrong check digit", s.parcel(code + 1, 0), -1);
        C.due("other weekday", s.parcel(1218, 0), -1);
        C.due("no parcel, no part", s.parcel(1218, 6), -1);
        C.due("code -1", s.parcel(-1, 0), -1);
        C.due("code 0", s.parcel(0, 0), -1);
        C.due("code 10000", s.parcel(10000, 0), -1);
        C.due("code min", s.parcel(Integer.MIN_VALUE, 0), -1);
        C.due("no refusal", s.refusal(0), -6);
        C.due("not counted", s.total(7), 0);
    }

    private static void promise12CodeAt() {
        ParcelShelves s = new ParcelShelves();
        C.due("free", s.codeAt(0, 0), -6);
        Checks.comeOften(s, 16, 0, 2);
        C.due("taken", s.codeAt(4, 0), 1403);
        C.due("taken", s.codeAt(5, 7), 1573);
        C.due("free", s.codeAt(3, 7), -6);
        C.due("shelf -1", s.codeAt(-1, 0), -1);
        C.due("shelf 6", s.codeAt(6, 0), -1);
        C.due("place -1", s.codeAt(4, -1), -1);
        C.due("place 8", s.codeAt(4, 8), -1);
        C.due("far off", s.codeAt(Integer.MAX_VALUE, Integer.MAX_VALUE), -1);
        s.pass(1);
        C.due("the code stays the one of its day", s.codeAt(4, 0), 1403);
    }

    private static void promise13Shelf() {
        ParcelShelves s = new ParcelShelves();
        for (int shelf = 0; shelf < 6; shelf++) {
            C.due("size of shelf " + shelf, s.shelf(shelf, 0), shelf / 2);
        }
        Checks.comeOften(s, 11, 0, 1);
        C.due("parcels", s.shelf(2, 1), 8);
        C.due("parcels", s.shelf(3, 1), 3);
        C.due("parcels", s.shelf(4, 1), 0);
        C.due("resting", s.shelf(2, 2), 0);
        s.fetch(1205);
        s.fetch(s.codeAt(2, 5));
        C.due("parcels", s.shelf(2, 1), 6);
        C.due("resting", s.shelf(2, 2), 2);
        s.pass(1);
        C.due("codes of another day", s.shelf(2, 2), 0);
        s.set(0, 8);
        s.pass(6);
        C.due("the same weekday, rest 8", s.shelf(2, 2), 2);
        s.set(0, 7);
        C.due("the same weekday, rest 7", s.shelf(2, 2), 0);
        s.come(0, 1);
        s.set(0, 8);
        C.due("a taken place is not counted", s.shelf(2, 2), 1);
        C.due("shelf -1", s.shelf(-1, 0), -1);
        C.due("shelf 6", s.shelf(6, 0), -1);
        C.due("shelf 6, part 3", s.shelf(6, 3), -1);
        C.due("part -1", s.shelf(0, -1), -2);
        C.due("part 3", s.shelf(5, 3), -2);
        C.due("part min", s.shelf(5, Integer.MIN_VALUE), -2);
    }

    private static void promise14Sender() {
        ParcelShelves s = new ParcelShelves();
        Checks.comeOften(s, 5, 9, 0);
        s.come(0, 2);
        C.due("on shelves", s.sender(9, 0), 5);
        C.due("on shelves", s.sender(0, 0), 1);
        C.due("on shelves", s.sender(1, 0), 0);
        s.fetch(1007);
        s.refuse(1010);
        s.refuse(1023);
        C.due("on shelves", s.sender(9, 0), 2);
        C.due("in bin", s.sender(9, 1), 2);
        C.due("charged", s.sender(9, 2), 0);
        C.due("fetched", s.sender(9, 3), 1);
        C.due("taken", s.sender(9, 4), 0);
        s.call(9);
        C.due("in bin", s.sender(9, 1), 0);
        C.due("charged", s.sender(9, 2), 120);
        C.due("taken", s.sender(9, 4), 2);
        C.due("others", s.sender(0, 2), 0);
        C.due("others", s.sender(0, 3), 0);
        C.due("others", s.sender(0, 4), 0);
        C.due("sender -1", s.sender(-1, 0), -1);
        C.due("sender 10", s.sender(10, 0), -1);
        C.due("sender 10, part 5", s.sender(10, 5), -1);
        C.due("part -1", s.sender(0, -1), -2);
        C.due("part 5", s.sender(9, 5), -2);
        C.due("part max", s.sender(9, Integer.MAX_VALUE), -2);
    }

    private static void promise15Total() {
        ParcelShelves s = new ParcelShelves();
        s.come(0, 0);
        s.come(1, 1);
        s.come(2, 2);
        s.come(3, 2);
        s.pass(4);
        C.due("fees now", s.total(9), 180);
        s.fetch(1403);
        s.refuse(1205);
        s.refuse(1007);
        s.fetch(1);
        int[] want = {1, 2, 4, 1, 0, 60, 0, 1, 0, 60};
        for (int what = 0; what <= 9; what++) {
            C.due("total(" + what + ")", s.total(what), want[what]);
        }
        s.call(1);
        s.fetch(2);
        s.fetch(3);
        int[] then = {1, 1, 4, 1, 1, 60, 60, 3, 1, 60};
        for (int what = 0; what <= 9; what++) {
            C.due("total(" + what + ") then", s.total(what), then[what]);
        }
        C.due("total(-1)", s.total(-1), -2);
        C.due("total(10)", s.total(10), -2);
        C.due("total(max)", s.total(Integer.MAX_VALUE), -2);
    }

    private static void promise16Refusal() {
        ParcelShelves s = new ParcelShelves();
        C.due("none", s.refusal(0), -6);
        C.due("none", s.refusal(1), -6);
        C.due("part -1", s.refusal(-1), -2);
        C.due("part 2", s.refusal(2), -2);
        C.due("part min", s.refusal(Integer.MIN_VALUE), -2);
        s.come(0, 0);
        s.refuse(1007);
        s.refuse(1007);
        C.due("reason 4", s.refusal(0), 4);
        C.due("behind 5", s.refusal(1), 5);
        s.set(9, 9);
        s.come(10, 10);
        s.pass(0);
        s.call(5);
        s.fetch(-1);
        s.parcel(0, 0);
        s.restore();
        C.due("others leave it", s.refusal(0), 4);
        C.due("others leave it", s.refusal(1), 5);
        s.save();
        s.fetch(0);
        s.fetch(0);
        s.fetch(0);
        s.fetch(0);
        C.due("reason 2", s.refusal(0), 2);
        C.due("nothing behind", s.refusal(1), -6);
        s.undo();
        s.restore();
        C.due("it is not part of the state", s.refusal(0), 2);
    }
}
