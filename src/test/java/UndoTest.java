/** Promises 28 to 30: undo, save, restore; and what is recorded. */
public final class UndoTest {
    private static final Checks C = new Checks("UndoTest");

    public static void main(String[] args) {
        promise28Undo();
        promise28FiveStates();
        promise28WholeState();
        promise28PlaceUsedAgain();
        promise29Save();
        promise30Restore();
        C.end();
    }

    private static void promise28Undo() {
        ParcelShelves s = new ParcelShelves();
        C.due("none", s.undo(), -3);
        s.set(2, 10);
        C.due("recorded though it makes no difference", s.undo(), 0);
        s.day();
        s.total(0);
        s.save();
        s.append('a');
        s.clearText();
        s.come(10, 0);
        s.refuse(1007);
        C.due("others record nothing", s.undo(), -3);
        s.come(0, 0);
        s.come(0, 0);
        C.due("undo", s.undo(), 1);
        s.come(1, 0);
        C.due("undo is not undone", s.undo(), 1);
        C.due("left", s.total(0), 1);
        C.due("undo", s.undo(), 0);
        C.due("left", s.total(0), 0);
        C.due("no refusal from undo", s.undo(), -3);
        C.due("the refusal stays", s.refusal(0), 4);
    }

    private static void promise28FiveStates() {
        ParcelShelves s = new ParcelShelves();
        for (int round = 0; round < 4; round++) {
            for (int i = 0; i < 9; i++) {
                s.pass(1);
                s.pass(0);
            }
            for (int i = 4; i >= 0; i--) {
                C.due("undo() in round " + round, s.undo(), i);
                C.due("day()", s.day(), 4 * round + 4 + i);
            }
            C.due("no more", s.undo(), -3);
            C.due("day()", s.day(), 4 * round + 4);
        }
    }

    /** All that can be asked of the state comes back; the records behind it are set alike. */
    private static void promise28WholeState() {
        C.alike("undone", s -> {
            begin(s);
            Checks.run(s, "p1403;x1205;a1l;a1l;m1416>5;d5;a1m;a2s;a3s;p0001;x1023");
            C.due("the commands were executed", s.day(), 5);
            s.set(0, 9);
            s.undo();
            s.undo();
            recordFive(s);
        }, s -> {
            begin(s);
            recordFive(s);
        });
    }

    private static void begin(ParcelShelves s) {
        s.set(3, 3);
        Checks.comeOften(s, 3, 2, 0);
        s.refuse(1007);
        s.refuse(1010);
        s.fetch(1);
        s.come(4, 2);
        s.come(4, 1);
    }

    /** The latest refusal is not part of the state: it is set alike too. */
    private static void recordFive(ParcelShelves s) {
        s.refuse(0);
        for (int i = 0; i < 5; i++) {
            s.set(4, 9);
        }
    }

    /** Another parcel of another sender and size was on the place meanwhile. */
    private static void promise28PlaceUsedAgain() {
        ParcelShelves s = new ParcelShelves();
        s.come(3, 1);
        C.due("execute", Checks.run(s, "p1205;d1;a6s;m2004>2"), 4);
        C.due("on the place", s.codeAt(2, 0), 2202);
        C.due("size", s.parcel(2202, 1), 0);
        s.undo();
        int[] want = {3, 1, 0, 2, 0, 0};
        for (int part = 0; part < 6; part++) {
            C.due("parcel(1205, " + part + ")", s.parcel(1205, part), want[part]);
        }
    }

    private static void promise29Save() {
        ParcelShelves s = new ParcelShelves();
        C.due("save()", s.save(), 0);
        C.due("not recorded", s.undo(), -3);
        Checks.comeOften(s, 2, 0, 0);
        C.due("save()", s.save(), 2);
        s.refuse(1007);
        C.due("overwritten", s.save(), 1);
        s.pass(5);
        C.due("the latest one", s.restore(), 1);
        C.due("bin", s.sender(0, 1), 1);
        C.due("day()", s.day(), 0);
        s.undo();
        s.undo();
        s.undo();
        C.due("undone to ahead of the refusal", s.total(0), 2);
        C.due("save is not undone", s.restore(), 1);
    }

    private static void promise30Restore() {
        ParcelShelves s = new ParcelShelves();
        C.due("nothing saved", s.restore(), -3);
        C.due("nothing recorded", s.undo(), -3);
        C.due("no refusal", s.refusal(0), -6);
        s.come(7, 1);
        s.set(2, 20);
        s.save();
        s.pass(9);
        s.come(7, 1);
        s.come(7, 1);
        C.due("on shelves", s.total(0), 2);
        C.due("restore()", s.restore(), 1);
        C.due("day()", s.day(), 0);
        C.due("rate", s.setting(2), 20);
        C.due("undo()", s.undo(), 4);
        C.due("day()", s.day(), 9);
        C.due("on shelves", s.total(0), 2);
        C.due("it remains saved", s.restore(), 1);
        s.come(1, 1);
        C.due("changes do not reach the saved state", s.restore(), 1);
        C.due("came", s.total(2), 1);
        C.due("undo()", s.undo(), 4);
        C.due("came", s.total(2), 2);
    }
}
