/** Promises 1 to 3: a new object, set, setting. */
public final class SettingsTest {
    private static final Checks C = new Checks("SettingsTest");

    public static void main(String[] args) {
        promise1NewObject();
        promise2Ranges();
        promise2Effects();
        promise3Setting();
        C.end();
    }

    private static void promise1NewObject() {
        ParcelShelves s = new ParcelShelves();
        C.due("day()", s.day(), 0);
        for (int what = 0; what <= 9; what++) {
            C.due("new total(" + what + ")", s.total(what), 0);
        }
        for (int shelf = 0; shelf < 6; shelf++) {
            C.due("new shelf(.., 1)", s.shelf(shelf, 1), 0);
            C.due("new shelf(.., 2)", s.shelf(shelf, 2), 0);
            for (int place = 0; place < 8; place++) {
                C.due("new codeAt", s.codeAt(shelf, place), -6);
            }
        }
        for (int sender = 0; sender < 10; sender++) {
            for (int part = 0; part < 5; part++) {
                C.due("new sender(.., " + part + ")", s.sender(sender, part), 0);
            }
        }
        C.due("new refusal(0)", s.refusal(0), -6);
        C.due("new refusal(1)", s.refusal(1), -6);
        C.due("new undo()", s.undo(), -3);
        C.due("new restore()", s.restore(), -3);
        C.due("new clearText()", s.clearText(), 0);
        for (int code = 0; code <= 9999; code += 7) {
            C.due("new restsUntil", new ParcelShelves().restsUntil(code), -6);
        }
    }

    private static void promise2Ranges() {
        int[] lowest = {0, 0, 0, 1, 1};
        int[] highest = {20, 9, 50, 20, 9};
        int[] first = {5, 2, 10, 7, 2};
        for (int i = 0; i < 5; i++) {
            ParcelShelves s = new ParcelShelves();
            C.due("set too low " + i, s.set(i, lowest[i] - 1), -2);
            C.due("set too high " + i, s.set(i, highest[i] + 1), -2);
            C.due("set far off " + i, s.set(i, Integer.MIN_VALUE), -2);
            C.due("set far off " + i, s.set(i, Integer.MAX_VALUE), -2);
            C.due("unchanged " + i, s.setting(i), first[i]);
            C.due("set lowest " + i, s.set(i, lowest[i]), first[i]);
            C.due("set highest " + i, s.set(i, highest[i]), lowest[i]);
            C.due("set same again " + i, s.set(i, highest[i]), highest[i]);
            C.due("undo " + i, s.undo(), 2);
            C.due("same after undo " + i, s.setting(i), highest[i]);
            C.due("undo " + i, s.undo(), 1);
            C.due("lowest after undo " + i, s.setting(i), lowest[i]);
            C.due("undo " + i, s.undo(), 0);
            C.due("first after undo " + i, s.setting(i), first[i]);
        }
        ParcelShelves s = new ParcelShelves();
        C.due("set(-1, 1)", s.set(-1, 1), -2);
        C.due("set(5, 1)", s.set(5, 1), -2);
        C.due("set(min, 1)", s.set(Integer.MIN_VALUE, 1), -2);
        C.due("set(max, 1)", s.set(Integer.MAX_VALUE, 1), -2);
        C.due("nothing recorded", s.undo(), -3);
    }

    /** A setting holds at once, also for the parcels that are there already. */
    private static void promise2Effects() {
        ParcelShelves s = new ParcelShelves();
        s.come(0, 1);
        s.pass(5);
        C.due("fee", s.parcel(1205, 5), 60);
        s.set(1, 0);
        C.due("fee without free nights", s.parcel(1205, 5), 100);
        s.set(2, 3);
        C.due("fee at rate 3", s.parcel(1205, 5), 30);
        C.due("goes in", s.goesIn(1205), 3);
        s.set(3, 20);
        C.due("goes in at keeping 20", s.goesIn(1205), 16);
        s.fetch(1205);
        C.due("rests", s.restsUntil(1205), 10);
        s.set(0, 20);
        C.due("rests at rest 20", s.restsUntil(1205), 25);
        s.set(0, 0);
        C.due("rests at rest 0", s.restsUntil(1205), -6);
    }

    private static void promise3Setting() {
        ParcelShelves s = new ParcelShelves();
        C.due("setting(0)", s.setting(0), 5);
        C.due("setting(1)", s.setting(1), 2);
        C.due("setting(2)", s.setting(2), 10);
        C.due("setting(3)", s.setting(3), 7);
        C.due("setting(4)", s.setting(4), 2);
        C.due("setting(-1)", s.setting(-1), -2);
        C.due("setting(5)", s.setting(5), -2);
        C.due("setting(max)", s.setting(Integer.MAX_VALUE), -2);
        C.due("setting(min)", s.setting(Integer.MIN_VALUE), -2);
        s.set(2, 49);
        C.due("setting(2) after set", s.setting(2), 49);
        C.due("setting(3) after set(2)", s.setting(3), 7);
    }
}
