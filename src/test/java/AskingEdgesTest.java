/** The edges of the methods that ask: nothing, the first and the last one, and all. */
public final class AskingEdgesTest {
    private static final Checks C = new Checks("AskingEdgesTest");
    private static final int NO_SUCH = -1;
    private static final int NONE = -6;

    public static void main(String[] args) {
        dayIsTheCurrentOne();
        parcelOnTheFirstAndTheLastPlaces();
        parcelIsFoundByItsWholeCode();
        parcelIsThereUntilItLeaves();
        codeAtIsThatOfTheDayItWasGiven();
        codeAtOfAFreePlaceIsNone();
        shelfCountsFrom0To8Parcels();
        shelfCountsFrom0To8RestingPlaces();
        shelfCountsFreePlacesAlone();
        shelfCountsCodesOfTheCurrentDay();
        shelfCountsARestUntilItsLastDay();
        senderCountsFrom0To48OnTheShelves();
        senderCountsFrom0To9InTheBin();
        senderCountsWhatIsItsOwn();
        totalsOfAFullShop();
        totalsOfFullBins();
        theGreatestTotalOfFeesNow();
        C.end();
    }

    private static void dayIsTheCurrentOne() {
        ParcelShelves s = new ParcelShelves();
        C.due("a new shop", s.day(), 0);
        s.pass(1);
        C.due("1", s.day(), 1);
        s.pass(30);
        C.due("31", s.day(), 31);
        s.pass(31);
        s.pass(0);
        C.due("refused calls", s.day(), 31);
    }

    private static void parcelOnTheFirstAndTheLastPlaces() {
        ParcelShelves s = new ParcelShelves();
        for (int at = 0; at < 48; at++) {
            s.come(at % 10, at < 16 ? at % 2 : 0);
        }
        s.pass(3);
        int[] places = {0, 7, 8, 15, 16, 23, 24, 31, 32, 39, 40, 47};
        for (int at : places) {
            int code = s.codeAt(at / 8, at % 8);
            C.due("code", code, Checks.code(0, at / 8, at % 8));
            C.due("shelf of place " + at, s.parcel(code, 3), at / 8);
            C.due("place of place " + at, s.parcel(code, 4), at % 8);
            C.due("day of place " + at, s.parcel(code, 2), 0);
            C.due("fee of place " + at, s.parcel(code, 5), 10 * (s.parcel(code, 1) + 1));
        }
        s = new ParcelShelves();
        int[] wantSenders = {0, 5, 9};
        for (int size = 0; size < 3; size++) {
            int code = s.come(wantSenders[size], size);
            C.due("its sender", s.parcel(code, 0), wantSenders[size]);
            C.due("its size", s.parcel(code, 1), size);
        }
    }

    private static void parcelIsFoundByItsWholeCode() {
        ParcelShelves s = new ParcelShelves();
        s.come(0, 0);
        C.due("its code", s.parcel(1007, 0), 0);
        for (int digit = 0; digit <= 9; digit++) {
            C.due("check digit " + digit, s.parcel(1000 + digit, 0), digit == 7 ? 0 : NO_SUCH);
        }
        for (int day = 1; day < 7; day++) {
            C.due("another weekday", s.parcel(Checks.code(day, 0, 0), 0), NO_SUCH);
            C.due("another weekday is wrong", s.isCode(Checks.code(day, 0, 0)), 1);
        }
        C.due("another place", s.parcel(1010, 0), NO_SUCH);
        C.due("another shelf", s.parcel(Checks.code(0, 1, 0), 0), NO_SUCH);
        s.pass(7);
        C.due("a week later", s.parcel(1007, 2), 0);
    }

    private static void parcelIsThereUntilItLeaves() {
        ParcelShelves s = new ParcelShelves();
        Checks.comeOften(s, 4, 0, 0);
        s.fetch(1007);
        C.due("fetched", s.parcel(1007, 0), NO_SUCH);
        s.refuse(1010);
        C.due("refused", s.parcel(1010, 0), NO_SUCH);
        s.move(1023, 1);
        C.due("moved", s.parcel(1023, 0), NO_SUCH);
        s.pass(7);
        C.due("kept", s.parcel(1036, 0), 0);
        s.pass(1);
        C.due("returned", s.parcel(1036, 0), NO_SUCH);
    }

    private static void codeAtIsThatOfTheDayItWasGiven() {
        ParcelShelves s = new ParcelShelves();
        s.pass(6);
        s.come(0, 2);
        s.pass(1);
        s.come(0, 2);
        C.due("of day 6", s.codeAt(4, 0), Checks.code(6, 4, 0));
        C.due("of day 7", s.codeAt(4, 1), Checks.code(7, 4, 1));
        s.move(s.codeAt(4, 0), 5);
        C.due("a moved one has a code of day 7", s.codeAt(5, 0), Checks.code(7, 5, 0));
    }

    private static void codeAtOfAFreePlaceIsNone() {
        ParcelShelves s = new ParcelShelves();
        s.come(0, 0);
        C.due("the next place", s.codeAt(0, 1), NONE);
        s.fetch(1007);
        C.due("free again, and rests", s.codeAt(0, 0), NONE);
        C.due("the last place", s.codeAt(5, 7), NONE);
    }

    private static void shelfCountsFrom0To8Parcels() {
        for (int size = 0; size < 3; size++) {
            ParcelShelves s = new ParcelShelves();
            for (int parcels = 0; parcels <= 16; parcels++) {
                C.due("the first of size " + size, s.shelf(2 * size, 1), Math.min(8, parcels));
                C.due("the second of size " + size, s.shelf(2 * size + 1, 1), Math.max(0, parcels - 8));
                s.come(0, size);
            }
        }
    }

    private static void shelfCountsFrom0To8RestingPlaces() {
        for (int size = 0; size < 3; size++) {
            ParcelShelves s = new ParcelShelves();
            Checks.comeOften(s, 16, 0, size);
            for (int left = 0; left <= 16; left++) {
                C.due("the first of size " + size, s.shelf(2 * size, 2), Math.min(8, left));
                C.due("the second of size " + size, s.shelf(2 * size + 1, 2), Math.max(0, left - 8));
                s.fetch(Checks.code(0, 2 * size + left / 8 % 2, left % 8));
            }
        }
    }

    private static void shelfCountsFreePlacesAlone() {
        ParcelShelves s = new ParcelShelves();
        C.due("free, but no rest", s.shelf(0, 2), 0);
        s.come(0, 0);
        C.due("a taken place", s.shelf(0, 2), 0);
        s.set(0, 0);
        s.fetch(1007);
        s.come(0, 0);
        s.set(0, 20);
        C.due("a taken place whose code would rest", s.restsUntil(1007), 20);
        C.due("a taken place whose code would rest", s.shelf(0, 2), 0);
        s.fetch(1007);
        C.due("free, and rests", s.shelf(0, 2), 1);
    }

    private static void shelfCountsCodesOfTheCurrentDay() {
        ParcelShelves s = new ParcelShelves();
        s.set(0, 20);
        s.fetch(s.come(0, 0));
        for (int day = 0; day < 22; day++) {
            C.due("day " + day, s.shelf(0, 2), day < 20 && day % 7 == 0 ? 1 : 0);
            s.pass(1);
        }
    }

    private static void shelfCountsARestUntilItsLastDay() {
        for (int rest = 6; rest <= 8; rest++) {
            ParcelShelves s = new ParcelShelves();
            s.set(0, rest);
            s.fetch(s.come(0, 2));
            s.pass(7);
            C.due("day 7, rest " + rest, s.shelf(4, 2), rest == 8 ? 1 : 0);
        }
    }

    private static void senderCountsFrom0To48OnTheShelves() {
        ParcelShelves s = new ParcelShelves();
        for (int parcels = 0; parcels <= 48; parcels++) {
            C.due("of " + parcels, s.sender(9, 0), parcels);
            C.due("of another sender", s.sender(8, 0), 0);
            s.come(9, 0);
        }
        C.due("a 49th that gets no place", s.sender(9, 0), 48);
    }

    private static void senderCountsFrom0To9InTheBin() {
        ParcelShelves s = new ParcelShelves();
        Checks.comeOften(s, 10, 0, 0);
        for (int parcels = 0; parcels <= 9; parcels++) {
            C.due("of " + parcels, s.sender(0, 1), parcels);
            C.due("on the shelves", s.sender(0, 0), 10 - parcels);
            s.refuse(Checks.code(0, parcels / 8, parcels % 8));
        }
        C.due("a tenth that has no room", s.sender(0, 1), 9);
        C.due("on the shelves", s.sender(0, 0), 1);
    }

    private static void senderCountsWhatIsItsOwn() {
        ParcelShelves s = new ParcelShelves();
        for (int sender = 0; sender < 10; sender++) {
            Checks.comeOften(s, 3, sender, 0);
        }
        s.fetch(s.codeAt(0, 0));
        s.refuse(s.codeAt(0, 1));
        s.call(0);
        s.fetch(s.codeAt(3, 5));
        s.refuse(s.codeAt(3, 4));
        s.refuse(s.codeAt(3, 3));
        s.call(9);
        int[][] due = {{1, 0, 60, 1, 1}, {3, 0, 0, 0, 0}, {3, 0, 0, 0, 0}, {0, 0, 120, 1, 2}};
        int[] senders = {0, 1, 8, 9};
        for (int i = 0; i < 4; i++) {
            for (int part = 0; part < 5; part++) {
                C.due("sender(" + senders[i] + ", " + part + ")", s.sender(senders[i], part), due[i][part]);
            }
        }
    }

    private static void totals(ParcelShelves s, int... due) {
        for (int what = 0; what < 10; what++) {
            C.due("total(" + what + ")", s.total(what), due[what]);
        }
    }

    private static void totalsOfAFullShop() {
        ParcelShelves s = new ParcelShelves();
        totals(s, 0, 0, 0, 0, 0, 0, 0, 0, 0, 0);
        s.come(0, 0);
        totals(s, 1, 0, 1, 0, 0, 0, 0, 0, 0, 0);
        Checks.comeOften(s, 48, 1, 0);
        totals(s, 48, 0, 48, 0, 0, 0, 0, 0, 0, 0);
        s.pass(3);
        totals(s, 48, 0, 48, 0, 0, 0, 0, 0, 0, 480);
        s.fetch(Checks.code(0, 5, 7));
        s.fetch(Checks.code(0, 5, 7));
        totals(s, 47, 0, 48, 1, 0, 10, 0, 1, 0, 470);
        s.move(Checks.code(0, 0, 0), 5);
        totals(s, 47, 0, 48, 1, 0, 10, 0, 1, 0, 470);
        s.fetch(1);
        s.fetch(1);
        s.fetch(1);
        totals(s, 47, 0, 48, 1, 0, 10, 0, 3, 1, 470);
        s.refuse(s.codeAt(0, 1));
        s.call(1);
        totals(s, 46, 0, 48, 1, 1, 10, 60, 3, 1, 460);
    }

    private static void totalsOfFullBins() {
        ParcelShelves s = new ParcelShelves();
        s.set(0, 0);
        for (int sender = 0; sender < 10; sender++) {
            Checks.fillBin(s, sender, 9);
        }
        totals(s, 0, 90, 90, 0, 0, 0, 0, 0, 0, 0);
        s.pass(2);
        totals(s, 0, 90, 90, 0, 0, 0, 0, 0, 0, 0);
        s.pass(1);
        totals(s, 0, 0, 90, 0, 90, 0, 3600, 0, 0, 0);
    }

    /** 48 parcels, no free nights, the greatest rate, 20 nights: 16 of them on large places of their size. */
    private static void theGreatestTotalOfFeesNow() {
        ParcelShelves s = new ParcelShelves();
        s.set(1, 0);
        s.set(2, 50);
        s.set(3, 20);
        Checks.comeOften(s, 16, 0, 0);
        Checks.comeOften(s, 16, 0, 1);
        Checks.comeOften(s, 16, 0, 2);
        C.due("no night", s.total(9), 0);
        s.pass(20);
        C.due("20 nights", s.total(9), 16 * (1 + 2 + 3) * 50 * 20);
    }
}
