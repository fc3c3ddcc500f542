/** The edges that 'Terms' names of fees, returns, the beginning of a day and the counter, and those of call(). */
public final class DaysEdgesTest {
    private static final Checks C = new Checks("DaysEdgesTest");

    public static void main(String[] args) {
        aFeeBeginsBeyondTheFreeNights();
        theFreeNightsAre0To9And2AtTheBeginning();
        theRateIs0To50And10AtTheBeginning();
        theFeeIsByTheSizeAnd1();
        feesSoFarAndFeesNow();
        aBinHasRoomFor9RefusedParcels();
        aBinHasRoomFor9ReturnedParcels();
        aFullBinIsOneOfOneSender();
        theKeepingIs1To20And7AtTheBeginning();
        aParcelGoesWithMoreNightsThanTheKeeping();
        aMoveDoesNotBeginTheNightsAnew();
        theCourierComesWithTheLeastNumber();
        theLeastNumberIs2AtTheBeginning();
        theCourierComesOnDaysDivisibleBy3();
        theCourierIsPaid4RatesForEach();
        theCourierComesAheadOfTheReturns();
        parcelsGoShelfByShelfAndPlaceByPlace();
        passTellsTheParcelsOfAllItsDays();
        eachDayOfManyBegins();
        threeWrongCodesLockTheCounter();
        theCounterIsOpenOnTheNextDay();
        onlyWrongCodesAreCounted();
        aRightCodeDoesNotEndTheCounting();
        aCalledCourierIsPaid6RatesForEach();
        aCallNeedsOneParcelInTheBin();
        C.end();
    }

    /** The fee of a parcel of size 0 after some nights at rate 10; the keeping is 20. */
    private static int feeAfter(int freeNights, int nights) {
        ParcelShelves s = new ParcelShelves();
        s.set(3, 20);
        s.set(1, freeNights);
        s.come(0, 0);
        C.due("feeIn(.., " + nights + ")", s.feeIn(1007, nights), Math.max(0, nights - freeNights) * 10);
        Checks.passDays(s, nights);
        int fee = s.parcel(1007, 5);
        C.due("total(9) as the fee", s.total(9), fee);
        C.due("fetch() as the fee", s.fetch(1007), fee);
        C.due("total(5) as the fee", s.total(5), fee);
        return fee;
    }

    private static void aFeeBeginsBeyondTheFreeNights() {
        for (int free = 0; free <= 9; free++) {
            C.due(free + " nights of " + free + " free ones", feeAfter(free, free), 0);
            C.due(free + 1 + " nights of " + free + " free ones", feeAfter(free, free + 1), 10);
            C.due(free + 2 + " nights of " + free + " free ones", feeAfter(free, free + 2), 20);
        }
        C.due("no night, 9 free ones", feeAfter(9, 0), 0);
        C.due("8 nights, 9 free ones", feeAfter(9, 8), 0);
        C.due("20 nights, 9 free ones", feeAfter(9, 20), 110);
    }

    private static void theFreeNightsAre0To9And2AtTheBeginning() {
        ParcelShelves s = new ParcelShelves();
        C.due("setting(1)", s.setting(1), 2);
        s.come(0, 0);
        s.pass(2);
        C.due("2 nights", s.parcel(1007, 5), 0);
        s.pass(1);
        C.due("3 nights", s.parcel(1007, 5), 10);
        C.due("set(1, -1)", s.set(1, -1), -2);
        C.due("set(1, 10)", s.set(1, 10), -2);
        C.due("set(1, 9)", s.set(1, 9), 2);
        C.due("set(1, 0)", s.set(1, 0), 9);
        C.due("3 nights, none free", s.parcel(1007, 5), 30);
    }

    private static void theRateIs0To50And10AtTheBeginning() {
        ParcelShelves s = new ParcelShelves();
        C.due("setting(2)", s.setting(2), 10);
        s.come(0, 0);
        s.pass(3);
        C.due("set(2, -1)", s.set(2, -1), -2);
        C.due("set(2, 51)", s.set(2, 51), -2);
        C.due("at rate 10", s.parcel(1007, 5), 10);
        C.due("set(2, 50)", s.set(2, 50), 10);
        C.due("at rate 50", s.parcel(1007, 5), 50);
        C.due("set(2, 1)", s.set(2, 1), 50);
        C.due("at rate 1", s.parcel(1007, 5), 1);
        C.due("set(2, 0)", s.set(2, 0), 1);
        C.due("at rate 0", s.parcel(1007, 5), 0);
        C.due("the greatest fee within 99 days", greatestFee(), 3 * 50 * 119);
    }

    private static int greatestFee() {
        ParcelShelves s = new ParcelShelves();
        s.set(1, 0);
        s.set(2, 50);
        s.set(3, 20);
        int code = s.come(0, 2);
        s.pass(20);
        return s.feeIn(code, 99);
    }

    private static void theFeeIsByTheSizeAnd1() {
        for (int size = 0; size < 3; size++) {
            ParcelShelves s = new ParcelShelves();
            int code = s.come(0, size);
            s.move(code, 5);
            s.pass(4);
            C.due("size " + size + " on a large shelf", s.parcel(s.codeAt(5, 0), 5), (size + 1) * 20);
        }
    }

    private static void feesSoFarAndFeesNow() {
        ParcelShelves s = new ParcelShelves();
        s.come(0, 0);
        s.come(0, 1);
        s.come(0, 2);
        s.come(0, 2);
        s.pass(3);
        C.due("total(9)", s.total(9), 10 + 20 + 30 + 30);
        s.fetch(s.codeAt(4, 1));
        C.due("a fetched one is no more on the shelves", s.total(9), 60);
        s.refuse(s.codeAt(4, 0));
        C.due("nor a refused one", s.total(9), 30);
        C.due("fees that were paid", s.total(5), 30);
        s.pass(1);
        C.due("one night more", s.total(9), 20 + 40);
        s.fetch(s.codeAt(2, 0));
        C.due("fees that were paid", s.total(5), 70);
    }

    private static void aBinHasRoomFor9RefusedParcels() {
        ParcelShelves s = new ParcelShelves();
        Checks.comeOften(s, 10, 9, 0);
        for (int i = 0; i < 9; i++) {
            C.due("refuse no " + i, s.refuse(Checks.code(0, i / 8, i % 8)), i + 1);
        }
        int tenth = Checks.code(0, 1, 1);
        C.due("refuse the tenth", s.refuse(tenth), -3);
        C.due("the bin", s.sender(9, 1), 9);
        C.due("on its place", s.codeAt(1, 1), tenth);
        C.due("no rest", s.restsUntil(tenth), -6);
        s.call(9);
        C.due("there is room", s.refuse(tenth), 1);
    }

    /** Ten are kept too long on day 2, when no courier comes: one stays until day 3. */
    private static void aBinHasRoomFor9ReturnedParcels() {
        ParcelShelves s = new ParcelShelves();
        s.set(3, 1);
        Checks.comeOften(s, 10, 0, 0);
        int tenth = Checks.code(0, 1, 1);
        C.due("goesIn of the ninth", s.goesIn(Checks.code(0, 1, 0)), 2);
        C.due("goesIn of the tenth", s.goesIn(tenth), 3);
        C.due("pass(2)", s.pass(2), 9);
        C.due("the bin", s.sender(0, 1), 9);
        C.due("the tenth", s.codeAt(1, 1), tenth);
        C.due("no rest", s.restsUntil(tenth), -6);
        C.due("its fee goes on", s.feeIn(tenth, 2), 20);
        C.due("pass(1)", s.pass(1), 1);
        C.due("the bin", s.sender(0, 1), 1);
        C.due("rests from day 3", s.restsUntil(tenth), 8);

        s = new ParcelShelves();
        s.set(3, 1);
        Checks.fillBin(s, 0, 8);
        Checks.comeOften(s, 1, 0, 0);
        C.due("the ninth just goes", s.pass(2), 1);
        C.due("the bin", s.sender(0, 1), 9);
    }

    private static void aFullBinIsOneOfOneSender() {
        ParcelShelves s = new ParcelShelves();
        s.set(3, 1);
        Checks.fillBin(s, 3, 9);
        int full = s.come(3, 2);
        int empty = s.come(4, 2);
        C.due("pass(2)", s.pass(2), 1);
        C.due("of the full bin", s.codeAt(4, 0), full);
        C.due("of the empty bin", s.codeAt(4, 1), -6);
        C.due("rests", s.restsUntil(empty), 7);
        C.due("in bins", s.total(1), 10);
    }

    private static void theKeepingIs1To20And7AtTheBeginning() {
        ParcelShelves s = new ParcelShelves();
        C.due("setting(3)", s.setting(3), 7);
        s.come(0, 0);
        C.due("pass(7)", s.pass(7), 0);
        C.due("set(3, 0)", s.set(3, 0), -2);
        C.due("set(3, 21)", s.set(3, 21), -2);
        C.due("set(3, 20)", s.set(3, 20), 7);
        C.due("pass(13), 20 nights", s.pass(13), 0);
        C.due("set(3, 1)", s.set(3, 1), 20);
        C.due("a shorter keeping waits for a day", s.codeAt(0, 0), 1007);
        C.due("pass(1)", s.pass(1), 1);
    }

    private static void aParcelGoesWithMoreNightsThanTheKeeping() {
        for (int keeping = 1; keeping <= 20; keeping++) {
            ParcelShelves s = new ParcelShelves();
            s.set(3, keeping);
            s.come(0, 0);
            C.due("goesIn at keeping " + keeping, s.goesIn(1007), keeping + 1);
            C.due("nights as the keeping " + keeping, s.pass(keeping), 0);
            C.due("goesIn then", s.goesIn(1007), 1);
            C.due("one night more than " + keeping, s.pass(1), 1);
            C.due("in the bin", s.sender(0, 1), 1);
            C.due("off the shelf", s.codeAt(0, 0), -6);
        }
    }

    private static void aMoveDoesNotBeginTheNightsAnew() {
        ParcelShelves s = new ParcelShelves();
        s.come(0, 0);
        s.pass(7);
        int code = s.move(1007, 1);
        C.due("a code of day 7", code, Checks.code(7, 1, 0));
        C.due("came on", s.parcel(code, 2), 0);
        C.due("fee", s.parcel(code, 5), 50);
        C.due("goesIn", s.goesIn(code), 1);
        C.due("pass(1)", s.pass(1), 1);
    }

    /** For each least number the bins with one less, with just so many and with one more. */
    private static void theCourierComesWithTheLeastNumber() {
        for (int least = 1; least <= 9; least++) {
            for (int parcels = Math.max(0, least - 1); parcels <= Math.min(9, least + 1); parcels++) {
                ParcelShelves s = new ParcelShelves();
                s.set(4, least);
                Checks.fillBin(s, 9, parcels);
                s.pass(2);
                int taken = parcels >= least ? parcels : 0;
                C.due("chargesIn(1)", s.chargesIn(1), 40 * taken);
                s.pass(1);
                C.due("bin of " + parcels + " at least " + least, s.sender(9, 1), parcels - taken);
                C.due("taken", s.sender(9, 4), taken);
                C.due("charged", s.sender(9, 2), 40 * taken);
            }
        }
    }

    private static void theLeastNumberIs2AtTheBeginning() {
        ParcelShelves s = new ParcelShelves();
        C.due("setting(4)", s.setting(4), 2);
        Checks.fillBin(s, 0, 1);
        Checks.fillBin(s, 1, 2);
        s.pass(3);
        C.due("bin of 1", s.sender(0, 1), 1);
        C.due("bin of 2", s.sender(1, 1), 0);
        C.due("set(4, 0)", s.set(4, 0), -2);
        C.due("set(4, 10)", s.set(4, 10), -2);
        C.due("set(4, 9)", s.set(4, 9), 2);
        C.due("set(4, 1)", s.set(4, 1), 9);
    }

    private static void theCourierComesOnDaysDivisibleBy3() {
        ParcelShelves s = new ParcelShelves();
        s.set(4, 1);
        int taken = 0;
        for (int day = 0; day < 12; day++) {
            C.due("day()", s.day(), day);
            C.due("taken until day " + day, s.total(4), taken);
            Checks.fillBin(s, day % 10, 1);
            C.due("chargesIn(1)", s.chargesIn(1), (day + 1) % 3 == 0 ? 120 : 0);
            s.pass(1);
            taken += (day + 1) % 3 == 0 ? 3 : 0;
        }
        C.due("taken", s.total(4), 12);
    }

    private static void theCourierIsPaid4RatesForEach() {
        ParcelShelves s = new ParcelShelves();
        s.set(2, 50);
        Checks.fillBin(s, 0, 9);
        Checks.fillBin(s, 9, 2);
        s.pass(3);
        C.due("charge of the first sender", s.sender(0, 2), 4 * 50 * 9);
        C.due("charge of the last sender", s.sender(9, 2), 4 * 50 * 2);
        C.due("charges", s.total(6), 4 * 50 * 11);
        C.due("taken of the first sender", s.sender(0, 4), 9);
        C.due("taken of the last sender", s.sender(9, 4), 2);
        C.due("fees are not charged", s.total(5), 0);
        s.set(2, 0);
        Checks.fillBin(s, 9, 2);
        s.pass(3);
        C.due("at rate 0", s.sender(9, 2), 4 * 50 * 2);
        C.due("taken at rate 0", s.sender(9, 4), 4);
    }

    private static void theCourierComesAheadOfTheReturns() {
        ParcelShelves s = new ParcelShelves();
        s.set(3, 2);
        Checks.fillBin(s, 0, 9);
        Checks.comeOften(s, 9, 0, 2);
        C.due("a full bin is emptied, then filled", s.pass(3), 9);
        C.due("bin", s.sender(0, 1), 9);
        C.due("taken", s.sender(0, 4), 9);
        C.due("the next courier day", s.pass(3), 0);
        C.due("taken", s.sender(0, 4), 18);

        s = new ParcelShelves();
        s.set(3, 2);
        s.set(4, 2);
        Checks.fillBin(s, 0, 1);
        s.come(0, 2);
        C.due("the least number is not reached ahead of the return", s.pass(3), 1);
        C.due("bin", s.sender(0, 1), 2);
        C.due("taken", s.sender(0, 4), 0);
    }

    /** There is room for one; the one on the lower place goes, though it came later. */
    private static void parcelsGoShelfByShelfAndPlaceByPlace() {
        int[][] pairs = {{0, 1}, {6, 7}, {7, 8}, {15, 16}, {39, 40}, {46, 47}};
        for (int[] pair : pairs) {
            ParcelShelves s = new ParcelShelves();
            s.set(0, 0);
            s.set(3, 20);
            s.set(4, 9);
            Checks.fillBin(s, 5, 8);
            Checks.comeOften(s, 48, 1, 0);
            s.fetch(Checks.code(0, pair[1] / 8, pair[1] % 8));
            s.come(5, 0);
            s.pass(1);
            s.fetch(Checks.code(0, pair[0] / 8, pair[0] % 8));
            C.due("the lower place", s.come(5, 0), Checks.code(1, pair[0] / 8, pair[0] % 8));
            s.pass(3);
            C.due("a bin below the least number stays", s.sender(5, 1), 8);
            s.set(3, 1);
            s.pass(1);
            C.due("the bin", s.sender(5, 1), 9);
            C.due("on " + pair[0], s.codeAt(pair[0] / 8, pair[0] % 8), -6);
            C.due("on " + pair[1], s.codeAt(pair[1] / 8, pair[1] % 8),
                    Checks.code(0, pair[1] / 8, pair[1] % 8));
        }
    }

    private static void passTellsTheParcelsOfAllItsDays() {
        ParcelShelves s = new ParcelShelves();
        s.set(3, 1);
        s.come(0, 0);
        s.pass(1);
        s.come(1, 0);
        s.pass(1);
        C.due("the first is gone", s.total(1), 1);
        s.come(2, 0);
        s.refuse(s.come(3, 0));
        C.due("two go, on days 3 and 4", s.pass(2), 2);
        C.due("none is left", s.pass(30), 0);
    }

    private static void eachDayOfManyBegins() {
        ParcelShelves many = new ParcelShelves();
        ParcelShelves single = new ParcelShelves();
        for (int i = 0; i < 25; i++) {
            many.come(i % 3, i % 3);
            single.come(i % 3, i % 3);
        }
        int gone = 0;
        for (int i = 0; i < 30; i++) {
            gone += single.pass(1);
        }
        C.due("pass(30)", many.pass(30), gone);
        C.due("all gone", gone, 25);
        for (int what = 0; what < 10; what++) {
            C.due("total(" + what + ")", many.total(what), single.total(what));
        }
    }

    private static void threeWrongCodesLockTheCounter() {
        ParcelShelves s = new ParcelShelves();
        s.come(0, 0);
        s.come(0, 0);
        int[] wrong = {0, 9999, 1008};
        for (int i = 0; i < 3; i++) {
            C.due("counted", s.total(7), i);
            C.due("locked", s.total(8), 0);
            C.due("wrong code " + i, s.fetch(wrong[i]), -7);
        }
        C.due("counted", s.total(7), 3);
        C.due("locked", s.total(8), 1);
        C.due("a right code", s.fetch(1007), -3);
        C.due("a wrong code", s.fetch(0), -3);
        C.due("counted still", s.total(7), 3);
        C.due("the parcel stays", s.codeAt(0, 0), 1007);
        s = new ParcelShelves();
        s.come(0, 0);
        s.fetch(1);
        s.fetch(2);
        C.due("after two wrong codes", s.fetch(1007), 0);
    }

    private static void theCounterIsOpenOnTheNextDay() {
        ParcelShelves s = new ParcelShelves();
        s.come(0, 0);
        s.fetch(1);
        s.fetch(2);
        s.pass(1);
        C.due("two of yesterday are not counted", s.total(7), 0);
        s.fetch(3);
        C.due("not locked", s.total(8), 0);
        s.fetch(4);
        s.fetch(5);
        C.due("locked", s.total(8), 1);
        C.due("refused calls do not open it", s.pass(31), -2);
        C.due("locked", s.fetch(1007), -3);
        s.pass(1);
        C.due("counted", s.total(7), 0);
        C.due("locked", s.total(8), 0);
        C.due("open", s.fetch(1007), 0);
    }

    private static void onlyWrongCodesAreCounted() {
        ParcelShelves s = new ParcelShelves();
        Checks.comeOften(s, 3, 0, 0);
        s.fetch(-1);
        s.fetch(10000);
        s.refuse(1);
        s.move(1, 1);
        s.parcel(1, 0);
        s.feeIn(1, 0);
        s.goesIn(1);
        s.isCode(1);
        s.restsUntil(1);
        C.due("none is counted", s.total(7), 0);
        s.fetch(1007);
        C.due("a right code is not", s.total(7), 0);
        s.fetch(1007);
        C.due("the same code again is wrong", s.total(7), 1);
        s.refuse(1010);
        s.fetch(1010);
        C.due("that of a refused parcel is wrong", s.total(7), 2);
        s.move(1023, 1);
        s.fetch(1023);
        C.due("the old one of a moved parcel is wrong", s.total(8), 1);
    }

    private static void aRightCodeDoesNotEndTheCounting() {
        ParcelShelves s = new ParcelShelves();
        Checks.comeOften(s, 3, 0, 0);
        s.fetch(1);
        C.due("a right code after one wrong code", s.fetch(1007), 0);
        C.due("counted", s.total(7), 1);
        s.fetch(1);
        C.due("a right code after two wrong codes", s.fetch(1010), 0);
        C.due("counted", s.total(7), 2);
        s.fetch(1);
        C.due("the third one locks", s.fetch(1023), -3);
    }

    private static void aCalledCourierIsPaid6RatesForEach() {
        ParcelShelves s = new ParcelShelves();
        s.set(2, 50);
        s.set(4, 9);
        Checks.fillBin(s, 0, 9);
        Checks.fillBin(s, 9, 1);
        C.due("9 parcels", s.call(0), 6 * 50 * 9);
        C.due("1 parcel, below the least number", s.call(9), 6 * 50);
        C.due("charged", s.sender(0, 2), 6 * 50 * 9);
        C.due("charged", s.sender(9, 2), 6 * 50);
        C.due("charges", s.total(6), 6 * 50 * 10);
        C.due("taken", s.total(4), 10);
        C.due("in bins", s.total(1), 0);
        s.set(2, 0);
        Checks.fillBin(s, 9, 1);
        C.due("at rate 0", s.call(9), 0);
    }

    private static void aCallNeedsOneParcelInTheBin() {
        ParcelShelves s = new ParcelShelves();
        C.due("empty from the beginning", s.call(3), -3);
        s.come(3, 0);
        C.due("a parcel on a shelf is not in the bin", s.call(3), -3);
        s.refuse(1007);
        C.due("the bin of another sender", s.call(4), -3);
        C.due("one", s.call(3), 60);
        C.due("emptied", s.call(3), -3);
        Checks.fillBin(s, 3, 2);
        s.pass(3);
        C.due("emptied by the courier", s.call(3), -3);
    }
}
