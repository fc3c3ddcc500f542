/** The edges of the predictions: the places that are left, the first and last days, and days beyond the last one. */
public final class PredictionsEdgesTest {
    private static final Checks C = new Checks("PredictionsEdgesTest");
    private static final int NO_SUCH = -1;
    private static final int NONE = -6;

    public static void main(String[] args) {
        nextCodeIsThatOfTheLastPlaceThenNone();
        nextCodeIsNoneIfAllFreePlacesRest();
        nextCodeIsOfTheCurrentDay();
        feeInFrom0To99Days();
        feeInBeginsBeyondTheFreeNights();
        goesInFrom1Day();
        goesInWaitsForRoomInTheBin();
        goesInTheLongestTime();
        goesInLooksAtTheOtherParcels();
        goesInOfParcelsThatAreKeptTooLongAlready();
        chargesInCountsTheLastOfItsDays();
        chargesInCountsParcelsThatAreReturnedInTime();
        chargesInUpTo30Days();
        chargesInIsOfAllSenders();
        chargesInIsNothingForEmptyBins();
        predictionsGoOnBeyondTheLastDay();
        predictionsComeTrue();
        predictionsChangeNothing();
        C.end();
    }

    private static void nextCodeIsThatOfTheLastPlaceThenNone() {
        ParcelShelves s = new ParcelShelves();
        int[] firsts = {0, 16, 32};
        for (int size = 2; size >= 0; size--) {
            for (int at = firsts[size]; at < firsts[size] + 16; at++) {
                int want = Checks.code(0, at / 8, at % 8);
                C.due("nextCode(" + size + ")", s.nextCode(size), want);
                C.due("come(0, " + size + ")", s.come(0, size), want);
            }
            C.due("nextCode(" + size + ") with no place", s.nextCode(size), NONE);
            C.due("come(0, " + size + ") with no place", s.come(0, size), -4);
        }
        s.set(0, 0);
        s.refuse(Checks.code(0, 1, 7));
        C.due("nextCode(0), one place", s.nextCode(0), Checks.code(0, 1, 7));
        C.due("nextCode(1), a smaller place", s.nextCode(1), NONE);
    }

    private static void nextCodeIsNoneIfAllFreePlacesRest() {
        ParcelShelves s = new ParcelShelves();
        for (int i = 0; i < 16; i++) {
            s.fetch(s.come(0, 2));
        }
        C.due("all 16 places rest", s.nextCode(2), NONE);
        C.due("no refusal", s.refusal(0), NONE);
        C.due("a middle place", s.nextCode(1), Checks.code(0, 2, 0));
        s.set(0, 0);
        C.due("no rest", s.nextCode(2), Checks.code(0, 4, 0));
    }

    private static void nextCodeIsOfTheCurrentDay() {
        ParcelShelves s = new ParcelShelves();
        for (int day = 0; day < 15; day++) {
            C.due("day " + day, s.nextCode(0), Checks.code(day, 0, 0));
            s.pass(1);
        }
    }

    private static void feeInFrom0To99Days() {
        ParcelShelves s = new ParcelShelves();
        s.come(0, 1);
        s.pass(5);
        C.due("0 days", s.feeIn(1205, 0), 60);
        C.due("0 days as now", s.feeIn(1205, 0), s.parcel(1205, 5));
        C.due("99 days", s.feeIn(1205, 99), 2 * 10 * 102);
        C.due("100 days", s.feeIn(1205, 100), -2);
        C.due("-1 days", s.feeIn(1205, -1), -2);
        s.fetch(1205);
        C.due("no parcel any more", s.feeIn(1205, 0), NO_SUCH);
    }

    private static void feeInBeginsBeyondTheFreeNights() {
        for (int nights = 0; nights <= 3; nights++) {
            ParcelShelves s = new ParcelShelves();
            s.come(0, 0);
            Checks.passDays(s, nights);
            C.due("2 nights in all", s.feeIn(1007, Math.max(0, 2 - nights)), nights == 3 ? 10 : 0);
            C.due("3 nights in all", s.feeIn(1007, 3 - nights), 10);
        }
    }

    private static void goesInFrom1Day() {
        ParcelShelves s = new ParcelShelves();
        s.come(0, 0);
        for (int night = 0; night <= 7; night++) {
            C.due("after " + night + " nights", s.goesIn(1007), 8 - night);
            s.pass(1);
        }
        C.due("gone", s.goesIn(1007), NO_SUCH);
    }

    /** Nine of ten go on day 2, the tenth on day 3, after the courier; of 19 the last one on day 6. */
    private static void goesInWaitsForRoomInTheBin() {
        ParcelShelves s = new ParcelShelves();
        s.set(3, 1);
        s.set(4, 9);
        Checks.comeOften(s, 19, 0, 0);
        int[][] due = {{0, 2}, {8, 2}, {9, 3}, {17, 3}, {18, 6}};
        for (int[] one : due) {
            int at = one[0];
            C.due("no " + at, s.goesIn(Checks.code(0, at / 8, at % 8)), one[1]);
        }
    }

    /** The bin has room for 1 of 48; then 9 go on each day of the courier: day 21, 24, 27, .., 39. */
    private static void goesInTheLongestTime() {
        ParcelShelves s = new ParcelShelves();
        s.set(3, 20);
        s.set(4, 9);
        s.set(0, 0);
        Checks.fillBin(s, 0, 8);
        Checks.comeOften(s, 48, 0, 0);
        C.due("the first", s.goesIn(Checks.code(0, 0, 0)), 21);
        C.due("the second", s.goesIn(Checks.code(0, 0, 1)), 24);
        C.due("the tenth", s.goesIn(Checks.code(0, 1, 1)), 24);
        C.due("the eleventh", s.goesIn(Checks.code(0, 1, 2)), 27);
        C.due("the 46th", s.goesIn(Checks.code(0, 5, 5)), 36);
        C.due("the 47th", s.goesIn(Checks.code(0, 5, 6)), 39);
        C.due("the last", s.goesIn(Checks.code(0, 5, 7)), 39);
        s.pass(30);
        C.due("the last, on day 30", s.goesIn(Checks.code(0, 5, 7)), 9);
        s.pass(8);
        C.due("the last, on day 38", s.goesIn(Checks.code(0, 5, 7)), 1);
        C.due("the last two go", s.pass(1), 2);
    }

    private static void goesInLooksAtTheOtherParcels() {
        ParcelShelves s = new ParcelShelves();
        s.set(3, 1);
        Checks.comeOften(s, 9, 0, 0);
        int other = s.come(1, 0);
        int last = s.come(0, 0);
        C.due("another sender has room", s.goesIn(other), 2);
        C.due("the same sender has none", s.goesIn(last), 3);
        s.fetch(1007);
        C.due("one less ahead of it", s.goesIn(last), 2);
    }

    private static void goesInOfParcelsThatAreKeptTooLongAlready() {
        ParcelShelves s = new ParcelShelves();
        s.come(0, 0);
        s.pass(7);
        s.set(3, 1);
        C.due("with the next day", s.goesIn(1007), 1);
        Checks.fillBin(s, 0, 9);
        C.due("day 8 without room, day 9 with the courier", s.goesIn(1007), 2);
    }

    private static void chargesInCountsTheLastOfItsDays() {
        for (int day = 0; day < 3; day++) {
            ParcelShelves s = new ParcelShelves();
            Checks.fillBin(s, 0, 2);
            Checks.passDays(s, day);
            for (int days = 1; days <= 30; days++) {
                C.due("chargesIn(" + days + ") on day " + day, s.chargesIn(days), day + days >= 3 ? 80 : 0);
            }
        }
    }

    /** Kept 1 night it is returned on day 2 and taken on day 3; kept 2 nights, on day 3 after the courier. */
    private static void chargesInCountsParcelsThatAreReturnedInTime() {
        for (int keeping = 1; keeping <= 20; keeping++) {
            ParcelShelves s = new ParcelShelves();
            s.set(3, keeping);
            s.set(4, 1);
            s.come(0, 0);
            int taken = (keeping + 1) / 3 * 3 + 3;
            C.due("a day ahead, keeping " + keeping, s.chargesIn(taken - 1), 0);
            C.due("the day, keeping " + keeping, s.chargesIn(taken), 40);
        }
    }

    /** Of 48 that are kept 20 nights 9 are taken on each of the days 24, 27 and 30. */
    private static void chargesInUpTo30Days() {
        ParcelShelves s = new ParcelShelves();
        s.set(3, 20);
        Checks.comeOften(s, 48, 0, 0);
        C.due("chargesIn(23)", s.chargesIn(23), 0);
        C.due("chargesIn(24)", s.chargesIn(24), 360);
        C.due("chargesIn(26)", s.chargesIn(26), 360);
        C.due("chargesIn(27)", s.chargesIn(27), 720);
        C.due("chargesIn(29)", s.chargesIn(29), 720);
        C.due("chargesIn(30)", s.chargesIn(30), 1080);
        C.due("chargesIn(31)", s.chargesIn(31), -2);
    }

    private static void chargesInIsOfAllSenders() {
        ParcelShelves s = new ParcelShelves();
        s.set(2, 1);
        s.set(4, 1);
        for (int sender = 0; sender < 10; sender++) {
            Checks.fillBin(s, sender, 1);
            C.due("senders 0 to " + sender, s.chargesIn(3), 4 * (sender + 1));
        }
        s.pass(3);
        C.due("charged", s.total(6), 40);
        C.due("what was charged does not count", s.chargesIn(30), 0);
    }

    private static void chargesInIsNothingForEmptyBins() {
        ParcelShelves s = new ParcelShelves();
        C.due("a new shop", s.chargesIn(1), 0);
        C.due("a new shop", s.chargesIn(30), 0);
        s.set(4, 2);
        Checks.fillBin(s, 0, 1);
        C.due("below the least number", s.chargesIn(30), 0);
        s.come(0, 0);
        C.due("with the one that is returned on day 8", s.chargesIn(9), 80);
    }

    /** None of these methods names LIMIT, so their days go on where those of pass() end. */
    private static void predictionsGoOnBeyondTheLastDay() {
        ParcelShelves s = new ParcelShelves();
        Checks.passDays(s, 9999);
        int code = s.come(0, 0);
        Checks.fillBin(s, 1, 2);
        C.due("feeIn", s.feeIn(code, 99), 970);
        C.due("goesIn", s.goesIn(code), 8);
        C.due("chargesIn(2), day 10001", s.chargesIn(2), 0);
        C.due("chargesIn(3), day 10002", s.chargesIn(3), 80);
        s.fetch(code);
        C.due("restsUntil", s.restsUntil(code), 10004);
    }

    private static void predictionsComeTrue() {
        ParcelShelves s = new ParcelShelves();
        s.set(3, 3);
        Checks.comeOften(s, 30, 4, 0);
        Checks.comeOften(s, 5, 5, 1);
        for (int at = 0; at < 35; at += 4) {
            ParcelShelves other = new ParcelShelves();
            other.set(3, 3);
            Checks.comeOften(other, 30, 4, 0);
            Checks.comeOften(other, 5, 5, 1);
            int days = s.goesIn(Checks.code(0, at / 8, at % 8));
            int charges = s.chargesIn(days);
            other.pass(days - 1);
            C.due("still there", other.codeAt(at / 8, at % 8), Checks.code(0, at / 8, at % 8));
            other.pass(1);
            C.due("gone", other.codeAt(at / 8, at % 8), NONE);
            C.due("charged", other.total(6), charges);
        }
    }

    private static void predictionsChangeNothing() {
        Picture.Story before = s -> {
            s.set(3, 2);
            Checks.comeOften(s, 12, 4, 0);
            Checks.fillBin(s, 4, 3);
            s.fetch(1);
            s.refuse(2);
            s.save();
            s.pass(1);
            s.fetch(3);
            Checks.write(s, "d1;");
        };
        C.alike("the predictions", s -> {
            before.tell(s);
            for (int i = 0; i < 12; i++) {
                int code = Checks.code(0, i / 8, i % 8);
                s.goesIn(code);
                s.feeIn(code, 99);
            }
            for (int days = 1; days <= 30; days++) {
                s.chargesIn(days);
            }
            for (int size = 0; size < 3; size++) {
                s.nextCode(size);
            }
            s.errorPosition();
        }, before);
    }
}
