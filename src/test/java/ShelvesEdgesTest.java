/** The edges that 'Terms' names of shelves, days, codes and their rest, and coming: a test for each sentence. */
public final class ShelvesEdgesTest {
    private static final Checks C = new Checks("ShelvesEdgesTest");

    public static void main(String[] args) {
        thereAre6ShelvesEachWith8Places();
        shelves0And1AreSmall2And3Middle4And5Large();
        aParcelFitsOnAShelfOfItsSizeOrOfAGreaterOne();
        aMovedParcelFitsOnAShelfOfItsSizeOrOfAGreaterOne();
        aParcelTakesOnePlace();
        theDayIs0AtTheBeginningAndAtMost9999();
        aTextStopsAtTheLastDay();
        theWeekdayIsTheRemainderBy7And1();
        theCheckDigitIsFrom0To9();
        theSumIsDivisibleBy10();
        eachNumberOutsideTheRowsIsNoCode();
        aCodeIsGivenAgainFromTheDayOfLeavingPlusTheRest();
        theRestIsFrom0To20And5AtTheBeginning();
        theRestCountsFromTheDayOfLeaving();
        restsUntilItsLastDay();
        onlyTheLatestDayOfLeavingCounts();
        aCodeThatIsGivenAgainRestsByItsLatestLeaving();
        aCodeRestsHoweverItsParcelLeaves();
        aParcelGetsTheFirstPlaceOfTheOrder();
        takenAndRestingPlacesAreLeftOut();
        codesOfOtherWeekdaysDoNotKeepAPlace();
        C.end();
    }

    private static void thereAre6ShelvesEachWith8Places() {
        ParcelShelves s = new ParcelShelves();
        for (int at = 0; at < 48; at++) {
            C.due("codeAt of place " + at, s.codeAt(at / 8, at % 8), -6);
            C.due("come no " + at, s.come(at % 10, 0), Checks.code(0, at / 8, at % 8));
            C.due("codeAt of place " + at, s.codeAt(at / 8, at % 8), Checks.code(0, at / 8, at % 8));
        }
        C.due("the 49th", s.come(0, 0), -4);
        C.due("total(0)", s.total(0), 48);
        C.due("total(2)", s.total(2), 48);
        for (int i = 0; i < 8; i++) {
            C.due("codeAt(-1, " + i + ")", s.codeAt(-1, i), -1);
            C.due("codeAt(6, " + i + ")", s.codeAt(6, i), -1);
        }
        for (int i = 0; i < 6; i++) {
            C.due("codeAt(" + i + ", -1)", s.codeAt(i, -1), -1);
            C.due("codeAt(" + i + ", 8)", s.codeAt(i, 8), -1);
            C.due("shelf(" + i + ", 1)", s.shelf(i, 1), 8);
        }
    }

    private static void shelves0And1AreSmall2And3Middle4And5Large() {
        int[] sizes = {0, 0, 1, 1, 2, 2};
        for (int shelf = 0; shelf < 6; shelf++) {
            C.due("shelf(" + shelf + ", 0)", new ParcelShelves().shelf(shelf, 0), sizes[shelf]);
        }
    }

    /** The last place of one size, then the first of the next; the last of all, then none. */
    private static void aParcelFitsOnAShelfOfItsSizeOrOfAGreaterOne() {
        ParcelShelves s = new ParcelShelves();
        C.due("small, the 16th", Checks.comeOften(s, 16, 0, 0), Checks.code(0, 1, 7));
        C.due("small, the 17th", s.come(0, 0), Checks.code(0, 2, 0));
        C.due("small, the 32nd", Checks.comeOften(s, 15, 0, 0), Checks.code(0, 3, 7));
        C.due("small, the 33rd", s.come(0, 0), Checks.code(0, 4, 0));
        s = new ParcelShelves();
        C.due("middle, the first", s.come(0, 1), Checks.code(0, 2, 0));
        C.due("middle, the 16th", Checks.comeOften(s, 15, 0, 1), Checks.code(0, 3, 7));
        C.due("middle, the 17th", s.come(0, 1), Checks.code(0, 4, 0));
        C.due("middle, the 32nd", Checks.comeOften(s, 15, 0, 1), Checks.code(0, 5, 7));
        C.due("middle, the 33rd, small places free", s.come(0, 1), -4);
        s = new ParcelShelves();
        C.due("large, the first", s.come(0, 2), Checks.code(0, 4, 0));
        C.due("large, the 16th", Checks.comeOften(s, 15, 0, 2), Checks.code(0, 5, 7));
        C.due("large, the 17th, middle places free", s.come(0, 2), -4);
        C.due("total(0)", s.total(0), 16);
    }

    private static void aMovedParcelFitsOnAShelfOfItsSizeOrOfAGreaterOne() {
        for (int size = 0; size < 3; size++) {
            int own = 2 * size;
            for (int shelf = 0; shelf < 6; shelf++) {
                ParcelShelves s = new ParcelShelves();
                int code = s.come(0, size);
                int want = shelf == own || shelf / 2 < size ? -2 : Checks.code(0, shelf, 0);
                C.due("size " + size + " to shelf " + shelf, s.move(code, shelf), want);
            }
        }
    }

    private static void aParcelTakesOnePlace() {
        for (int size = 0; size < 3; size++) {
            ParcelShelves s = new ParcelShelves();
            s.come(0, size);
            C.due("parcels of size " + size, s.shelf(2 * size, 1), 1);
            C.due("the next place", s.codeAt(2 * size, 1), -6);
            C.due("the next parcel", s.come(0, size), Checks.code(0, 2 * size, 1));
        }
    }

    private static void theDayIs0AtTheBeginningAndAtMost9999() {
        ParcelShelves s = new ParcelShelves();
        C.due("day() of a new shop", s.day(), 0);
        Checks.passDays(s, 9970);
        C.due("pass(30) on day 9970", s.pass(30), -4);
        C.due("pass(29) on day 9970", s.pass(29), 0);
        C.due("the last day", s.day(), 9999);
        C.due("pass(1) on day 9999", s.pass(1), -4);
        C.due("pass(30) on day 9999", s.pass(30), -4);
        C.due("still the last day", s.day(), 9999);
        s = new ParcelShelves();
        Checks.passDays(s, 9969);
        C.due("pass(30) on day 9969", s.pass(30), 0);
        C.due("the last day", s.day(), 9999);
        s.undo();
        C.due("pass(29) on day 9969", s.pass(29), 0);
        C.due("pass(2) on day 9998", s.pass(2), -4);
        C.due("pass(1) on day 9998", s.pass(1), 0);
    }

    private static void aTextStopsAtTheLastDay() {
        ParcelShelves s = new ParcelShelves();
        Checks.passDays(s, 9990);
        C.due("d9 on day 9990", Checks.run(s, "d9;d1;a0s"), 1);
        C.due("day()", s.day(), 9999);
        C.due("none came", s.total(2), 0);
        s.undo();
        C.due("d10 on day 9990", Checks.run(s, "d10;a0s"), 0);
        C.due("day()", s.day(), 9990);
    }

    private static void theWeekdayIsTheRemainderBy7And1() {
        ParcelShelves s = new ParcelShelves();
        int[] weekdays = {1, 2, 3, 4, 5, 6, 7, 1, 2, 3, 4, 5, 6, 7, 1};
        for (int day = 0; day < weekdays.length; day++) {
            C.due("weekday of day " + day + " by codeOf", s.codeOf(day, 0, 0) / 1000, weekdays[day]);
            C.due("weekday of day " + day + " by nextCode", s.nextCode(2) / 1000, weekdays[day]);
            C.due("weekday of day " + day + " by come", s.come(0, 2) / 1000, weekdays[day]);
            s.pass(1);
        }
        C.due("day 9996 = 7 * 1428", s.codeOf(9996, 0, 0), 1007);
        C.due("day 9995", s.codeOf(9995, 0, 0), 7009);
        C.due("day 9999", s.codeOf(9999, 0, 0), 4008);
    }

    /** 3 * 1 + 0 + 7 * 1 is 10: the check digit is 0, and not 10; 3 * 7 is 21: it is 9. */
    private static void theCheckDigitIsFrom0To9() {
        ParcelShelves s = new ParcelShelves();
        C.due("codeOf(0, 0, 1)", s.codeOf(0, 0, 1), 1010);
        C.due("codeOf(6, 0, 0)", s.codeOf(6, 0, 0), 7009);
        C.due("codeOf(6, 5, 7)", s.codeOf(6, 5, 7), 7575);
        C.due("codeOf(0, 0, 0)", s.codeOf(0, 0, 0), 1007);
        C.due("isCode(1010)", s.isCode(1010), 1);
        C.due("isCode(1020)", s.isCode(1020), 0);
        C.due("isCode(7009)", s.isCode(7009), 1);
        C.due("isCode(7010)", s.isCode(7010), 0);
        C.due("isCode(7575)", s.isCode(7575), 1);
        C.due("come", s.come(0, 0), 1007);
        C.due("come with check digit 0", s.come(0, 0), 1010);
        C.due("its place", s.parcel(1010, 4), 1);
    }

    private static void theSumIsDivisibleBy10() {
        for (int day = 0; day < 7; day++) {
            ParcelShelves s = new ParcelShelves();
            for (int at = 0; at < 48; at++) {
                int code = Checks.code(day, at / 8, at % 8);
                C.due("codeOf", s.codeOf(day, at / 8, at % 8), code);
                C.due("isCode(" + code + ")", s.isCode(code), 1);
                C.due("one more than " + code, s.isCode(code + 1), 0);
                C.due("one less than " + code, s.isCode(code - 1), 0);
                int next = code % 10 == 9 ? code - 9 : code + 1;
                C.due("the next check digit, " + next, s.isCode(next), 0);
            }
        }
    }

    /** The weekdays 0 and 8, the shelf 6 and the place 8, each with the check digit that would be right. */
    private static void eachNumberOutsideTheRowsIsNoCode() {
        ParcelShelves s = new ParcelShelves();
        for (int weekday = 0; weekday <= 9; weekday++) {
            boolean isOne = weekday >= 1 && weekday <= 7;
            C.due("weekday " + weekday, s.isCode(withCheckDigit(weekday, 2, 3)), isOne ? 1 : 0);
        }
        for (int shelf = 0; shelf <= 9; shelf++) {
            C.due("shelf " + shelf, s.isCode(withCheckDigit(4, shelf, 3)), shelf <= 5 ? 1 : 0);
        }
        for (int place = 0; place <= 9; place++) {
            C.due("place " + place, s.isCode(withCheckDigit(4, 2, place)), place <= 7 ? 1 : 0);
        }
    }

    private static int withCheckDigit(int a, int b, int c) {
        return 1000 * a + 100 * b + 10 * c + (100 - 3 * a - b - 7 * c) % 10;
    }

    /** A weekday comes again after 7, 14 and 21 days: the rest that just allows the code again, and 1 more. */
    private static void aCodeIsGivenAgainFromTheDayOfLeavingPlusTheRest() {
        for (int weeks = 1; weeks <= 2; weeks++) {
            C.due("rest " + 7 * weeks, codeAgain(7 * weeks, 7 * weeks), 1007);
            C.due("rest " + (7 * weeks + 1), codeAgain(7 * weeks + 1, 7 * weeks), 1010);
            C.due("rest " + (7 * weeks - 1), codeAgain(7 * weeks - 1, 7 * weeks), 1007);
        }
        C.due("rest 20 after 14 days", codeAgain(20, 14), 1010);
        C.due("rest 20 after 21 days", codeAgain(20, 21), 1007);
        C.due("rest 0 on the same day", codeAgain(0, 0), 1007);
        C.due("rest 1 on the same day", codeAgain(1, 0), 1010);
    }

    /** Which code a parcel gets some days after one was fetched with 1007. */
    private static int codeAgain(int rest, int days) {
        ParcelShelves s = new ParcelShelves();
        s.set(0, rest);
        s.fetch(s.come(0, 0));
        Checks.passDays(s, days);
        int next = s.nextCode(0);
        int code = s.come(0, 0);
        C.due("nextCode() as come()", next, code);
        return code;
    }

    private static void theRestIsFrom0To20And5AtTheBeginning() {
        ParcelShelves s = new ParcelShelves();
        C.due("setting(0)", s.setting(0), 5);
        s.fetch(s.come(0, 0));
        C.due("5 at the beginning", s.restsUntil(1007), 5);
        C.due("set(0, -1)", s.set(0, -1), -2);
        C.due("set(0, 21)", s.set(0, 21), -2);
        C.due("set(0, 20)", s.set(0, 20), 5);
        C.due("20", s.restsUntil(1007), 20);
        C.due("set(0, 1)", s.set(0, 1), 20);
        C.due("1", s.restsUntil(1007), 1);
        C.due("set(0, 0)", s.set(0, 0), 1);
        C.due("0", s.restsUntil(1007), -6);
    }

    /** It came on day 0 and left on day 1: with rest 6 the code is given again on day 7, with rest 7 it is not. */
    private static void theRestCountsFromTheDayOfLeaving() {
        for (int rest = 6; rest <= 7; rest++) {
            ParcelShelves s = new ParcelShelves();
            s.set(0, rest);
            s.come(0, 0);
            s.pass(1);
            s.fetch(1007);
            C.due("restsUntil", s.restsUntil(1007), 1 + rest);
            s.pass(6);
            C.due("rest " + rest, s.come(0, 0), rest == 6 ? 1007 : 1010);
        }
    }

    private static void restsUntilItsLastDay() {
        ParcelShelves s = new ParcelShelves();
        s.fetch(s.come(0, 0));
        s.pass(4);
        C.due("day 4", s.restsUntil(1007), 5);
        s.pass(1);
        C.due("day 5", s.restsUntil(1007), -6);
        C.due("a code that no parcel had", s.restsUntil(1010), -6);
        C.due("a number that is no code", s.restsUntil(1008), -6);
    }

    /** It leaves on day 0 and on day 7: not day 0 counts, and not both. */
    private static void onlyTheLatestDayOfLeavingCounts() {
        ParcelShelves s = new ParcelShelves();
        s.fetch(s.come(0, 0));
        s.pass(7);
        C.due("given again", s.come(0, 0), 1007);
        s.fetch(1007);
        C.due("restsUntil", s.restsUntil(1007), 12);
        s.set(0, 7);
        s.pass(7);
        C.due("day 14, the latest was day 7", s.come(0, 0), 1007);
        s.fetch(1007);
        s.set(0, 20);
        s.pass(14);
        C.due("day 28, the latest was day 14", s.nextCode(0), 1010);
        s.pass(7);
        C.due("day 35", s.nextCode(0), 1007);
    }

    /** It may be given again while the rest is short; then the rest becomes longer. */
    private static void aCodeThatIsGivenAgainRestsByItsLatestLeaving() {
        ParcelShelves s = new ParcelShelves();
        s.set(0, 0);
        s.fetch(s.come(0, 0));
        s.come(0, 0);
        s.set(0, 20);
        C.due("by the leaving of day 0", s.restsUntil(1007), 20);
        s.pass(3);
        s.fetch(1007);
        C.due("by the leaving of day 3", s.restsUntil(1007), 23);
    }

    private static void aCodeRestsHoweverItsParcelLeaves() {
        ParcelShelves s = new ParcelShelves();
        s.set(3, 2);
        Checks.comeOften(s, 4, 0, 0);
        s.pass(1);
        s.fetch(1007);
        s.refuse(1010);
        s.move(1023, 5);
        C.due("fetched", s.restsUntil(1007), 6);
        C.due("refused", s.restsUntil(1010), 6);
        C.due("moved", s.restsUntil(1023), 6);
        C.due("the new code of the moved one", s.restsUntil(Checks.code(1, 5, 0)), -6);
        C.due("still there", s.restsUntil(1036), -6);
        C.due("both kept too long", s.pass(2), 2);
        C.due("returned on day 3", s.restsUntil(1036), 8);
        C.due("moved, then returned", s.restsUntil(Checks.code(1, 5, 0)), 8);
        C.due("its first code rests as before", s.restsUntil(1023), 6);
    }

    private static void aParcelGetsTheFirstPlaceOfTheOrder() {
        ParcelShelves s = new ParcelShelves();
        s.set(0, 0);
        Checks.comeOften(s, 48, 0, 0);
        int[] left = {47, 40, 33, 31, 17, 16, 15, 8, 7, 1, 0};
        for (int at : left) {
            s.fetch(Checks.code(0, at / 8, at % 8));
        }
        for (int i = left.length - 1; i >= 0; i--) {
            C.due("small, no " + i, s.come(0, 0), Checks.code(0, left[i] / 8, left[i] % 8));
        }
        for (int at : left) {
            s.fetch(Checks.code(0, at / 8, at % 8));
        }
        C.due("large: shelf 4 ahead of shelf 5", s.come(0, 2), Checks.code(0, 4, 1));
        C.due("middle: size 1 ahead of size 2", s.come(0, 1), Checks.code(0, 2, 0));
        C.due("middle: lower places first", s.come(0, 1), Checks.code(0, 2, 1));
        C.due("middle: then the next shelf", s.come(0, 1), Checks.code(0, 3, 7));
        C.due("middle: then the large ones", s.come(0, 1), Checks.code(0, 5, 0));
        C.due("middle: the last place", s.come(0, 1), Checks.code(0, 5, 7));
        C.due("middle: none", s.come(0, 1), -4);
        C.due("small: there are some", s.come(0, 0), Checks.code(0, 0, 0));
    }

    private static void takenAndRestingPlacesAreLeftOut() {
        ParcelShelves s = new ParcelShelves();
        Checks.comeOften(s, 3, 0, 0);
        s.fetch(1007);
        s.fetch(1023);
        C.due("rests, taken, rests, free", s.come(0, 0), 1036);
        s = new ParcelShelves();
        for (int i = 0; i < 16; i++) {
            s.fetch(s.come(0, 0));
        }
        C.due("all small ones rest: a middle place", s.come(0, 0), Checks.code(0, 2, 0));
    }

    private static void codesOfOtherWeekdaysDoNotKeepAPlace() {
        ParcelShelves s = new ParcelShelves();
        s.set(0, 20);
        s.set(3, 20);
        for (int day = 0; day < 7; day++) {
            C.due("come on day " + day, s.come(0, 0), Checks.code(day, 0, 0));
            s.fetch(Checks.code(day, 0, 0));
            C.due("the same day: the next place", s.nextCode(0), Checks.code(day, 0, 1));
            s.pass(1);
        }
        C.due("day 7: the code of day 0 rests", s.nextCode(0), Checks.code(0, 0, 1));
    }
}
