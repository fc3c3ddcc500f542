/** The range of each argument of each method: its lowest and highest value, and the values one beyond and far off. */
public final class RangesTest {
    private static final Checks C = new Checks("RangesTest");
    private static final int NO_SUCH = -1;
    private static final int BAD_VALUE = -2;

    /** A call with one argument that is tried out; each time on a new shop. */
    interface Call {
        int with(ParcelShelves shop, int argument);
    }

    public static void main(String[] args) {
        promises2And3();
        promises4To9();
        promises11To16();
        promises17To19();
        promises20To23();
        promise24();
        codesWithoutParcel();
        C.end();
    }

    private static void range(String name, int lowest, int highest, int error, Call call) {
        int[] outside = {lowest - 1, highest + 1, lowest - 10000, highest + 10000, highest + 65536,
            Integer.MIN_VALUE, Integer.MIN_VALUE + 1, Integer.MAX_VALUE};
        for (int argument : outside) {
            C.due(name + " with " + argument, call.with(shop(), argument), error);
        }
        for (int argument = lowest; argument <= highest; argument += Math.max(1, (highest - lowest) / 9)) {
            inside(name, argument, call);
        }
        inside(name, highest, call);
    }

    private static void inside(String name, int argument, Call call) {
        int answer = call.with(shop(), argument);
        C.due(name + " with " + argument + ": is an error (" + answer + ")", answer < 0 && answer >= -5 ? 1 : 0, 0);
    }

    /** On each shelf a parcel of size 0, in each bin one. */
    private static ParcelShelves shop() {
        ParcelShelves shop = new ParcelShelves();
        for (int sender = 0; sender < 10; sender++) {
            Checks.fillBin(shop, sender, 1);
        }
        shop.pass(1);
        shop.set(0, 0);
        for (int shelf = 5; shelf >= 1; shelf--) {
            shop.move(shop.come(shelf, 0), shelf);
        }
        shop.come(0, 0);
        return shop;
    }

    private static void promises2And3() {
        range("set(.., 1)", 0, 4, BAD_VALUE, (s, x) -> s.set(x, 1));
        range("set(0, ..)", 0, 20, BAD_VALUE, (s, x) -> s.set(0, x));
        range("set(1, ..)", 0, 9, BAD_VALUE, (s, x) -> s.set(1, x));
        range("set(2, ..)", 0, 50, BAD_VALUE, (s, x) -> s.set(2, x));
        range("set(3, ..)", 1, 20, BAD_VALUE, (s, x) -> s.set(3, x));
        range("set(4, ..)", 1, 9, BAD_VALUE, (s, x) -> s.set(4, x));
        range("setting(..)", 0, 4, BAD_VALUE, (s, x) -> s.setting(x));
    }

    private static void promises4To9() {
        range("come(.., 0)", 0, 9, NO_SUCH, (s, x) -> s.come(x, 0));
        range("come(0, ..)", 0, 2, BAD_VALUE, (s, x) -> s.come(0, x));
        range("fetch(..)", 0, 9999, BAD_VALUE, (s, x) -> s.fetch(x));
        range("move(on 0, ..)", 1, 5, NO_SUCH, (s, x) -> s.move(s.codeAt(0, 0), x == 0 ? -1 : x));
        range("move(on 5, ..)", 0, 4, NO_SUCH, (s, x) -> s.move(s.codeAt(5, 0), x == 5 ? 6 : x));
        range("pass(..)", 1, 30, BAD_VALUE, (s, x) -> s.pass(x));
        range("call(..)", 0, 9, NO_SUCH, (s, x) -> s.call(x));
    }

    private static void promises11To16() {
        range("parcel(with code, ..)", 0, 5, BAD_VALUE, (s, x) -> s.parcel(s.codeAt(5, 0), x));
        range("codeAt(.., 0)", 0, 5, NO_SUCH, (s, x) -> s.codeAt(x, 0));
        range("codeAt(0, ..)", 0, 7, NO_SUCH, (s, x) -> s.codeAt(0, x));
        range("codeAt(5, ..)", 0, 7, NO_SUCH, (s, x) -> s.codeAt(5, x));
        range("shelf(.., 1)", 0, 5, NO_SUCH, (s, x) -> s.shelf(x, 1));
        range("shelf(0, ..)", 0, 2, BAD_VALUE, (s, x) -> s.shelf(0, x));
        range("shelf(5, ..)", 0, 2, BAD_VALUE, (s, x) -> s.shelf(5, x));
        range("sender(.., 1)", 0, 9, NO_SUCH, (s, x) -> s.sender(x, 1));
        range("sender(0, ..)", 0, 4, BAD_VALUE, (s, x) -> s.sender(0, x));
        range("sender(9, ..)", 0, 4, BAD_VALUE, (s, x) -> s.sender(9, x));
        range("total(..)", 0, 9, BAD_VALUE, (s, x) -> s.total(x));
        range("refusal(..)", 0, 1, BAD_VALUE, (s, x) -> s.refusal(x));
    }

    private static void promises17To19() {
        range("isCode(..)", 0, 9999, BAD_VALUE, (s, x) -> s.isCode(x));
        range("codeOf(.., 0, 0)", 0, 9999, BAD_VALUE, (s, x) -> s.codeOf(x, 0, 0));
        range("codeOf(.., 5, 7)", 0, 9999, BAD_VALUE, (s, x) -> s.codeOf(x, 5, 7));
        range("codeOf(0, .., 0)", 0, 5, NO_SUCH, (s, x) -> s.codeOf(0, x, 0));
        range("codeOf(0, 0, ..)", 0, 7, NO_SUCH, (s, x) -> s.codeOf(0, 0, x));
        range("codeOf(0, 5, ..)", 0, 7, NO_SUCH, (s, x) -> s.codeOf(0, 5, x));
        range("restsUntil(..)", 0, 9999, BAD_VALUE, (s, x) -> s.restsUntil(x));
    }

    private static void promises20To23() {
        range("nextCode(..)", 0, 2, BAD_VALUE, (s, x) -> s.nextCode(x));
        range("feeIn(with code, ..)", 0, 99, BAD_VALUE, (s, x) -> s.feeIn(s.codeAt(5, 0), x));
        range("chargesIn(..)", 1, 30, BAD_VALUE, (s, x) -> s.chargesIn(x));
    }

    private static void promise24() {
        range("append(..)", 33, 126, BAD_VALUE, (s, x) -> s.append(x));
        for (int sign = 33; sign <= 126; sign++) {
            C.due("append(" + sign + ")", shop().append(sign), 1);
        }
    }

    /** "code of a parcel" has no range: each number without a parcel is NO_SUCH. */
    private static void codesWithoutParcel() {
        int[] codes = {-1, 0, 1, 999, 1008, 8000, 9999, 10000, 11007, 1007 + 65536, -1007,
            Integer.MIN_VALUE, Integer.MAX_VALUE};
        for (int code : codes) {
            C.due("refuse(" + code + ")", shop().refuse(code), NO_SUCH);
            C.due("move(" + code + ", 3)", shop().move(code, 3), NO_SUCH);
            C.due("parcel(" + code + ", 0)", shop().parcel(code, 0), NO_SUCH);
            C.due("feeIn(" + code + ", 0)", shop().feeIn(code, 0), NO_SUCH);
            C.due("goesIn(" + code + ")", shop().goesIn(code), NO_SUCH);
        }
    }
}
