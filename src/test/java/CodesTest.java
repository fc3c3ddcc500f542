/** Promises 17 to 19: isCode, codeOf, restsUntil. */
public final class CodesTest {
    private static final Checks C = new Checks("CodesTest");

    public static void main(String[] args) {
        promise17IsCode();
        promise18CodeOf();
        promise19RestsUntil();
        C.end();
    }

    private static boolean fitsTheWords(int a, int b, int c, int d) {
        return a >= 1 && a <= 7 && b <= 5 && c <= 7 && (3 * a + b + 7 * c + d) % 10 == 0;
    }

    private static void promise17IsCode() {
        ParcelShelves s = new ParcelShelves();
        int codes = 0;
        for (int code = 0; code <= 9999; code++) {
            boolean isOne = fitsTheWords(code / 1000, code / 100 % 10, code / 10 % 10, code % 10);
            int answer = new ParcelShelves().isCode(code);
            C.due("isCode(" + code + ")", answer, isOne ? 1 : 0);
            codes += answer;
        }
        C.due("codes in all", codes, 336);
        C.due("isCode(-1)", s.isCode(-1), -2);
        C.due("isCode(10000)", s.isCode(10000), -2);
        C.due("isCode(11007)", s.isCode(11007), -2);
        C.due("isCode(min)", s.isCode(Integer.MIN_VALUE), -2);
    }

    private static void promise18CodeOf() {
        ParcelShelves s = new ParcelShelves();
        for (int day = 0; day <= 9999; day += (day < 14 ? 1 : 101)) {
            s = new ParcelShelves();
            for (int shelf = 0; shelf < 6; shelf++) {
                for (int place = 0; place < 8; place++) {
                    int code = s.codeOf(day, shelf, place);
                    C.due("weekday", code / 1000, day % 7 + 1);
                    C.due("shelf", code / 100 % 10, shelf);
                    C.due("place", code / 10 % 10, place);
                    C.due("isCode", s.isCode(code), 1);
                }
            }
        }
        C.due("codeOf(9999, 5, 7)", s.codeOf(9999, 5, 7), 4574);
        C.due("codeOf(0, -1, 0)", s.codeOf(0, -1, 0), -1);
        C.due("codeOf(0, 6, 0)", s.codeOf(0, 6, 0), -1);
        C.due("codeOf(0, 0, -1)", s.codeOf(0, 0, -1), -1);
        C.due("codeOf(0, 0, 8)", s.codeOf(0, 0, 8), -1);
        C.due("codeOf(-1, 0, 8)", s.codeOf(-1, 0, 8), -1);
        C.due("codeOf(-1, 0, 0)", s.codeOf(-1, 0, 0), -2);
        C.due("codeOf(10000, 0, 0)", s.codeOf(10000, 0, 0), -2);
        C.due("codeOf(min, 0, 0)", s.codeOf(Integer.MIN_VALUE, 0, 0), -2);
    }

    private static void promise19RestsUntil() {
        ParcelShelves s = new ParcelShelves();
        C.due("never given", s.restsUntil(1007), -6);
        C.due("no code", s.restsUntil(1008), -6);
        C.due("0", s.restsUntil(0), -6);
        C.due("9999", s.restsUntil(9999), -6);
        C.due("-1", s.restsUntil(-1), -2);
        C.due("10000", s.restsUntil(10000), -2);
        C.due("min", s.restsUntil(Integer.MIN_VALUE), -2);
        s.come(0, 0);
        C.due("a parcel has it", s.restsUntil(1007), -6);
        s.pass(2);
        s.fetch(1007);
        C.due("day 2", s.restsUntil(1007), 7);
        s.pass(4);
        C.due("day 6", s.restsUntil(1007), 7);
        s.set(0, 4);
        C.due("day 6, rest 4", s.restsUntil(1007), -6);
        s.undo();
        s.pass(1);
        C.due("day 7", s.restsUntil(1007), -6);
        s.set(0, 20);
        C.due("rest 20", s.restsUntil(1007), 22);
        s.set(0, 6);
        C.due("rest 6", s.restsUntil(1007), 8);
        s.set(0, 0);
        C.due("rest 0", s.restsUntil(1007), -6);
    }
}
