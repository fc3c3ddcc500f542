/** Counts and prints the answers that are not as due, for one test program. */
final class Checks {
    private final String program;
    private int checked;
    private int wrong;

    Checks(String program) {
        this.program = program;
    }

    void due(String call, long got, long want) {
        checked++;
        if (got != want) {
            wrong++;
            System.out.println(program + ": " + call + " answered " + got + ", due is " + want);
        }
    }

    /** That two stories leave a shop in which every question is answered alike. */
    void alike(String what, Picture.Story one, Picture.Story other) {
        int[] seen = Picture.of(one);
        int[] want = Picture.of(other);
        due(what + ": answers in the picture", seen.length, want.length);
        for (int i = 0; i < seen.length && i < want.length; i++) {
            due(what + ": answer " + i + " of the picture", seen[i], want[i]);
        }
    }

    void end() {
        System.out.println(program + ": " + checked + " answers checked, " + wrong + " not as due");
        if (wrong != 0 || checked == 0) {
            System.exit(1);
        }
    }

    /** The code of a day, a shelf and a place, by the words of the document. */
    static int code(int day, int shelf, int place) {
        int weekday = day % 7 + 1;
        int d = 0;
        while ((3 * weekday + shelf + 7 * place + d) % 10 != 0) {
            d++;
        }
        return 1000 * weekday + 100 * shelf + 10 * place + d;
    }

    /** Appends a text, sign by sign. */
    static void write(ParcelShelves shop, String text) {
        for (int i = 0; i < text.length(); i++) {
            shop.append(text.charAt(i));
        }
    }

    /** Empties the buffer, writes a text and executes it. */
    static int run(ParcelShelves shop, String text) {
        shop.clearText();
        write(shop, text);
        return shop.execute();
    }

    /** Lets parcels come and returns the code of the last one. */
    static int comeOften(ParcelShelves shop, int times, int sender, int size) {
        int code = ParcelShelves.NONE;
        for (int i = 0; i < times; i++) {
            code = shop.come(sender, size);
        }
        return code;
    }

    /** Lets parcels come and go into the bin of their sender at once. */
    static void fillBin(ParcelShelves shop, int sender, int parcels) {
        for (int i = 0; i < parcels; i++) {
            shop.refuse(shop.come(sender, 0));
        }
    }

    /** Lets many days begin, 30 at once; the last day takes 334 calls of the 512. */
    static void passDays(ParcelShelves shop, int days) {
        for (int left = days; left > 0; left -= 30) {
            shop.pass(Math.min(left, 30));
        }
    }
}
