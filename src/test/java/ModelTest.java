/** Long runs of calls, the same ones on every machine, answered by the class and by NaiveShop. */
public final class ModelTest {
    private static final int RUNS = 400;
    private static final int CALLS = 512;
    private static final String[] NAMES = {"set", "come", "fetch", "refuse", "move", "pass", "day", "parcel",
        "codeAt", "shelf", "sender", "total", "refusal", "isCode", "codeOf", "restsUntil", "nextCode", "feeIn",
        "goesIn", "chargesIn", "append", "clearText", "errorPosition", "execute", "undo", "save", "restore",
        "setting", "call"};
    private static final Checks C = new Checks("ModelTest");

    private static long seed;
    private static ParcelShelves shop;
    private static NaiveShop naive;
    private static int calls;
    private static String where;

    public static void main(String[] args) {
        for (int run = 0; run < RUNS; run++) {
            seed = 77L * run + 1;
            shop = new ParcelShelves();
            naive = new NaiveShop();
            calls = 0;
            oneRun(run);
        }
        C.end();
    }

    /** Each run likes other calls: many parcels of few senders, long rests, many wrong codes, texts, long times. */
    private static void oneRun(int run) {
        where = "run " + run + " beginning ";
        int senders = run % 3 == 0 ? 1 : run % 3 == 1 ? 3 : 10;
        int longDays = run % 5 == 4 ? 30 : run % 5 == 3 ? 8 : 3;
        if (run % 2 == 0) {
            both(0, 0, run % 4 == 0 ? 20 : 0, 0);
        }
        if (run % 7 == 3) {
            for (int i = 0; i < 332; i++) {
                both(5, 30, 0, 0);
            }
        }
        while (calls < CALLS) {
            where = "run " + run + " call " + calls + " ";
            step(senders, longDays);
        }
    }

    private static void step(int senders, int longDays) {
        int kind = random(100);
        if (kind < 22) {
            both(1, random(senders), random(3), 0);
        } else if (kind < 30) {
            both(2, someCode(), 0, 0);
        } else if (kind < 36) {
            both(3, someCode(), 0, 0);
        } else if (kind < 44) {
            both(4, someCode(), random(6), 0);
        } else if (kind < 50) {
            both(5, 1 + random(longDays), 0, 0);
        } else if (kind < 53) {
            both(0, random(5), random(10), 0);
        } else if (kind < 56) {
            both(24, 0, 0, 0);
        } else if (kind < 58) {
            both(25 + random(2), 0, 0, 0);
        } else if (kind < 61) {
            both(28, random(senders), 0, 0);
        } else if (kind < 64) {
            text(senders);
        } else if (kind < 68) {
            both(random(29), odd(), odd(), odd());
        } else {
            ask(senders);
        }
    }

    private static void ask(int senders) {
        int method = 6 + random(14);
        int a = random(10);
        int b = random(8);
        int c = random(8);
        if (method == 7 || method == 17 || method == 18 || method == 15 || method == 13) {
            a = someCode();
        }
        if (method == 10) {
            a = random(senders);
        }
        if (method == 14) {
            a = random(10000);
            b = random(6);
        }
        if (method == 17) {
            b = random(100);
        }
        if (method == 19) {
            a = 1 + random(30);
        }
        both(method, a, b, c);
    }

    /** Mostly commands that can be executed; at times a sign is wrong. */
    private static void text(int senders) {
        both(21, 0, 0, 0);
        StringBuilder text = new StringBuilder();
        int commands = 1 + random(6);
        for (int i = 0; i < commands; i++) {
            if (i > 0) {
                text.append(';');
            }
            String code = String.format("%04d", Math.max(0, someCode()));
            switch (random(6)) {
                case 0: text.append('p').append(code); break;
                case 1: text.append('x').append(code); break;
                case 2: text.append('m').append(code).append('>').append(random(6)); break;
                case 3: text.append('d').append(1 + random(30)); break;
                default: text.append('a').append(random(senders)).append("sml".charAt(random(3))); break;
            }
        }
        if (random(3) == 0) {
            text.setCharAt(random(text.length()), "apxmdsl;>0123456789".charAt(random(19)));
        }
        if (random(6) == 0) {
            text.setLength(random(text.length()));
        }
        for (int i = 0; i < text.length() && calls < CALLS; i++) {
            both(20, text.charAt(i), 0, 0);
            if (random(8) == 0) {
                both(22, 0, 0, 0);
            }
        }
        both(22, 0, 0, 0);
        both(23, 0, 0, 0);
        both(12, 0, 0, 0);
        both(12, 1, 0, 0);
    }

    /** Mostly the code of a parcel, otherwise one that may rest, a right one, or any number. */
    private static int someCode() {
        int kind = random(20);
        if (kind < 14) {
            int first = random(48);
            for (int i = 0; i < 48; i++) {
                int at = (first + i) % 48;
                int code = naive.answer(8, at / 8, at % 8, 0);
                if (code > 0) {
                    return code;
                }
            }
        }
        if (kind < 19) {
            return naive.answer(14, random(7), random(6), random(8));
        }
        return random(10000);
    }

    private static int odd() {
        int[] odd = {-1, 0, 1, 2, 3, 5, 6, 7, 8, 9, 10, 20, 21, 30, 31, 33, 99, 100, 126, 127, 9999, 10000,
            1007, Integer.MAX_VALUE, Integer.MIN_VALUE};
        return odd[random(odd.length)];
    }

    private static int random(int below) {
        seed = seed * 6364136223846793005L + 1442695040888963407L;
        return (int) ((seed >>> 33) % below);
    }

    private static void both(int method, int a, int b, int c) {
        if (calls >= CALLS) {
            return;
        }
        calls++;
        int want = naive.answer(method, a, b, c);
        int got = call(method, a, b, c);
        C.due(where + NAMES[method] + "(" + a + ", " + b + ", " + c + ")", got, want);
    }

    private static int call(int method, int a, int b, int c) {
        switch (method) {
            case 0: return shop.set(a, b);
            case 1: return shop.come(a, b);
            case 2: return shop.fetch(a);
            case 3: return shop.refuse(a);
            case 4: return shop.move(a, b);
            case 5: return shop.pass(a);
            case 6: return shop.day();
            case 7: return shop.parcel(a, b);
            case 8: return shop.codeAt(a, b);
            case 9: return shop.shelf(a, b);
            case 10: return shop.sender(a, b);
            case 11: return shop.total(a);
            case 12: return shop.refusal(a);
            case 13: return shop.isCode(a);
            case 14: return shop.codeOf(a, b, c);
            case 15: return shop.restsUntil(a);
            case 16: return shop.nextCode(a);
            case 17: return shop.feeIn(a, b);
            case 18: return shop.goesIn(a);
            case 19: return shop.chargesIn(a);
            case 20: return shop.append(a);
            case 21: return shop.clearText();
            case 22: return shop.errorPosition();
            case 23: return shop.execute();
            case 24: return shop.undo();
            case 25: return shop.save();
            case 26: return shop.restore();
            case 27: return shop.setting(a);
            default: return shop.call(a);
        }
    }
}
