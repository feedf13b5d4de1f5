/** Counts the answers that are not as due, and types texts. */
final class Due {
    static final long NINES = 0x3939393939393939L;

    private int wrong = 0;
    private int asked = 0;

    void is(String call, long got, long want) {
        asked++;
        if (got != want) {
            wrong++;
            System.out.println(call + " answered " + got + ", due is " + want);
        }
    }

    void end(String name) {
        System.out.println(name + ": " + asked + " answers, " + wrong + " not as due");
        if (wrong != 0) {
            System.exit(1);
        }
    }

    int wrong() {
        return wrong;
    }

    static long bytes(String text) {
        long w = 0;
        for (int i = 0; i < text.length(); i++) {
            w = w << 8 | text.charAt(i);
        }
        return w;
    }

    static void type(DeltaRoad x, String text) {
        for (int i = 0; i < text.length(); i += 8) {
            String part = text.substring(i, Math.min(text.length(), i + 8));
            if (x.type(bytes(part), part.length()) < 0) {
                throw new IllegalStateException("not typed: " + text);
            }
        }
    }

    static int delta(DeltaRoad x, String text) {
        type(x, text);
        return x.delta();
    }

    static int villages(DeltaRoad x, String text) {
        type(x, text);
        return x.villages();
    }
}
