/** A text as what sign() takes. */
final class Texts {
    private Texts() {
    }

    /** Four signs an int, the highest byte first; 0 behind the end. */
    static int[] fours(String t) {
        int[] all = new int[(t.length() + 3) / 4];
        for (int p = 0; p < 4 * all.length; p++) {
            all[p / 4] = all[p / 4] << 8 | (p < t.length() ? t.charAt(p) & 255 : 0);
        }
        return all;
    }

    static void tell(LoopsToUnits x, String t) {
        for (int v : fours(t)) {
            x.sign(v);
        }
        x.end(t.length());
    }
}
