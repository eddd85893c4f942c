import java.nio.charset.StandardCharsets;

/** What the tests share: answers that are due, and texts put on the tape. */
final class Due {
    private int asked;
    private int wrong;
    private String sentence = "";

    /** What comes next is for these words of the document, which must stand there. */
    void by(String part, String words) {
        sentence = part + ", '" + words + "': ";
        is("the sentence stands there", Document.says(part, words), true);
    }

    void is(String call, long got, long want) {
        asked++;
        if (got != want) {
            wrong++;
            if (wrong <= 40) {
                System.out.println(sentence + call + " answered " + got + ", due is " + want);
            }
        }
    }

    void is(String call, boolean got, boolean want) {
        is(call, got ? 1 : 0, want ? 1 : 0);
    }

    int wrongs() {
        return wrong;
    }

    void end() {
        System.out.println(asked + " answers, " + wrong + " of them not as due");
        if (wrong != 0 || asked == 0) {
            System.exit(1);
        }
    }

    /** The five ints of each twenty bytes, filled up with the letter a. */
    static int[] ints(byte[] bytes) {
        int[] ints = new int[(bytes.length + 19) / 20 * 5];
        for (int k = 0; k < ints.length * 4; k++) {
            int b = k < bytes.length ? bytes[k] & 255 : 'a';
            ints[k / 4] |= b << (24 - 8 * (k % 4));
        }
        return ints;
    }

    static void feed(SlideNight night, byte[] bytes) {
        int[] v = ints(bytes);
        for (int k = 0; k < v.length; k += 5) {
            night.feed(v[k], v[k + 1], v[k + 2], v[k + 3], v[k + 4]);
        }
    }

    static void feed(SlideNight night, String text) {
        feed(night, text.getBytes(StandardCharsets.ISO_8859_1));
    }

    static void feed(SlideNight night, int... bytes) {
        byte[] row = new byte[bytes.length];
        for (int k = 0; k < bytes.length; k++) {
            row[k] = (byte) bytes[k];
        }
        feed(night, row);
    }

    static int law(SlideNight night, String text) {
        feed(night, text);
        return night.law(text.length());
    }

    static int tray(SlideNight night, String text) {
        feed(night, text);
        return night.tray(text.length());
    }

    static boolean slide(SlideNight night, int i, String picture, int kind, int maker, int worth) {
        feed(night, picture);
        return night.slide(i, kind, maker, worth);
    }

    /** X as it is so many DRAWS on. */
    static int draw(int x, int times) {
        int at = x;
        for (int k = 0; k < times; k++) {
            at = (25173 * at + 13849) % 65536;
        }
        return at;
    }

    /** Numbers beyond two bounds: the next ones, the outermost ones, and those that look alike in few bits. */
    static int[] beyond(int least, int most) {
        return new int[] {least - 1, most + 1, Integer.MIN_VALUE, Integer.MAX_VALUE, Integer.MIN_VALUE + most,
            least + (1 << 16), least - (1 << 16), least + (1 << 30)};
    }

    /** No two WAYS of this one are ALIKE. */
    static final String UNLIKE = "ab.......................";
    /** Its corner stays where it is by WAY 7, too. */
    static final String CORNER = "a........................";
    /** Alike by all WAYS. */
    static final String PLAIN = ".........................";
    /** Alike by half a turn. */
    static final String HALF = "ab.....................ba";
    /** Alike left for right. */
    static final String UPRIGHT = "..a...bbb................";

    /** Slides 0 to n - 1, none of which is alike by two WAYS. */
    static SlideNight withSlides(int n) {
        SlideNight night = new SlideNight();
        for (int i = 0; i < n; i++) {
            slide(night, i, UNLIKE, i % 4, i / 4 % 4, i);
        }
        return night;
    }
}
