import java.nio.charset.StandardCharsets;
import java.util.NoSuchElementException;

/** What all tests share: texts told to a tape, answers counted that are not as due. */
final class Check {
    private int wrong = 0;
    private int asked = 0;

    void due(String call, long got, long want) {
        asked++;
        if (got != want) {
            wrong++;
            System.out.println(call + " answered " + got + ", due is " + want);
        }
    }

    void due(String call, boolean got, boolean want) {
        due(call, got ? 1 : 0, want ? 1 : 0);
    }

    /** The run of answers of one kind of call, written with blanks. */
    void row(String call, String got, String want) {
        asked++;
        if (!got.equals(want)) {
            wrong++;
            System.out.println(call + " answered " + got + ", due is " + want);
        }
    }

    void throwsNoSuch(String call, RecastStage x, int m, int what) {
        boolean thrown = false;
        try {
            x.man(m, what);
        } catch (NoSuchElementException e) {
            thrown = true;
        }
        due(call + " throws", thrown, true);
    }

    void finish() {
        System.out.println(wrong == 0 ? asked + " answers are as due" : wrong + " answers are not as due");
        if (wrong != 0) {
            System.exit(1);
        }
    }

    /** Puts a text behind what the empty tape has. */
    static void tape(RecastStage x, String text) {
        byte[] bytes = text.getBytes(StandardCharsets.ISO_8859_1);
        for (int from = 0; from < bytes.length; from += 20) {
            int[] five = new int[5];
            for (int k = 0; k < 20; k++) {
                int b = from + k < bytes.length ? bytes[from + k] & 255 : 0;
                five[k / 4] = five[k / 4] << 8 | b;
            }
            if (x.feed(five[0], five[1], five[2], five[3], five[4]) == RecastStage.NONE) {
                throw new IllegalStateException("the text is too long for a tape");
            }
        }
        if (!x.end(bytes.length)) {
            throw new IllegalStateException("the tape is not empty ahead of a text");
        }
    }

    static int play(RecastStage x, String text) {
        tape(x, text);
        return x.play();
    }

    static int book(RecastStage x, String text, int lives) {
        tape(x, text);
        return x.book(lives);
    }

    static int sentence(RecastStage x, String text) {
        tape(x, text);
        return x.sentence();
    }

    static RecastStage stage(String text) {
        RecastStage x = new RecastStage();
        if (play(x, text) < 0) {
            throw new IllegalStateException("fault " + x.fault() + " in " + text);
        }
        return x;
    }

    static String times(String text, int n) {
        return text.repeat(n);
    }
}
