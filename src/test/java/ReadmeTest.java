/** The example of README.md, call by call. */
public final class ReadmeTest {
    private static final Check CHECK = new Check();

    public static void main(String[] args) {
        example();
        CHECK.finish();
    }

    private static void tape(RecastStage stage, String text) {
        for (int from = 0; from < text.length(); from += 20) {
            int[] five = new int[5];
            for (int k = 0; k < 20; k++) {
                int sign = from + k < text.length() ? text.charAt(from + k) : ' ';
                five[k / 4] = five[k / 4] << 8 | sign;
            }
            stage.feed(five[0], five[1], five[2], five[3], five[4]);
        }
        stage.end(text.length());
    }

    private static void example() {
        RecastStage stage = new RecastStage();
        tape(stage, "part king 5; part fool 2; fact knife; clears knife fool;"
                + "man ann 7 3; man bob 5 2; man cid 2 9; likes ann king 4; likes cid fool 5; likes bob king 6;"
                + "act; scene king fool; shows knife; act; scene king;");
        CHECK.due("play()", stage.play(), 15);
        CHECK.due("why(2, 0)", stage.why(2, 0), 4);
        CHECK.due("best()", stage.best(), 11);
        CHECK.due("bestAs(0)", stage.bestAs(0), 1);
        CHECK.due("cast(0, 0)", stage.cast(0, 0), 0);
        CHECK.due("cast(2, 1)", stage.cast(2, 1), 0);
        CHECK.due("curtain()", stage.curtain(), 1);
        CHECK.due("now(1)", stage.now(1), 9);
        CHECK.due("suspects(1)", stage.suspects(1), 1);
        tape(stage, "bob as king; curtain;");
        CHECK.due("book(1)", stage.book(1), -1);
        CHECK.due("now(2)", stage.now(2), 2);
        tape(stage, "sure and not rested");
        CHECK.due("sentence()", stage.sentence(), 3);
        CHECK.due("said(NONE)", stage.said(RecastStage.NONE), 1);
        CHECK.due("said(0)", stage.said(0), 1);
        CHECK.due("undo()", stage.undo(), 3);
    }
}
