import java.nio.charset.StandardCharsets;
import java.util.ArrayList;
import java.util.Arrays;
import java.util.List;
import java.util.Random;

/** Long runs of drawn calls against a second, slow way to the same answers (Model). */
public final class ModelTest {
    private static final String[] WORDS = {"part", "fact", "clears", "man", "act", "scene", "shows", "needs", "likes",
        "never", "foes", "rest", "as", "whisper", "curtain", "best", "or", "and", "not", "plays", "rested", "knows",
        "sure", "skill", "times", "claps", "number"};

    public static void main(String[] args) {
        int runs = args.length > 0 ? Integer.parseInt(args[0]) : 400;
        int seed = args.length > 1 ? Integer.parseInt(args[1]) : 7;
        Check check = new Check();
        for (int run = 0; run < runs; run++) {
            new Run(check, new Random(seed * 1000003L + run), run).go();
        }
        check.finish();
    }

    private static final class Run {
        final Check check;
        final Random random;
        final int number;
        final RecastStage x = new RecastStage();
        final Model model = new Model();
        int calls = 0;

        Run(Check check, Random random, int number) {
            this.check = check;
            this.random = random;
            this.number = number;
        }

        void go() {
            tellPlay(false);
            while (calls < 450) {
                step();
            }
        }

        int pick(int n) {
            return random.nextInt(n);
        }

        boolean chance(int percent) {
            return random.nextInt(100) < percent;
        }

        void due(String call, long got, long want) {
            calls++;
            check.due("run " + number + " call " + calls + " " + call, got, want);
        }

        void due(String call, boolean got, boolean want) {
            due(call, got ? 1 : 0, want ? 1 : 0);
        }

        void tape(String text) {
            byte[] bytes = text.getBytes(StandardCharsets.ISO_8859_1);
            Check.tape(x, text);
            calls += (bytes.length + 19) / 20 + 1;
            due("count(6)", x.count(6), bytes.length);
        }

        void tellPlay(boolean mutated) {
            String text = playText();
            if (mutated) {
                text = mutate(text);
            }
            if (text.length() > 940) {
                text = text.substring(0, 940);
            }
            tape(text);
            due("play() of " + text, x.play(), model.play(text));
            due("fault() of " + text, x.fault(), model.fault);
        }

        String name(char from, int n) {
            return String.valueOf((char) (from + pick(Math.max(1, n))));
        }

        String playText() {
            StringBuilder text = new StringBuilder();
            int parts = pick(7);
            int facts = pick(7);
            int men = chance(60) ? 5 + pick(4) : pick(9);
            int hard = chance(50) ? 3 : 10;
            for (int p = 0; p < parts; p++) {
                text.append("part ").append((char) ('a' + p)).append(' ').append(pick(hard)).append(';');
            }
            for (int f = 0; f < facts; f++) {
                text.append("fact ").append((char) ('g' + f)).append(';');
            }
            for (int m = 0; m < men; m++) {
                text.append("man ").append((char) ('m' + m)).append(' ').append(pick(10)).append(' ')
                        .append(1 + pick(9)).append(";\n");
            }
            if (chance(40)) {
                text.append("rest;");
            }
            int acts = pick(7);
            int scenes = 0;
            for (int a = 0; a < acts; a++) {
                text.append("act;");
                int n = parts == 0 ? 0 : chance(10) ? 0 : 1 + pick(3);
                for (int s = 0; s < n && scenes < 12; s++) {
                    scenes++;
                    text.append("scene").append(some('a', parts, 1, 45)).append(';');
                    for (int f = 0; f < facts; f++) {
                        if (chance(25)) {
                            text.append("shows ").append((char) ('g' + f)).append(';');
                        }
                    }
                }
            }
            pairs(text, "clears", 'g', facts, 'a', parts, 12 + pick(30));
            pairs(text, "needs", 'a', parts, 'g', facts, pick(12));
            pairs(text, "never", 'm', men, 'a', parts, pick(15));
            likes(text, men, parts, pick(60));
            foes(text, men, pick(15));
            return text.toString();
        }

        String some(char from, int n, int least, int percent) {
            List<String> all = new ArrayList<>();
            for (int k = 0; k < n; k++) {
                all.add(String.valueOf((char) (from + k)));
            }
            java.util.Collections.shuffle(all, random);
            StringBuilder text = new StringBuilder();
            for (int k = 0; k < n; k++) {
                if (k < least || chance(percent)) {
                    text.append(' ').append(all.get(k));
                }
            }
            return text.toString();
        }

        void pairs(StringBuilder text, String word, char a, int as, char b, int bs, int percent) {
            for (int i = 0; i < as; i++) {
                for (int k = 0; k < bs; k++) {
                    if (chance(percent) && text.length() < 880) {
                        text.append(word).append(' ').append((char) (a + i)).append(' ').append((char) (b + k))
                                .append(';');
                    }
                }
            }
        }

        void likes(StringBuilder text, int men, int parts, int percent) {
            int high = chance(30) ? 2 : 9;
            for (int m = 0; m < men; m++) {
                for (int p = 0; p < parts; p++) {
                    if (chance(percent) && text.length() < 880) {
                        text.append("likes ").append((char) ('m' + m)).append(' ').append((char) ('a' + p)).append(' ')
                                .append(1 + pick(high)).append(';');
                    }
                }
            }
        }

        void foes(StringBuilder text, int men, int percent) {
            for (int m = 0; m < men; m++) {
                for (int n = 0; n < m; n++) {
                    if (chance(percent) && text.length() < 880) {
                        boolean turned = chance(50);
                        text.append("foes ").append((char) ('m' + (turned ? m : n))).append(' ')
                                .append((char) ('m' + (turned ? n : m))).append(';');
                    }
                }
            }
        }

        String mutate(String text) {
            String now = text;
            int n = 1 + pick(2);
            for (int k = 0; k < n; k++) {
                int at = pick(now.length() + 1);
                int to = Math.min(now.length(), at + pick(4));
                now = now.substring(0, at) + piece() + now.substring(chance(50) ? to : at);
            }
            return chance(10) ? now + Check.times(" ", Math.max(0, 930 - now.length())) : now;
        }

        String piece() {
            switch (pick(8)) {
                case 0:
                    return " ";
                case 1:
                    return String.valueOf((char) pick(256));
                case 2:
                    return ";";
                case 3:
                    return " " + WORDS[pick(WORDS.length)] + " ";
                case 4:
                    return String.valueOf(pick(120));
                case 5:
                    return name('a', 26);
                case 6:
                    return String.valueOf("<=>()".charAt(pick(5)));
                default:
                    return " " + WORDS[pick(12)] + " " + name('a', 26) + " " + name('a', 26) + ";";
            }
        }

        int some(int n) {
            return chance(6) ? pick(14) - 3 : pick(Math.max(1, n));
        }

        void step() {
            int kind = pick(100);
            if (kind < 3) {
                tellPlay(chance(60));
            } else if (kind < 35) {
                change();
            } else if (kind < 42) {
                tellBook();
            } else if (kind < 49) {
                tellSentence();
            } else if (kind < 80) {
                askCasts();
            } else {
                askRest();
            }
        }

        void change() {
            int m = some(model.play.men.size());
            int p = some(model.play.parts.size());
            int f = some(model.play.facts.size());
            switch (pick(12)) {
                case 0:
                case 1:
                case 2:
                case 3:
                    for (int k = 0; k < 4; k++) {
                        m = some(model.play.men.size());
                        p = some(model.play.parts.size());
                        due("why(" + m + ", " + p + ")", x.why(m, p), model.why(m, p));
                        due("cast(" + m + ", " + p + ")", x.cast(m, p), model.cast(m, p));
                    }
                    break;
                case 4:
                    due("drop(" + p + ")", x.drop(p), model.drop(p));
                    break;
                case 5:
                    due("curtain()", x.curtain(), model.curtain());
                    break;
                case 6:
                    due("whisper(" + m + ", " + f + ")", x.whisper(m, f), model.whisper(m, f));
                    break;
                case 7:
                case 8:
                    due("undo()", x.undo(), model.undo());
                    break;
                case 9:
                    int seed = random.nextInt();
                    due("drawn(" + seed + ")", x.drawn(seed), model.drawn(seed));
                    break;
                case 10:
                    int k = chance(20) ? pick(5) - 1 : pick(2);
                    due("image(" + k + ")", x.image(k), model.image(k));
                    break;
                default:
                    int place = chance(20) ? pick(5) - 1 : pick(2);
                    due("restore(" + place + ")", x.restore(place), model.restore(place));
            }
            askNow();
        }

        void askNow() {
            for (int w = -1; w < 8; w++) {
                due("now(" + w + ")", x.now(w), model.now(w));
            }
            calls -= 8;
            int m = pick(Math.max(1, model.play.men.size()));
            for (int w = 2; w < 8; w++) {
                if (m < model.play.men.size()) {
                    due("man(" + m + ", " + w + ")", x.man(m, w), model.man(m, w));
                }
            }
            calls -= 4;
        }

        void tellBook() {
            StringBuilder text = new StringBuilder();
            int lines = chance(8) ? 38 + pick(5) : pick(9);
            for (int k = 0; k < lines && text.length() < 390; k++) {
                switch (pick(7)) {
                    case 0:
                        text.append("best; curtain;");
                        k++;
                        break;
                    case 1:
                        text.append("whisper ").append(name('m', model.play.men.size())).append(' ')
                                .append(name('g', model.play.facts.size())).append(';');
                        break;
                    case 2:
                        text.append("curtain;");
                        break;
                    default:
                        text.append(lines > 20 ? "best" : name('m', model.play.men.size()) + " as "
                                + name('a', model.play.parts.size())).append(';');
                }
            }
            String told = chance(30) ? mutate(text.toString()) : text.toString();
            tape(told.length() > 940 ? told.substring(0, 940) : told);
            told = told.length() > 940 ? told.substring(0, 940) : told;
            if (chance(5)) {
                due("book(2)", x.book(2), -1000);
            }
            int lives = pick(2);
            due("book(" + lives + ") of " + told, x.book(lives), model.book(told, lives));
            due("fault() of " + told, x.fault(), model.fault);
            for (int w = -1; w < 5; w++) {
                due("booked(" + w + ")", x.booked(w), model.booked(w));
            }
            askNow();
        }

        void tellSentence() {
            String text = cond(chance(20) ? 9 : 3);
            if (chance(35)) {
                text = mutate(text);
            }
            if (text.length() > 400) {
                text = text.substring(0, 400);
            }
            tape(text);
            due("sentence() of " + text, x.sentence(), model.sentence(text));
            due("fault() of " + text, x.fault(), model.fault);
            askSaid();
        }

        void askSaid() {
            for (int k = -2; k < 4; k++) {
                due("said(" + k + ") of " + model.sentence, x.said(k), model.said(k));
            }
            calls -= 3;
        }

        String cond(int deep) {
            StringBuilder text = new StringBuilder(one(deep));
            int n = pick(3);
            for (int k = 0; k < n; k++) {
                text.append(chance(50) ? " and " : " or ").append(one(deep));
            }
            return text.toString();
        }

        String one(int deep) {
            if (deep > 0 && chance(deep > 5 ? 80 : 45)) {
                return chance(50) ? "not " + one(deep - 1) : "(" + (chance(50) ? one(deep - 1) : cond(deep - 1)) + ")";
            }
            String sign = String.valueOf("<=>".charAt(pick(3)));
            switch (pick(8)) {
                case 0:
                    return "plays";
                case 1:
                    return "rested";
                case 2:
                    return "knows " + name('g', Math.max(1, model.play.facts.size()));
                case 3:
                    return "sure";
                case 4:
                    return "skill" + sign + pick(12);
                case 5:
                    return "times " + sign + pick(4);
                case 6:
                    return "claps" + sign + " " + pick(6);
                default:
                    return "number" + sign + "0" + pick(9);
            }
        }

        void askCasts() {
            switch (pick(8)) {
                case 0:
                    due("best()", x.best(), model.best());
                    for (int p = -1; p < 7; p++) {
                        due("bestAs(" + p + ")", x.bestAs(p), model.bestAs(p));
                    }
                    calls -= 6;
                    break;
                case 1:
                    due("casts()", x.casts(), model.casts());
                    due("surely()", x.surely(), model.surely());
                    break;
                case 2:
                    int men = chance(50) ? model.someCast(pick(50)) : random.nextInt() & 255;
                    due("bowed(" + men + ")", x.bowed(men), model.bowed(men));
                    break;
                case 3:
                    due("lacks()", x.lacks(), model.lacks());
                    due("least()", x.least(), model.least());
                    break;
                case 4:
                    due("whispers()", x.whispers(), model.whispers());
                    break;
                case 5:
                    due("prices()", x.prices(), model.prices());
                    for (int k = -1; k < 9; k++) {
                        due("price(" + k + ")", x.price(k), model.price(k));
                        due("wants(" + k + ")", x.wants(k), model.wants(k));
                    }
                    calls -= 18;
                    break;
                case 6:
                    due("goesOn()", x.goesOn(), model.goesOn());
                    due("joy()", x.joy(), model.joy());
                    break;
                default:
                    int n = chance(10) ? pick(45) - 1 : 1 + pick(6);
                    int seed = chance(10) ? Integer.MAX_VALUE - 2 : random.nextInt();
                    due("odds(" + n + ", " + seed + ")", x.odds(n, seed), model.odds(n, seed));
            }
        }

        void askRest() {
            int m = some(model.play.men.size());
            int p = some(model.play.parts.size());
            int w = pick(10) - 1;
            switch (pick(9)) {
                case 0:
                    due("suspects(" + m + ")", x.suspects(m), model.suspects(m));
                    due("tells(" + m + ")", x.tells(m), model.tells(m));
                    break;
                case 1:
                    due("sure()", x.sure(), model.sure());
                    break;
                case 2:
                    due("favourite(" + w + ")", x.favourite(w), model.favourite(w));
                    break;
                case 3:
                    askSaid();
                    break;
                case 4:
                    due("part(" + p + ", " + w + ")", x.part(p, w), model.part(p, w));
                    break;
                case 5:
                    due("act(" + p + ", " + w + ")", x.act(p, w % 3), model.act(p, w % 3));
                    break;
                case 6:
                    due("scene(" + p + ", " + w + ")", x.scene(p, w % 3), model.scene(p, w % 3));
                    break;
                case 7:
                    due("count(" + w + ")", x.count(w == 6 ? 7 : w), model.count(w == 6 ? 7 : w));
                    break;
                default:
                    if (model.man(m, w) == Model.THROWS) {
                        check.throwsNoSuch("man(" + m + ", " + w + ")", x, m, w);
                    } else {
                        due("man(" + m + ", " + w + ")", x.man(m, w), model.man(m, w));
                    }
            }
        }
    }
}
