/**
 * Asks an object for all that can be seen of it, in one text: two objects with the same text are in the same state.
 * The last questions change the object, so it is of no use afterwards. They are fewer than 190, so that a test may
 * call some 320 times ahead of them: behind its 512th call an object may answer as it likes.
 */
final class Probe {
    private final RainCover x;
    private final StringBuilder answers = new StringBuilder();

    private Probe(RainCover x) {
        this.x = x;
    }

    static String of(RainCover x) {
        Probe p = new Probe(x);
        p.whatIsTold();
        p.whatIsSeen();
        p.images();
        p.sheets();
        p.tape();
        return p.answers.toString();
    }

    private void told(long answer) {
        answers.append(answer).append(' ');
    }

    private void mark(String name) {
        answers.append('\n').append(name).append(": ");
    }

    private void whatIsTold() {
        mark("faults");
        told(x.fault());
        told(x.torn());
        rules();
        mark("ones");
        for (int p = 0; p < 4; p++) {
            for (int what = 0; what < 5; what++) {
                told(x.one(p, what));
            }
        }
        mark("covers");
        for (int c = 0; c < 5; c++) {
            for (int what = 0; what < 5; what++) {
                told(x.cover(c, what));
            }
        }
        mark("odds, sky, owed");
        for (int i = 0; i < 8; i++) {
            told(i < 4 ? x.odds(i) : 0);
            told(x.sky(i));
        }
        for (int pair = 0; pair < 16; pair++) {
            told(pair / 4 == pair % 4 ? 0 : x.owed(pair / 4, pair % 4));
        }
    }

    private void rules() {
        mark("rules, counts");
        for (int what = 0; what < 6; what++) {
            told(x.rule(what));
            told(x.count(what));
        }
    }

    private void whatIsSeen() {
        mark("seen");
        for (int what = 10; what < 14; what++) {
            told(x.fits(what));
        }
        for (int left = x.count(0) - 1; left >= 0; left--) {
            told(x.fits(0));
            told(x.fits(1));
            told(x.forget(left));
        }
    }

    private void images() {
        for (int k = 0; k < 2; k++) {
            mark("image " + k);
            told(x.back(k));
            rules();
        }
    }

    private void sheets() {
        for (int k = 0; k < 4; k++) {
            mark("sheet " + k);
            for (int lane = 0; lane < 3; lane++) {
                told(x.read(k, lane, 0, 20));
                told(x.torn());
                told(x.count(4));
            }
        }
    }

    private void tape() {
        mark("tape");
        told(x.text());
        told(x.fault());
        rules();
    }
}
