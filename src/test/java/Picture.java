/**
 * All that an object shows of itself but fault(), as one text: two objects that were used alike show
 * the same. Taking it uses the object up, as READINGS are seen by taking them back.
 */
final class Picture {
    private final BogTown x;
    private final StringBuilder seen = new StringBuilder();

    private Picture(BogTown x) {
        this.x = x;
    }

    static String of(BogTown x) {
        Picture p = new Picture(x);
        p.tell("trace", x.trace());
        p.town();
        p.guests();
        p.answers();
        for (int k = 0; k < 4; k++) {
            p.sheet(k);
        }
        p.readings();
        return p.seen.toString();
    }

    private void tell(String what, long v) {
        seen.append(what).append('=').append(v).append(' ');
    }

    private void town() {
        for (int what = 0; what < 4; what++) {
            tell("many" + what, x.many(what));
        }
        for (int h = 0; h < x.many(0); h++) {
            for (int what = 0; what < 5; what++) {
                tell("house" + h, x.ofHouse(h, what));
            }
        }
    }

    private void guests() {
        for (int g = 0; g < x.many(2); g++) {
            for (int what = 0; what < 4; what++) {
                tell("guest" + g, x.ofGuest(g, what));
            }
        }
    }

    private void answers() {
        for (int h = 0; h < x.many(0); h++) {
            tell("depth" + h, x.depth(h, 10));
            tell("deep" + h, x.depth(h, 50));
        }
        tell("planks", x.planks(-1));
        tell("lodgings", x.lodgings(1, -1));
        tell("piles", x.piles(1));
        tell("settles", x.settles());
    }

    private void sheet(int k) {
        for (int lane = 0; lane < 3; lane++) {
            x.cell(k, 0, lane);
            int fault = x.fault();
            tell("sheet" + k + "as" + lane, fault);
            for (int i = 0; i < 60 && fault == 0; i++) {
                long v = x.cell(k, i, lane);
                fault = x.fault();
                tell("cell" + i, v);
            }
        }
    }

    private void readings() {
        for (int left = x.many(3); left > 0; left--) {
            tell("right", x.right());
            tell("unseen", x.unseen(0));
            x.back(1);
        }
    }
}
