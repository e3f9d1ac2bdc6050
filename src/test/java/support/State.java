/** All that an object tells of what it holds, as one text. */
final class State {
    private State() {
    }

    static String of(CornerMaps x) {
        StringBuilder all = new StringBuilder("fault " + x.fault(0) + " " + x.fault(1) + " counts");
        for (int what = 0; what < 7; what++) {
            all.append(' ').append(x.count(what));
        }
        for (int q = 0; q < x.count(1); q++) {
            all.append(" quad");
            for (int i = 0; i < 8; i++) {
                all.append(' ').append(x.corner(q, i / 2, i % 2));
            }
        }
        for (int m = 0; m < x.count(2); m++) {
            all.append(" map");
            for (int i = 0; i < 9; i++) {
                all.append(' ').append(x.map(m, i / 3, i % 3));
            }
        }
        for (int p = 0; p < x.count(3); p++) {
            all.append(" point ").append(x.point(p, 0)).append(' ').append(x.point(p, 1)).append(' ')
                .append(x.point(p, 2));
        }
        return all.toString();
    }
}
