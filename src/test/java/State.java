import java.util.ArrayList;
import java.util.List;

/** All that an object tells of itself, but for fault(), which the reading of cells changes. */
final class State {
    private static final int[] FLOWS = {1, 100, 150, 300, 10000};
    private static final int[] DAYS = {0, 7, 400};

    private State() {
    }

    static List<Long> of(TrueLitres x) {
        List<Long> all = new ArrayList<>();
        all.add((long) x.trace());
        for (int what = 0; what < 16; what++) {
            all.add((long) x.told(what));
        }
        for (int m = 0; m < x.told(0); m++) {
            addMeter(all, x, m);
        }
        for (int t = 0; t < x.told(1); t++) {
            addTicket(all, x, t);
        }
        for (int k = 0; k < 4; k++) {
            all.add(x.balance(k, 0, 400, 1));
            addCells(all, x, k);
        }
        for (int what = 0; what < 4; what++) {
            all.add((long) x.proving(what));
        }
        return all;
    }

    private static void addMeter(List<Long> all, TrueLitres x, int m) {
        for (int flow : FLOWS) {
            for (int day : DAYS) {
                all.add((long) x.at(m, flow, day));
            }
        }
        for (int l = 0; l < 4; l++) {
            all.add((long) x.lined(l, m));
        }
    }

    private static void addTicket(List<Long> all, TrueLitres x, int t) {
        for (int what : new int[] {0, 3, 5, 6, 7}) {
            all.add((long) x.ticketed(t, what));
        }
    }

    private static void addCells(List<Long> all, TrueLitres x, int k) {
        for (int lane = 0; lane < 3; lane++) {
            long cell = 0;
            for (int i = 0; i <= 60 && cell != TrueLitres.LOST; i++) {
                cell = x.cell(k, i, lane);
                all.add(cell);
            }
            all.add((long) x.fault());
        }
    }
}
