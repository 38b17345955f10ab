import java.util.ArrayList;
import java.util.List;
import java.util.Map;
import java.util.TreeMap;

/** The document read word for word, without workers: each transaction done behind the other. */
final class SerialModel {
    private final Map<Integer, Long> places = new TreeMap<>();
    private final List<List<long[]>> programs = new ArrayList<>();
    private final List<long[]> reports = new ArrayList<>();
    private int woven = 0;

    boolean put(int place, long v) {
        if (place < 0 || place > 255) {
            return false;
        }
        places.put(place, v);
        return true;
    }

    long get(int place) {
        return places.getOrDefault(place, 0L);
    }

    int begin() {
        int had = programs.size();
        programs.clear();
        reports.clear();
        return had;
    }

    int transaction() {
        if (programs.size() == 64) {
            return -3;
        }
        programs.add(new ArrayList<>());
        reports.add(null);
        return programs.size() - 1;
    }

    int instruction(int operation, int a, long b) {
        if (operation < 0 || operation > 10) {
            return -1;
        }
        if (programs.isEmpty()) {
            return -2;
        }
        int latest = programs.size() - 1;
        List<long[]> program = programs.get(latest);
        if (program.size() == 32) {
            return -3;
        }
        program.add(new long[] {operation, a, b});
        reports.set(latest, null);
        return program.size();
    }

    int weave() {
        if (woven == 65536) {
            return -3;
        }
        woven += 16;
        return woven;
    }

    int unweave() {
        int had = woven;
        woven = 0;
        return had;
    }

    int count() {
        return programs.size();
    }

    int told(int t, int what) {
        if (t < 0 || t >= programs.size() || what < 0 || what > 3) {
            return -1;
        }
        return reports.get(t) == null ? -2 : (int) reports.get(t)[what];
    }

    long result(int t) {
        return told(t, 0) < 0 ? 0 : reports.get(t)[4];
    }

    int execute() {
        int halted = 0;
        for (int t = 0; t < programs.size(); t++) {
            Map<Integer, Long> stored = new TreeMap<>();
            long[] report = run(programs.get(t), stored);
            if (report[0] == 1) {
                halted++;
                report[3] = stored.size();
                places.putAll(stored);
            }
            reports.set(t, report);
        }
        return halted;
    }

    /** Outcome, done, loads, (stores), result. */
    private long[] run(List<long[]> program, Map<Integer, Long> stored) {
        long[] register = new long[8];
        int loads = 0;
        int done = 0;
        long next = 0;
        while (next >= 0 && next < program.size()) {
            if (done == 300) {
                return new long[] {3, done, loads, 0, 0};
            }
            long[] it = program.get((int) next);
            int a = (int) Math.floorMod(it[1], 8L);
            int b = (int) Math.floorMod(it[2], 8L);
            int place = (int) Math.floorMod(register[b], 256L);
            done++;
            next++;
            switch ((int) it[0]) {
                case 0 -> next = -1;
                case 1 -> register[a] = it[2];
                case 2 -> {
                    loads++;
                    register[a] = stored.getOrDefault(place, get(place));
                }
                case 3 -> stored.put(place, register[a]);
                case 4 -> register[a] = register[a] + register[b];
                case 5 -> register[a] = register[a] - register[b];
                case 6 -> register[a] = register[a] * register[b];
                case 7 -> next = register[a] != 0 ? it[2] : next;
                case 8 -> register[a] = register[a] < register[b] ? 1 : 0;
                case 9 -> {
                    return new long[] {2, done, loads, 0, register[0]};
                }
                default -> register[a] = register[b];
            }
        }
        return new long[] {1, done, loads, 0, register[0]};
    }
}
