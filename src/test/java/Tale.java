import java.util.ArrayList;
import java.util.List;
import java.util.Random;

/** A BOOK made at random, with all its answers worked out the plain way: minute by minute, one by one. */
final class Tale {
    static final int DAYS = 9;
    static final int SPAN = (DAYS + 2) * 1440;

    final StringBuilder text = new StringBuilder();
    final int towns;
    /** By TOWN and day the stroke, or 0. */
    final int[][] strokes;
    final int[][] ways;
    final List<int[]> works = new ArrayList<>();
    final List<int[]> persons = new ArrayList<>();
    final List<int[]> papers = new ArrayList<>();
    /** 0 after or 1 within, two PAPERS, minutes. */
    final List<int[]> rules = new ArrayList<>();
    /** By TOWN what the clock shows at each true minute. */
    final int[][] shown;
    /** By TOWN and clock time the true minutes at which it is shown. */
    private final List<List<List<Integer>>> moments = new ArrayList<>();

    Tale(Random random, int size) {
        towns = 1 + random.nextInt(3);
        strokes = new int[towns][DAYS];
        ways = new int[towns][towns];
        for (int town = 0; town < towns; town++) {
            text.append("town ").append((char) ('a' + town)).append(" ;");
            tellBacks(random, town);
        }
        tellWays(random);
        tellWorks(random, size);
        tellPersons(random, size);
        tellPapers(random, size);
        shown = new int[towns][];
        for (int town = 0; town < towns; town++) {
            shown[town] = run(strokes[town]);
            keepMoments(shown[town]);
        }
    }

    private void tellBacks(Random random, int town) {
        int many = random.nextInt(DAYS);
        for (int i = 0; i < many; i++) {
            int day = random.nextInt(DAYS);
            if (strokes[town][day] == 0) {
                int[] liked = {1, 2, 24, 23, 1 + random.nextInt(24)};
                strokes[town][day] = liked[random.nextInt(liked.length)];
                text.append("back ").append(day).append(" at ").append(strokes[town][day]).append(';');
            }
        }
    }

    private void tellWays(Random random) {
        for (int a = 0; a < towns; a++) {
            for (int b = 0; b < a; b++) {
                if (random.nextInt(3) > 0) {
                    int minutes = random.nextBoolean() ? 1 + random.nextInt(300) : 1 + random.nextInt(3000);
                    ways[a][b] = minutes;
                    ways[b][a] = minutes;
                    boolean turned = random.nextBoolean();
                    text.append("way ").append((char) ('a' + (turned ? b : a))).append(' ')
                        .append((char) ('a' + (turned ? a : b))).append(' ').append(minutes).append(';');
                }
            }
        }
    }

    private void tellWorks(Random random, int size) {
        int many = random.nextInt(Math.min(size, 8) + 1);
        int day = random.nextInt(DAYS);
        for (int i = 0; i < many; i++) {
            int on = random.nextInt(4) == 0 ? random.nextInt(DAYS) : day;
            int stroke = strokes[0][on] == 0 ? 5 : strokes[0][on];
            int from = Math.max(0, Math.min(1439, stroke * 60 - 100 + random.nextInt(150)));
            int to = Math.min(1440, from + 1 + random.nextInt(90));
            int[] w = {on, from, to, 1 + random.nextInt(70), random.nextInt(5)};
            works.add(w);
            text.append("work k").append((char) ('a' + i)).append(" day ").append(on).append(" from ").append(from)
                .append(" to ").append(to).append(" long ").append(w[3]).append(" worth ").append(w[4]).append(';');
        }
    }

    private void tellPersons(Random random, int size) {
        int many = random.nextInt(Math.min(size, 9) + 1);
        int few = 1 + random.nextInt(24);
        for (int i = 0; i < many; i++) {
            int[] worth = new int[25];
            text.append("person p").append((char) ('a' + i));
            int wishes = random.nextInt(5);
            boolean[] told = new boolean[25];
            for (int k = 0; k < wishes; k++) {
                int stroke = 1 + random.nextInt(few);
                if (!told[stroke]) {
                    told[stroke] = true;
                    worth[stroke] = random.nextInt(4);
                    text.append(" hour ").append(stroke).append(" worth ").append(worth[stroke]);
                }
            }
            text.append(';');
            persons.add(worth);
        }
    }

    private void tellPapers(Random random, int size) {
        int many = random.nextInt(Math.min(size, 12) + 1);
        for (int i = 0; i < many; i++) {
            int town = random.nextInt(towns);
            int day = random.nextInt(DAYS);
            for (int k = 0; k < 9 && strokes[town][day] == 0; k++) {
                day = random.nextInt(DAYS);
            }
            int stroke = strokes[town][day] == 0 ? 5 : strokes[town][day];
            int minutes = Math.max(0, Math.min(1439, stroke * 60 - 65 + random.nextInt(70)));
            int which = random.nextInt(8) < 6 ? 0 : 1 + random.nextInt(2);
            papers.add(new int[] {town, day, minutes, which});
            text.append("paper q").append((char) ('a' + i)).append(" in ").append((char) ('a' + town)).append(" day ")
                .append(day).append(" at ").append(minutes).append(which == 0 ? ";" : which == 1 ? " first;" : " second;");
        }
        int told = papers.size() < 2 ? 0 : random.nextInt(Math.min(size, 16) + 1);
        for (int i = 0; i < told; i++) {
            int a = random.nextInt(papers.size());
            int b = (a + 1 + random.nextInt(papers.size() - 1)) % papers.size();
            int kind = random.nextInt(2);
            int minutes = kind == 0 ? random.nextInt(2) * random.nextInt(90) : random.nextInt(9999);
            if (kind == 0 && papers.get(a)[1] < papers.get(b)[1] && random.nextInt(5) > 0) {
                int swap = a;
                a = b;
                b = swap;
            }
            rules.add(new int[] {kind, a, b, minutes});
            text.append(kind == 0 ? "after q" : "within q").append((char) ('a' + a)).append(" q").append((char) ('a' + b))
                .append(' ').append(minutes).append(';');
        }
    }

    /** A clock with the strokes by day: it goes on minute by minute, and comes to each stroke once. */
    static int[] run(int[] strokes) {
        int[] row = new int[SPAN];
        boolean[] had = new boolean[strokes.length];
        int clock = 0;
        for (int minute = 0; minute < SPAN; minute++) {
            for (int day = 0; day < strokes.length; day++) {
                if (strokes[day] > 0 && !had[day] && clock == day * 1440 + strokes[day] * 60) {
                    had[day] = true;
                    clock -= 60;
                }
            }
            row[minute] = clock;
            clock++;
        }
        return row;
    }

    private void keepMoments(int[] row) {
        List<List<Integer>> all = new ArrayList<>();
        for (int time = 0; time < SPAN; time++) {
            all.add(new ArrayList<>(2));
        }
        for (int minute = 0; minute < SPAN; minute++) {
            all.get(row[minute]).add(minute);
        }
        moments.add(all);
    }

    List<Integer> moments(int town, int day, int minutes) {
        return moments.get(town).get(day * 1440 + minutes);
    }

    /** All WORLDS of the PAPERS that are bits, in their order, the PAPERS that are none with -1. */
    List<int[]> worlds(int bits) {
        List<int[]> all = new ArrayList<>();
        all.add(new int[papers.size()]);
        for (int p = 0; p < papers.size(); p++) {
            List<int[]> next = new ArrayList<>();
            int[] paper = papers.get(p);
            List<Integer> moments = moments(paper[0], paper[1], paper[2]);
            for (int[] world : all) {
                if ((bits >> p & 1) == 0) {
                    int[] w = world.clone();
                    w[p] = -1;
                    next.add(w);
                    continue;
                }
                for (int i = 0; i < moments.size(); i++) {
                    int[] w = world.clone();
                    w[p] = moments.get(i);
                    if ((paper[3] == 0 || paper[3] == i + 1) && allHold(w, p)) {
                        next.add(w);
                    }
                }
            }
            all = next;
        }
        return all;
    }

    /** Whether all rules hold whose later PAPER is this one. */
    private boolean allHold(int[] world, int paper) {
        for (int[] rule : rules) {
            if (Math.max(rule[1], rule[2]) == paper && world[rule[1]] != -1 && world[rule[2]] != -1) {
                int behind = world[rule[1]] - world[rule[2]];
                if (rule[0] == 0 ? behind < rule[3] : Math.abs(behind) > rule[3]) {
                    return false;
                }
            }
        }
        return true;
    }

    int together() {
        int best = -1;
        for (int bits = 1; bits < 1 << papers.size(); bits++) {
            if ((best == -1 || Integer.bitCount(bits) < Integer.bitCount(best)) && worlds(bits).isEmpty()) {
                best = bits;
            }
        }
        return best;
    }

    /** worth, bits, then the works of the first row, then their beginnings. */
    int[] best(int day, boolean plain) {
        int[] mine = strokes[0].clone();
        if (plain) {
            mine[day] = 0;
        }
        int[] clock = run(mine);
        int worth = -1;
        int chosen = 0;
        int[] row = null;
        for (int bits = 0; bits < 1 << works.size(); bits++) {
            int sum = 0;
            boolean all = true;
            for (int w = 0; w < works.size(); w++) {
                if ((bits >> w & 1) == 1) {
                    sum += works.get(w)[4];
                    all &= works.get(w)[0] == day;
                }
            }
            if (all && sum > worth) {
                int[] tried = new int[2 * Integer.bitCount(bits)];
                if (firstRow(clock, bits, 0, 0, tried)) {
                    worth = sum;
                    chosen = bits;
                    row = tried;
                }
            }
        }
        int[] answer = new int[2 + row.length];
        answer[0] = worth;
        answer[1] = chosen;
        System.arraycopy(row, 0, answer, 2, row.length);
        return answer;
    }

    private boolean firstRow(int[] clock, int left, int i, int minute, int[] row) {
        if (left == 0) {
            return true;
        }
        for (int w = 0; w < works.size(); w++) {
            if ((left >> w & 1) == 1) {
                int[] work = works.get(w);
                int start = minute;
                while (start < SPAN && !(clock[start] >= work[0] * 1440 + work[1] && clock[start] < work[0] * 1440 + work[2])) {
                    start++;
                }
                row[i] = w;
                row[row.length / 2 + i] = start;
                if (start < SPAN && firstRow(clock, left & ~(1 << w), i + 1, start + work[3], row)) {
                    return true;
                }
            }
        }
        return false;
    }

    int prefers(int stroke, int other) {
        int many = 0;
        for (int[] person : persons) {
            many += person[stroke] > person[other] ? 1 : 0;
        }
        return many;
    }

    int vote(int way) {
        if (persons.isEmpty()) {
            return -1;
        }
        List<Integer> left = new ArrayList<>();
        for (int stroke = 1; stroke <= 24; stroke++) {
            left.add(stroke);
        }
        if (way == 3) {
            for (int stroke : left) {
                boolean all = true;
                for (int other : left) {
                    all &= other == stroke || prefers(stroke, other) > prefers(other, stroke);
                }
                if (all) {
                    return stroke;
                }
            }
            return -1;
        }
        while (way == 4) {
            int[] votes = plainVotes(left);
            int out = left.get(0);
            for (int stroke : left) {
                if (left.size() == 1 || votes[stroke] > persons.size() / 2) {
                    return stroke;
                }
                out = votes[stroke] <= votes[out] ? stroke : out;
            }
            left.remove(Integer.valueOf(out));
        }
        int[] points = way == 0 ? plainVotes(left) : new int[25];
        for (int stroke = 1; stroke <= 24; stroke++) {
            int least = 100;
            for (int[] person : persons) {
                least = Math.min(least, person[stroke]);
                for (int other = 1; way == 2 && other <= 24; other++) {
                    points[stroke] += person[other] < person[stroke] ? 1 : 0;
                }
                points[stroke] += way == 1 ? person[stroke] : 0;
            }
            points[stroke] += way == 5 ? least : 0;
        }
        int best = 1;
        for (int stroke = 24; stroke >= 1; stroke--) {
            best = points[stroke] >= points[best] ? stroke : best;
        }
        for (int stroke = 1; stroke < best; stroke++) {
            best = points[stroke] == points[best] ? stroke : best;
        }
        return best;
    }

    private int[] plainVotes(List<Integer> left) {
        int[] votes = new int[25];
        for (int[] person : persons) {
            int dearest = left.get(0);
            for (int stroke : left) {
                dearest = person[stroke] > person[dearest] ? stroke : dearest;
            }
            votes[dearest]++;
        }
        return votes;
    }

    int way(int a, int b) {
        int[] far = new int[towns];
        java.util.Arrays.fill(far, Integer.MAX_VALUE / 2);
        far[a] = 0;
        for (int round = 0; round < towns; round++) {
            for (int c = 0; c < towns; c++) {
                for (int d = 0; d < towns; d++) {
                    if (ways[c][d] > 0) {
                        far[d] = Math.min(far[d], far[c] + ways[c][d]);
                    }
                }
            }
        }
        return far[b] >= Integer.MAX_VALUE / 2 ? -1 : far[b];
    }

    /** The first longest row of {minute, TOWN}, all rows being tried. */
    List<int[]> goes(int from, int to) {
        List<int[]> stops = new ArrayList<>();
        for (int minute = 1; minute < SPAN; minute++) {
            for (int town = 0; town < towns; town++) {
                if (shown[town][minute] < shown[town][minute - 1]) {
                    // The minute ahead of the stroke is of the day of which it was told.
                    int day = shown[town][minute - 1] / 1440;
                    if (day >= from && day <= to) {
                        stops.add(new int[] {minute, town});
                    }
                }
            }
        }
        List<int[]> best = new ArrayList<>();
        tryRows(stops, 0, new ArrayList<>(), best);
        return best;
    }

    private void tryRows(List<int[]> stops, int at, List<int[]> row, List<int[]> best) {
        if (row.size() > best.size()) {
            best.clear();
            best.addAll(row);
        }
        for (int i = at; i < stops.size(); i++) {
            if (row.size() + stops.size() - i <= best.size()) {
                return;
            }
            int[] next = stops.get(i);
            if (!row.isEmpty()) {
                int[] last = row.get(row.size() - 1);
                int way = way(last[1], next[1]);
                if (way == -1 || last[0] + 60 + way > next[0] - 60) {
                    continue;
                }
            }
            row.add(next);
            tryRows(stops, i + 1, row, best);
            row.remove(row.size() - 1);
        }
    }
}
