import java.util.List;
import java.util.Random;
import java.util.TreeSet;

/** Promises 4 to 27 on BOOKS made at random (always the same ones), against the plain ways of Tale. */
public final class PlainWaysTest {
    public static void main(String[] args) {
        Random random = new Random(20261117);
        HourAgain x = new HourAgain();
        int told = 0;
        for (int i = 0; told < 300 && i < 3000; i++) {
            Tale tale = new Tale(random, 1 + random.nextInt(16));
            if (tale.text.length() > 1000) {
                continue;
            }
            told++;
            Due.due("book() of " + tale.text, Due.read(x, tale.text.toString()), 0);
            clocks(x, tale, random);
            papers(x, tale);
            plans(x, tale);
            votes(x, tale);
            journeys(x, tale, random);
        }
        Due.due("tales told", told, 300);
        Due.end("PlainWaysTest");
    }

    private static void clocks(HourAgain x, Tale tale, Random random) {
        for (int town = 0; town < tale.towns; town++) {
            int backs = 0;
            for (int minute = 0; minute < Tale.SPAN; minute++) {
                int shown = tale.shown[town][minute];
                backs += minute > 0 && shown < tale.shown[town][minute - 1] ? 1 : 0;
                if (minute % 7 == 0 || backs > 0 && minute % 60 < 2) {
                    Due.due("shown(" + town + ", " + minute + ") of " + tale.text, x.shown(town, minute), shown);
                    Due.due("backs(" + town + ", " + minute + ") of " + tale.text, x.backs(town, minute), backs);
                }
            }
            for (int i = 0; i < 12; i++) {
                times(x, tale, random, town);
            }
        }
        int[] lengths = {0, 1, 59, 60, 61, random.nextInt(200)};
        int town = random.nextInt(tale.towns);
        int day = random.nextInt(Tale.DAYS);
        for (int length : lengths) {
            int none = 0;
            for (int minutes = 0; minutes < 1440; minutes++) {
                int first = tale.moments(town, day, minutes).get(0);
                none += tale.shown[town][first + length] <= day * 1440 + minutes ? 1 : 0;
            }
            Due.due("none(" + town + ", " + day + ", " + length + ") of " + tale.text, x.none(town, day, length), none);
        }
    }

    private static int someMinutes(Tale tale, Random random, int town, int day) {
        int stroke = tale.strokes[town][day] * 60;
        return Math.floorMod(stroke - 70 + random.nextInt(80), 1440);
    }

    private static void times(HourAgain x, Tale tale, Random random, int town) {
        int day = random.nextInt(Tale.DAYS);
        int day2 = random.nextInt(3) > 0 ? day : random.nextInt(Tale.DAYS);
        int minutes = someMinutes(tale, random, town, day);
        int minutes2 = someMinutes(tale, random, town, day2);
        List<Integer> ones = tale.moments(town, day, minutes);
        List<Integer> others = tale.moments(town, day2, minutes2);
        String where = "(" + town + ", " + day + ", " + minutes + ", " + day2 + ", " + minutes2 + ") of " + tale.text;
        Due.due("moments " + where, x.moment(town, day, minutes, 0), ones.size());
        Due.due("first " + where, x.moment(town, day, minutes, 1), ones.get(0));
        Due.due("second " + where, x.moment(town, day, minutes, 2), ones.size() > 1 ? ones.get(1) : -1);
        TreeSet<Integer> unlike = new TreeSet<>();
        for (int one : ones) {
            for (int other : others) {
                unlike.add(other - one);
            }
        }
        Due.due("least between " + where, x.between(town, day, minutes, day2, minutes2, 0), unlike.first());
        Due.due("most between " + where, x.between(town, day, minutes, day2, minutes2, 1), unlike.last());
        Due.due("unlike between " + where, x.between(town, day, minutes, day2, minutes2, 2), unlike.size());
        int rate = random.nextInt(1000);
        int[] paid = {day2 * 1440 + minutes2 - day * 1440 - minutes, others.get(0) - ones.get(0),
            others.get(others.size() - 1) - ones.get(0), others.get(0) - ones.get(ones.size() - 1)};
        for (int how = 0; how < 4; how++) {
            Due.due("wage by " + how + " for " + rate + " " + where, x.wage(town, day, minutes, day2, minutes2, rate, how),
                Math.max(0, paid[how]) * rate / 60);
        }
        int other = random.nextInt(tale.towns);
        int length = random.nextInt(150);
        int begin = Math.max(0, ones.get(0) - random.nextInt(60));
        Due.due("deed(" + town + ", " + begin + ", " + length + ", " + other + ") of " + tale.text,
            x.deed(town, begin, length, other), tale.shown[other][begin + length] - tale.shown[town][begin]);
    }

    private static void papers(HourAgain x, Tale tale) {
        int many = tale.papers.size();
        List<int[]> worlds = tale.worlds((1 << many) - 1);
        Due.due("worlds() of " + tale.text, x.worlds(), worlds.size());
        Due.due("together() of " + tale.text, x.together(), worlds.isEmpty() ? tale.together() : -1);
        int open = 0;
        for (int p = 0; p < many; p++) {
            TreeSet<Integer> moments = new TreeSet<>();
            for (int n = 0; n < worlds.size(); n++) {
                moments.add(worlds.get(n)[p]);
                if (n < 200 || n > worlds.size() - 9) {
                    Due.due("world(" + n + ", " + p + ") of " + tale.text, x.world(n, p), worlds.get(n)[p]);
                }
            }
            Due.due("world behind the last of " + tale.text, x.world(worlds.size(), p), -1);
            boolean sure = moments.size() == 1;
            Due.due("sure(" + p + ") of " + tale.text, x.sure(p), sure ? moments.first() : -1);
            open |= sure ? 0 : 1 << p;
            for (int q = 0; q < many; q++) {
                int before = 0;
                for (int[] world : worlds) {
                    before |= world[p] < world[q] ? 1 : world[p] == world[q] ? 2 : 4;
                }
                Due.due("before(" + p + ", " + q + ") of " + tale.text, x.before(p, q), p == q ? -1 : before);
            }
            for (int what = 0; what < 4; what++) {
                Due.due("paper(" + p + ", " + what + ") of " + tale.text, x.paper(p, what), tale.papers.get(p)[what]);
            }
        }
        Due.due("open() of " + tale.text, x.open(), worlds.isEmpty() ? -1 : open);
    }

    private static void plans(HourAgain x, Tale tale) {
        for (int day = 0; day < Tale.DAYS; day++) {
            int[] best = tale.best(day, false);
            int[] plain = tale.best(day, true);
            String where = " of day " + day + " of " + tale.text;
            Due.due("worth" + where, x.best(day, 0), best[0]);
            Due.due("bits" + where, x.best(day, 1), best[1]);
            Due.due("gain" + where, x.best(day, 2), best[0] - plain[0]);
            Due.due("plain" + where, x.best(day, 3), plain[0]);
            int length = (best.length - 2) / 2;
            for (int i = 0; i < length; i++) {
                Due.due("order " + i + where, x.order(day, i), best[2 + i]);
                Due.due("begins " + i + where, x.begins(day, i), best[2 + length + i]);
            }
            Due.due("order behind" + where, x.order(day, length), -1);
            Due.due("begins behind" + where, x.begins(day, length), -1);
        }
        for (int w = 0; w < tale.works.size(); w++) {
            for (int what = 0; what < 5; what++) {
                Due.due("work(" + w + ", " + what + ") of " + tale.text, x.work(w, what), tale.works.get(w)[what]);
            }
        }
    }

    private static void votes(HourAgain x, Tale tale) {
        for (int way = 0; way < 6; way++) {
            Due.due("vote(" + way + ") of " + tale.text, x.vote(way), tale.vote(way));
        }
        for (int stroke = 1; stroke <= 24; stroke++) {
            int other = 1 + stroke * 7 % 24;
            Due.due("prefers(" + stroke + ", " + other + ") of " + tale.text, x.prefers(stroke, other), tale.prefers(stroke, other));
            for (int p = 0; p < tale.persons.size(); p++) {
                Due.due("wish(" + p + ", " + stroke + ") of " + tale.text, x.wish(p, stroke), tale.persons.get(p)[stroke]);
            }
        }
    }

    private static void journeys(HourAgain x, Tale tale, Random random) {
        for (int a = 0; a < tale.towns; a++) {
            for (int b = 0; b < tale.towns; b++) {
                Due.due("way(" + a + ", " + b + ") of " + tale.text, x.way(a, b), tale.way(a, b));
            }
        }
        for (int k = 0; k < 4; k++) {
            int from = k == 0 ? 0 : random.nextInt(Tale.DAYS);
            int to = k == 0 ? 3649 : from + random.nextInt(Tale.DAYS - from);
            List<int[]> row = tale.goes(from, to);
            String where = " from " + from + " to " + to + " of " + tale.text;
            Due.due("most" + where, x.most(from, to), row.size());
            for (int i = 0; i < row.size(); i++) {
                Due.due("goes " + i + " TOWN" + where, x.goes(from, to, i, 0), row.get(i)[1]);
                Due.due("goes " + i + " minute" + where, x.goes(from, to, i, 1), row.get(i)[0]);
            }
            Due.due("goes behind" + where, x.goes(from, to, row.size(), 0), -1);
        }
    }
}
