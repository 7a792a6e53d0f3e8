import java.util.Arrays;
import java.util.NoSuchElementException;

/**
 * Once a year an hour again: towns whose clocks are put back on told days, papers that say a time,
 * works by the clock, votes for the stroke, ways between the towns, wages and deeds by the clock.
 * What each call promises stands in the project's document; README.md says how to begin.
 */
public final class HourAgain {
    public static final int NONE = -1;

    private static final int HOUR = 60;
    private static final int DAY = 1440;
    private static final int LAST_DAY = 3649;
    private static final int LAST_MINUTE = 9_999_999;
    private static final int LAST_LENGTH = 9_999;
    private static final int LAST_RATE = 999;
    private static final int STROKES = 24;
    private static final int MARKS = 4;

    private final Tape tape = new Tape();
    private final Reader reader = new Reader();
    private final Worlds worlds = new Worlds();
    private final Plan plan = new Plan();
    private final Votes votes = new Votes();
    private final Journey journey = new Journey();

    private Book book = new Book();
    /** A text is read into this one, so that the BOOK stays as it is if there is a FAULT. */
    private Book spare = new Book();
    /**
     * The MARKS that are laid, as bits. Only a newly read BOOK changes the BOOK, and it takes all
     * MARKS away: so each MARK laid holds the BOOK that stands, and going back changes nothing.
     */
    private int marks;

    public HourAgain() {
    }

    public int feed(long a, long b, long c) {
        tape.append(a);
        tape.append(b);
        tape.append(c);
        return tape.length;
    }

    public int book() {
        int fault = reader.read(tape, spare);
        tape.length = 0;
        if (fault == 0) {
            takeSpare();
        }
        return fault;
    }

    public int shown(int town, int minute) throws NoSuchElementException {
        Clock clock = clockOf(town);
        if (clock == null || !within(minute, 0, LAST_MINUTE)) {
            throw new NoSuchElementException();
        }
        return clock.showsAt(minute);
    }

    public int moment(int town, int day, int minutes, int what) {
        Clock clock = clockOf(town);
        int time = clockTime(day, minutes);
        if (clock == null || time == NONE) {
            return NONE;
        }
        switch (what) {
            case 0:
                return clock.hasTwice(time) ? 2 : 1;
            case 1:
                return clock.firstOf(time);
            case 2:
                return clock.hasTwice(time) ? clock.lastOf(time) : NONE;
            default:
                return NONE;
        }
    }

    public int backs(int town, int minute) throws NoSuchElementException {
        Clock clock = clockOf(town);
        if (clock == null || !within(minute, 0, LAST_MINUTE)) {
            throw new NoSuchElementException();
        }
        return clock.backsBy(minute);
    }

    public int between(int town, int day, int minutes, int day2, int minutes2, int what) throws NoSuchElementException {
        Clock clock = clockOf(town);
        int time = clockTime(day, minutes);
        int time2 = clockTime(day2, minutes2);
        if (clock == null || time == NONE || time2 == NONE || !within(what, 0, 2)) {
            throw new NoSuchElementException();
        }
        if (what == 0) {
            return clock.firstOf(time2) - clock.lastOf(time);
        }
        if (what == 1) {
            return clock.lastOf(time2) - clock.firstOf(time);
        }
        // The two MOMENTS of a clock time are always an hour apart: each that has two adds one more.
        return 1 + (clock.hasTwice(time) ? 1 : 0) + (clock.hasTwice(time2) ? 1 : 0);
    }

    public int paper(int paper, int what) {
        if (!within(paper, 0, book.paperCount - 1) || !within(what, 0, Book.PAPER_PARTS - 1)) {
            return NONE;
        }
        return book.papers[paper * Book.PAPER_PARTS + what];
    }

    public int worlds() {
        worlds.prepare(book);
        return worlds.total;
    }

    public int world(int n, int paper) {
        worlds.prepare(book);
        if (!within(n, 0, worlds.total - 1) || !within(paper, 0, book.paperCount - 1)) {
            return NONE;
        }
        return worlds.momentIn(n, paper);
    }

    public int sure(int paper) {
        if (!within(paper, 0, book.paperCount - 1)) {
            return NONE;
        }
        worlds.prepare(book);
        return worlds.sureMoment(paper);
    }

    public int before(int a, int b) {
        if (!within(a, 0, book.paperCount - 1) || !within(b, 0, book.paperCount - 1) || a == b) {
            return NONE;
        }
        worlds.prepare(book);
        return worlds.canBe(a, b);
    }

    public int together() {
        worlds.prepare(book);
        return worlds.total > 0 ? NONE : worlds.fewestApart();
    }

    public int open() {
        worlds.prepare(book);
        return worlds.total > 0 ? worlds.unsure() : NONE;
    }

    public int work(int work, int what) {
        if (!within(work, 0, book.workCount - 1) || !within(what, 0, Book.WORK_PARTS - 1)) {
            return NONE;
        }
        return book.works[work * Book.WORK_PARTS + what];
    }

    public int best(int day, int what) {
        if (!preparePlan(day)) {
            return NONE;
        }
        switch (what) {
            case 0:
                return plan.worth;
            case 1:
                return plan.chosen;
            case 2:
                return plan.worth - plan.plainWorth;
            case 3:
                return plan.plainWorth;
            default:
                return NONE;
        }
    }

    public int order(int day, int i) {
        return preparePlan(day) && within(i, 0, plan.length - 1) ? plan.row[i] : NONE;
    }

    public int begins(int day, int i) {
        return preparePlan(day) && within(i, 0, plan.length - 1) ? plan.starts[i] : NONE;
    }

    public int wish(int person, int stroke) {
        if (!within(person, 0, book.personCount - 1) || !within(stroke, 1, STROKES)) {
            return NONE;
        }
        return book.worthOf(person, stroke);
    }

    public int vote(int way) {
        return book.personCount > 0 ? votes.elect(book, way) : NONE;
    }

    public int prefers(int stroke, int other) {
        if (!within(stroke, 1, STROKES) || !within(other, 1, STROKES)) {
            return NONE;
        }
        return book.friendsOf(stroke, other);
    }

    public int most(int from, int to) {
        return prepareJourney(from, to) ? journey.length : NONE;
    }

    public int goes(int from, int to, int i, int what) {
        if (!prepareJourney(from, to) || !within(i, 0, journey.length - 1) || !within(what, 0, 1)) {
            return NONE;
        }
        int stop = journey.row[i];
        return what == 0 ? journey.towns[stop] : journey.minutes[stop];
    }

    public int way(int a, int b) {
        if (!within(a, 0, book.townCount - 1) || !within(b, 0, book.townCount - 1)) {
            return NONE;
        }
        return book.shortestWay(a, b);
    }

    public int wage(int town, int day, int minutes, int day2, int minutes2, int rate, int how) throws NoSuchElementException {
        Clock clock = clockOf(town);
        int time = clockTime(day, minutes);
        int time2 = clockTime(day2, minutes2);
        if (clock == null || time == NONE || time2 == NONE || !within(rate, 0, LAST_RATE) || !within(how, 0, 3)) {
            throw new NoSuchElementException();
        }
        long paid = Math.max(0, paidMinutes(clock, time, time2, how));
        return (int) (paid * rate / HOUR);
    }

    public int deed(int town, int minute, int length, int other) throws NoSuchElementException {
        Clock here = clockOf(town);
        Clock there = clockOf(other);
        if (here == null || there == null || !within(minute, 0, LAST_MINUTE) || !within(length, 0, LAST_LENGTH)) {
            throw new NoSuchElementException();
        }
        return there.showsAt(minute + length) - here.showsAt(minute);
    }

    public int none(int town, int day, int length) {
        Clock clock = clockOf(town);
        if (clock == null || !within(day, 0, LAST_DAY) || !within(length, 0, LAST_LENGTH)) {
            return NONE;
        }
        if (length == 0) {
            return DAY;
        }
        // Two puttings back are never less than 120 true minutes apart: a deed has to be an hour long
        // at most, and to run over the one of this day, begun in the last minutes ahead of its stroke.
        return length <= HOUR && clock.strokeOn(day) != NONE ? length : 0;
    }

    public boolean mark(int mark, boolean back) {
        if (!within(mark, 0, MARKS - 1)) {
            return false;
        }
        if (back) {
            return (marks >> mark & 1) == 1;
        }
        marks |= 1 << mark;
        return true;
    }

    public int count(int what) {
        switch (what) {
            case 0:
                return book.townCount;
            case 1:
                return book.workCount;
            case 2:
                return book.personCount;
            case 3:
                return book.paperCount;
            case 4:
                return book.ruleCount;
            case 5:
                return book.wayCount;
            case 6:
                return tape.length;
            default:
                return NONE;
        }
    }

    private void takeSpare() {
        Book old = book;
        book = spare;
        spare = old;
        marks = 0;
        worlds.forget();
        plan.forget();
        journey.forget();
    }

    private boolean preparePlan(int day) {
        if (book.townCount == 0 || !within(day, 0, LAST_DAY)) {
            return false;
        }
        plan.prepare(book, day);
        return true;
    }

    private boolean prepareJourney(int from, int to) {
        if (book.townCount == 0 || !within(to, 0, LAST_DAY) || !within(from, 0, to)) {
            return false;
        }
        journey.prepare(book, from, to);
        return true;
    }

    private Clock clockOf(int town) {
        return within(town, 0, book.townCount - 1) ? book.towns[town] : null;
    }

    private static int clockTime(int day, int minutes) {
        return within(day, 0, LAST_DAY) && within(minutes, 0, DAY - 1) ? day * DAY + minutes : NONE;
    }

    private static int paidMinutes(Clock clock, int time, int time2, int how) {
        switch (how) {
            case 0:
                return time2 - time;
            case 1:
                return clock.firstOf(time2) - clock.firstOf(time);
            case 2:
                return clock.lastOf(time2) - clock.firstOf(time);
            default:
                return clock.firstOf(time2) - clock.lastOf(time);
        }
    }

    private static boolean within(int value, int low, int high) {
        return value >= low && value <= high;
    }

    /** The signs that were fed and not yet read. */
    private static final class Tape {
        static final int LIMIT = 1000;

        final byte[] signs = new byte[LIMIT];
        int length;

        void append(long bytes) {
            for (int shift = 56; shift >= 0; shift -= 8) {
                int sign = (int) (bytes >>> shift & 255);
                if ((sign == 10 || within(sign, 32, 126)) && length < LIMIT) {
                    signs[length] = (byte) sign;
                    length++;
                }
            }
        }
    }

    /** The clock of a TOWN, with the puttings back that were told of it. */
    private static final class Clock {
        static final int LIMIT = 12;

        /** The strokes as clock times (day * 1440 + 60 * stroke), the least first. */
        final int[] strokes = new int[LIMIT];
        int count;

        /** A stroke of 24 is the next day's beginning, yet belongs to the day ahead. */
        static int dayOf(int stroke) {
            return (stroke - 1) / DAY;
        }

        /** The stroke told for a day as a clock time, or NONE. */
        int strokeOn(int day) {
            for (int i = 0; i < count; i++) {
                if (dayOf(strokes[i]) == day) {
                    return strokes[i];
                }
            }
            return NONE;
        }

        void add(int stroke) {
            if (count >= LIMIT) {
                return;
            }
            int at = count;
            while (at > 0 && strokes[at - 1] > stroke) {
                strokes[at] = strokes[at - 1];
                at--;
            }
            strokes[at] = stroke;
            count++;
        }

        /** The true minute of the i-th putting back: those ahead of it have each made it an hour later. */
        int minuteOf(int i) {
            return strokes[i] + HOUR * i;
        }

        int backsBy(int minute) {
            int backs = 0;
            while (backs < count && minuteOf(backs) <= minute) {
                backs++;
            }
            return backs;
        }

        int showsAt(int minute) {
            return minute - HOUR * backsBy(minute);
        }

        int firstOf(int time) {
            return time + HOUR * strokesUpTo(time);
        }

        int lastOf(int time) {
            return time + HOUR * strokesUpTo(time + HOUR);
        }

        boolean hasTwice(int time) {
            return strokesUpTo(time + HOUR) > strokesUpTo(time);
        }

        private int strokesUpTo(int time) {
            int passed = 0;
            while (passed < count && strokes[passed] <= time) {
                passed++;
            }
            return passed;
        }
    }

    /** All that a text tells. Rows of several parts lie flat, one behind the other. */
    private static final class Book {
        static final int TOWNS = 3;
        static final int WORKS = 8;
        static final int PERSONS = 9;
        static final int PAPERS = 12;
        static final int RULES = 16;
        static final int NAMES = TOWNS + WORKS + PERSONS + PAPERS;

        /** day, from, to, long, worth */
        static final int WORK_PARTS = 5;
        /** TOWN, day, minutes, which (0 either, 1 first, 2 second) */
        static final int PAPER_PARTS = 4;
        /** 1 for within and 0 for after, the one PAPER, the other one, minutes */
        static final int RULE_PARTS = 4;

        final Clock[] towns = new Clock[TOWNS];
        final int[] ways = new int[TOWNS * TOWNS];
        final int[] works = new int[WORKS * WORK_PARTS];
        final int[] wishes = new int[PERSONS * STROKES];
        final int[] papers = new int[PAPERS * PAPER_PARTS];
        final int[] rules = new int[RULES * RULE_PARTS];
        final long[] names = new long[NAMES];
        /** Of each NAME what it names: the number of the kind's word, and the number within the kind. */
        final int[] nameKinds = new int[NAMES];
        final int[] nameNumbers = new int[NAMES];
        int townCount;
        int wayCount;
        int workCount;
        int personCount;
        int paperCount;
        int ruleCount;
        int nameCount;

        Book() {
            for (int i = 0; i < TOWNS; i++) {
                towns[i] = new Clock();
            }
        }

        void clear() {
            for (int i = 0; i < TOWNS; i++) {
                towns[i].count = 0;
            }
            Arrays.fill(ways, 0);
            Arrays.fill(wishes, 0);
            townCount = 0;
            wayCount = 0;
            workCount = 0;
            personCount = 0;
            paperCount = 0;
            ruleCount = 0;
            nameCount = 0;
        }

        int findName(long name) {
            for (int i = 0; i < nameCount; i++) {
                if (names[i] == name) {
                    return i;
                }
            }
            return NONE;
        }

        void addName(long name, int kind, int number) {
            if (nameCount < NAMES) {
                names[nameCount] = name;
                nameKinds[nameCount] = kind;
                nameNumbers[nameCount] = number;
                nameCount++;
            }
        }

        boolean hasWay(int a, int b) {
            return ways[a * TOWNS + b] > 0;
        }

        void addWay(int a, int b, int minutes) {
            ways[a * TOWNS + b] = minutes;
            ways[b * TOWNS + a] = minutes;
            wayCount++;
        }

        /** With three TOWNS the shortest way goes over one other TOWN at most. */
        int shortestWay(int a, int b) {
            if (a == b) {
                return 0;
            }
            int shortest = hasWay(a, b) ? ways[a * TOWNS + b] : NONE;
            for (int over = 0; over < townCount; over++) {
                if (hasWay(a, over) && hasWay(over, b)) {
                    int detour = ways[a * TOWNS + over] + ways[over * TOWNS + b];
                    shortest = shortest == NONE ? detour : Math.min(shortest, detour);
                }
            }
            return shortest;
        }

        int worthOf(int person, int stroke) {
            return wishes[person * STROKES + stroke - 1];
        }

        void setWorth(int person, int stroke, int worth) {
            wishes[person * STROKES + stroke - 1] = worth;
        }

        /** How many PERSONS have the stroke worth more than the other one. */
        int friendsOf(int stroke, int other) {
            int friends = 0;
            for (int person = 0; person < personCount; person++) {
                if (worthOf(person, stroke) > worthOf(person, other)) {
                    friends++;
                }
            }
            return friends;
        }
    }

    /** Reads a text as a BOOK, token by token, up to its first FAULT. */
    private static final class Reader {
        /** In the order of the numbers TOWN to WITHIN, each with a blank behind it. */
        static final String KEYWORDS =
            "town back at way work day from to long worth person hour paper in first second after within ";

        static final int END = 0;
        static final int NO_TOKEN = 1;
        static final int SEMICOLON = 2;
        static final int NUMBER = 3;
        static final int NAME = 4;
        static final int TOWN = 5;
        static final int BACK = 6;
        static final int AT = 7;
        static final int WAY = 8;
        static final int WORK = 9;
        static final int DAY_WORD = 10;
        static final int FROM = 11;
        static final int TO = 12;
        static final int LONG = 13;
        static final int WORTH = 14;
        static final int PERSON = 15;
        static final int HOUR_WORD = 16;
        static final int PAPER = 17;
        static final int IN = 18;
        static final int FIRST = 19;
        static final int SECOND = 20;
        static final int AFTER = 21;
        static final int WITHIN = 22;

        static final int OUT_OF_PLACE = 1;
        static final int UNKNOWN_NAME = 2;
        static final int TOLD_ALREADY = 3;
        static final int WRONG_NUMBER = 4;
        static final int TOO_MANY = 5;
        static final int PLACE_FACTOR = 16;

        static final int WORD_LETTERS = 8;
        static final int NUMBER_DIGITS = 4;
        static final int LETTER_BASE = 32;
        static final int MOST_WORTH = 999;
        static final int MOST_WISHED = 99;

        final long[] keywords = new long[WITHIN - TOWN + 1];
        /** A NUMBER that is looked at behind its reading is laid here. */
        final int[] kept = new int[1];
        private Tape tape;
        private Book book;
        private int next;
        private int fault;
        /** The token that is looked at: what it is, where it stands, its NUMBER or its WORD. */
        private int kind;
        private int place;
        private int value;
        private long word;

        Reader() {
            int k = 0;
            for (int i = 0; i < KEYWORDS.length() && k < keywords.length; i++) {
                char sign = KEYWORDS.charAt(i);
                if (sign == ' ') {
                    k++;
                } else {
                    keywords[k] = keywords[k] * LETTER_BASE + letterNumber(sign);
                }
            }
        }

        /** The FAULT, or 0: then the BOOK holds what the TAPE tells. */
        int read(Tape from, Book into) {
            tape = from;
            book = into;
            book.clear();
            next = 0;
            fault = 0;
            advance();
            for (int told = 0; told < Tape.LIMIT && fault == 0 && kind != END; told++) {
                switch (kind) {
                    case TOWN:
                        readTown();
                        break;
                    case BACK:
                        readBack();
                        break;
                    case WAY:
                        readWay();
                        break;
                    case WORK:
                        readWork();
                        break;
                    case PERSON:
                        readPerson();
                        break;
                    case PAPER:
                        readPaper();
                        break;
                    case AFTER:
                    case WITHIN:
                        readRule();
                        break;
                    default:
                        check(false, OUT_OF_PLACE);
                }
            }
            return fault;
        }

        private void readTown() {
            int town = book.townCount;
            if (takeOneMore(town < Book.TOWNS) && takeNewName(TOWN, town)) {
                book.townCount++;
                take(SEMICOLON);
            }
        }

        private void readBack() {
            if (!check(book.townCount > 0, OUT_OF_PLACE)) {
                return;
            }
            Clock clock = book.towns[book.townCount - 1];
            if (!takeOneMore(clock.count < Clock.LIMIT)) {
                return;
            }
            int day = value;
            if (!isNumber(0, LAST_DAY) || !check(clock.strokeOn(day) == NONE, TOLD_ALREADY)) {
                return;
            }
            advance();
            if (take(AT) && takeNumber(1, STROKES, kept, 0)) {
                clock.add(day * DAY + kept[0] * HOUR);
                take(SEMICOLON);
            }
        }

        private void readWay() {
            advance();
            int a = toldName(TOWN);
            if (a == NONE) {
                return;
            }
            advance();
            int b = toldName(TOWN);
            if (b == NONE || !check(a != b && !book.hasWay(a, b), TOLD_ALREADY)) {
                return;
            }
            advance();
            if (takeNumber(1, LAST_LENGTH, kept, 0)) {
                book.addWay(a, b, kept[0]);
                take(SEMICOLON);
            }
        }

        private void readWork() {
            int work = book.workCount;
            if (!takeOneMore(work < Book.WORKS) || !takeNewName(WORK, work)) {
                return;
            }
            int[] row = book.works;
            int at = work * Book.WORK_PARTS;
            if (take(DAY_WORD) && takeNumber(0, LAST_DAY, row, at)
                && take(FROM) && takeNumber(0, DAY, row, at + 1)
                && take(TO) && takeNumber(row[at + 1] + 1, DAY, row, at + 2)
                && take(LONG) && takeNumber(1, DAY, row, at + 3)
                && take(WORTH) && takeNumber(0, MOST_WORTH, row, at + 4)) {
                book.workCount++;
                take(SEMICOLON);
            }
        }

        private void readPerson() {
            int person = book.personCount;
            if (!takeOneMore(person < Book.PERSONS) || !takeNewName(PERSON, person)) {
                return;
            }
            book.personCount++;
            int told = 0;
            for (int i = 0; i <= STROKES && kind == HOUR_WORD; i++) {
                advance();
                int stroke = value;
                if (!isNumber(1, STROKES) || !check((told >> stroke & 1) == 0, TOLD_ALREADY)) {
                    return;
                }
                told |= 1 << stroke;
                advance();
                if (!take(WORTH) || !takeNumber(0, MOST_WISHED, kept, 0)) {
                    return;
                }
                book.setWorth(person, stroke, kept[0]);
            }
            take(SEMICOLON);
        }

        private void readPaper() {
            int paper = book.paperCount;
            if (!takeOneMore(paper < Book.PAPERS) || !takeNewName(PAPER, paper) || !take(IN)) {
                return;
            }
            int[] row = book.papers;
            int at = paper * Book.PAPER_PARTS;
            row[at] = toldName(TOWN);
            if (row[at] == NONE) {
                return;
            }
            advance();
            if (take(DAY_WORD) && takeNumber(0, LAST_DAY, row, at + 1)
                && take(AT) && takeNumber(0, DAY - 1, row, at + 2)) {
                row[at + 3] = kind == FIRST ? 1 : kind == SECOND ? 2 : 0;
                if (row[at + 3] > 0) {
                    advance();
                }
                book.paperCount++;
                take(SEMICOLON);
            }
        }

        private void readRule() {
            int rule = book.ruleCount;
            int isWithin = kind == WITHIN ? 1 : 0;
            if (!takeOneMore(rule < Book.RULES)) {
                return;
            }
            int a = toldName(PAPER);
            if (a == NONE) {
                return;
            }
            advance();
            int b = toldName(PAPER);
            if (b == NONE || !check(a != b, TOLD_ALREADY)) {
                return;
            }
            advance();
            int at = rule * Book.RULE_PARTS;
            book.rules[at] = isWithin;
            book.rules[at + 1] = a;
            book.rules[at + 2] = b;
            if (takeNumber(0, LAST_LENGTH, book.rules, at + 3)) {
                book.ruleCount++;
                take(SEMICOLON);
            }
        }

        /** The word that begins a sentence, behind which there has to be room for one more. */
        private boolean takeOneMore(boolean room) {
            if (!check(room, TOO_MANY)) {
                return false;
            }
            advance();
            return true;
        }

        private boolean take(int wanted) {
            if (!check(kind == wanted, OUT_OF_PLACE)) {
                return false;
            }
            advance();
            return true;
        }

        private boolean takeNewName(int what, int number) {
            if (!check(kind == NAME, OUT_OF_PLACE) || !check(book.findName(word) == NONE, TOLD_ALREADY)) {
                return false;
            }
            book.addName(word, what, number);
            advance();
            return true;
        }

        /** The number of what the NAME names, or NONE with a FAULT; the NAME is not passed. */
        private int toldName(int what) {
            if (!check(kind == NAME, OUT_OF_PLACE)) {
                return NONE;
            }
            int at = book.findName(word);
            if (!check(at != NONE && book.nameKinds[at] == what, UNKNOWN_NAME)) {
                return NONE;
            }
            return book.nameNumbers[at];
        }

        private boolean isNumber(int low, int high) {
            return check(kind == NUMBER, OUT_OF_PLACE) && check(within(value, low, high), WRONG_NUMBER);
        }

        private boolean takeNumber(int low, int high, int[] row, int at) {
            if (!isNumber(low, high) || !within(at, 0, row.length - 1)) {
                return false;
            }
            row[at] = value;
            advance();
            return true;
        }

        /** What is not fine is the FAULT, of the token that is looked at. */
        private boolean check(boolean fine, int faultKind) {
            if (!fine) {
                fault = faultKind + PLACE_FACTOR * place;
            }
            return fine;
        }

        private void advance() {
            while (next < tape.length && (tape.signs[next] == ' ' || tape.signs[next] == '\n')) {
                next++;
            }
            place = next;
            value = 0;
            word = 0;
            if (next >= tape.length) {
                kind = END;
            } else if (isLetter(tape.signs[next])) {
                readWord();
            } else if (isDigit(tape.signs[next])) {
                readNumber();
            } else {
                kind = tape.signs[next] == ';' ? SEMICOLON : NO_TOKEN;
                next++;
            }
        }

        private void readWord() {
            while (next < tape.length && isLetter(tape.signs[next])) {
                word = word * LETTER_BASE + letterNumber(tape.signs[next]);
                next++;
            }
            kind = next - place > WORD_LETTERS ? NO_TOKEN : NAME;
            for (int k = 0; k < keywords.length && kind == NAME; k++) {
                if (keywords[k] == word) {
                    kind = TOWN + k;
                }
            }
        }

        private void readNumber() {
            while (next < tape.length && isDigit(tape.signs[next])) {
                value = value * 10 + tape.signs[next] - '0';
                next++;
            }
            kind = next - place > NUMBER_DIGITS ? NO_TOKEN : NUMBER;
        }

        /** From 1, so that no two WORDS of up to eight letters come to the same number. */
        private static int letterNumber(int sign) {
            return sign - 'a' + 1;
        }

        private static boolean isLetter(int sign) {
            return sign >= 'a' && sign <= 'z';
        }

        private static boolean isDigit(int sign) {
            return sign >= '0' && sign <= '9';
        }
    }

    /**
     * The WORLDS of a BOOK. A pick is a PAPER with one of its MOMENTS: 2 * PAPER for the first,
     * 2 * PAPER + 1 for the second. A WORLD is a number whose bits are the picks, the first PAPER's
     * highest, so that the WORLDS in their order are these numbers in theirs.
     */
    private static final class Worlds {
        static final int PICKS = 2 * Book.PAPERS;
        static final int LONG_BITS = 64;
        static final int NOT_SOUGHT = -2;
        static final int EARLIER = 1;
        static final int SAME = 2;
        static final int LATER = 4;

        final int[] moments = new int[PICKS];
        /** Of each pick, as bits, the picks it can't go with: itself, if it can't be at all. */
        final int[] clashes = new int[PICKS];
        /** Of each pick, as bits, all picks of the WORLDS it is in. */
        final int[] mates = new int[PICKS];
        /** The WORLDS, a bit for each. */
        final long[] found = new long[(1 << Book.PAPERS) / LONG_BITS];
        final int[] members = new int[Book.PAPERS];
        boolean ready;
        int papers;
        int total;
        private int apart;

        void forget() {
            ready = false;
        }

        void prepare(Book book) {
            if (ready) {
                return;
            }
            ready = true;
            papers = book.paperCount;
            total = 0;
            apart = NOT_SOUGHT;
            Arrays.fill(mates, 0);
            Arrays.fill(found, 0L);
            layMoments(book);
            layClashes(book);
            findAll();
        }

        int momentIn(int n, int paper) {
            int world = nthWorld(n);
            return moments[pickOf(world, paper, papers - 1 - paper)];
        }

        int sureMoment(int paper) {
            boolean first = mates[2 * paper] != 0;
            boolean second = mates[2 * paper + 1] != 0;
            if (first == second) {
                return NONE;
            }
            return moments[first ? 2 * paper : 2 * paper + 1];
        }

        int unsure() {
            int bits = 0;
            for (int paper = 0; paper < papers; paper++) {
                if (sureMoment(paper) == NONE) {
                    bits |= 1 << paper;
                }
            }
            return bits;
        }

        int canBe(int a, int b) {
            int bits = 0;
            for (int pick = 2 * a; pick <= 2 * a + 1; pick++) {
                for (int other = 2 * b; other <= 2 * b + 1; other++) {
                    if ((mates[pick] >> other & 1) == 1) {
                        bits |= relation(moments[pick], moments[other]);
                    }
                }
            }
            return bits;
        }

        private static int relation(int moment, int other) {
            if (moment == other) {
                return SAME;
            }
            return moment < other ? EARLIER : LATER;
        }

        /** The fewest PAPERS without a WORLD of their own, as bits; asked only if all have none. */
        int fewestApart() {
            if (apart == NOT_SOUGHT) {
                apart = seekApart();
            }
            return apart;
        }

        private int seekApart() {
            for (int size = 1; size <= papers; size++) {
                for (int bits = 1; bits < 1 << papers; bits++) {
                    if (Integer.bitCount(bits) == size && !canStand(bits)) {
                        return bits;
                    }
                }
            }
            return NONE;
        }

        private void layMoments(Book book) {
            for (int paper = 0; paper < papers; paper++) {
                int at = paper * Book.PAPER_PARTS;
                Clock clock = book.towns[book.papers[at]];
                int time = book.papers[at + 1] * DAY + book.papers[at + 2];
                int which = book.papers[at + 3];
                int pick = 2 * paper;
                moments[pick] = clock.firstOf(time);
                moments[pick + 1] = clock.lastOf(time);
                clashes[pick] = which == 2 ? 1 << pick : 0;
                clashes[pick + 1] = which == 1 || !clock.hasTwice(time) ? 1 << pick + 1 : 0;
            }
        }

        private void layClashes(Book book) {
            for (int rule = 0; rule < book.ruleCount; rule++) {
                int at = rule * Book.RULE_PARTS;
                int a = 2 * book.rules[at + 1];
                int b = 2 * book.rules[at + 2];
                for (int both = 0; both < 4; both++) {
                    int pick = a + (both & 1);
                    int other = b + (both >> 1);
                    int behind = moments[pick] - moments[other];
                    int minutes = book.rules[at + 3];
                    boolean holds = book.rules[at] == 1 ? Math.abs(behind) <= minutes : behind >= minutes;
                    if (!holds) {
                        clashes[pick] |= 1 << other;
                        clashes[other] |= 1 << pick;
                    }
                }
            }
        }

        private void findAll() {
            int size = selectMembers((1 << papers) - 1);
            for (int world = 0; world < 1 << size; world++) {
                int good = goodMembers(world, size);
                if (good == size) {
                    addWorld(world);
                } else {
                    world |= alikeBelow(size, good);
                }
            }
        }

        private boolean canStand(int bits) {
            int size = selectMembers(bits);
            for (int world = 0; world < 1 << size; world++) {
                int good = goodMembers(world, size);
                if (good == size) {
                    return true;
                }
                world |= alikeBelow(size, good);
            }
            return false;
        }

        private int selectMembers(int bits) {
            int size = 0;
            for (int paper = 0; paper < papers; paper++) {
                if ((bits >> paper & 1) == 1) {
                    members[size] = paper;
                    size++;
                }
            }
            return size;
        }

        /** How many members, from the first on, can be as this world says. */
        private int goodMembers(int world, int size) {
            int barred = 0;
            for (int i = 0; i < size; i++) {
                int pick = pickOf(world, members[i], size - 1 - i);
                barred |= clashes[pick];
                if ((barred >> pick & 1) == 1) {
                    return i;
                }
            }
            return size;
        }

        /** The bits behind the member that can't be: however they are, it can't, so they are passed over. */
        private static int alikeBelow(int size, int bad) {
            return (1 << size - 1 - bad) - 1;
        }

        private static int pickOf(int world, int paper, int bit) {
            return 2 * paper + (world >> bit & 1);
        }

        private void addWorld(int world) {
            found[world / LONG_BITS] |= 1L << world % LONG_BITS;
            total++;
            int picks = 0;
            for (int paper = 0; paper < papers; paper++) {
                picks |= 1 << pickOf(world, paper, papers - 1 - paper);
            }
            for (int paper = 0; paper < papers; paper++) {
                mates[pickOf(world, paper, papers - 1 - paper)] |= picks;
            }
        }

        private int nthWorld(int n) {
            int left = n;
            for (int i = 0; i < found.length; i++) {
                int here = Long.bitCount(found[i]);
                if (left < here) {
                    return i * LONG_BITS + nthBit(found[i], left);
                }
                left -= here;
            }
            return 0;
        }

        private static int nthBit(long bits, int n) {
            int left = n;
            for (int bit = 0; bit < LONG_BITS; bit++) {
                if ((bits >>> bit & 1) == 1) {
                    if (left == 0) {
                        return bit;
                    }
                    left--;
                }
            }
            return 0;
        }
    }

    /** The BEST of one day, kept until another day or BOOK is asked for. */
    private static final class Plan {
        static final int SETS = 1 << Book.WORKS;
        /** Later than any work can end. */
        static final int FAR_OFF = 99_999_999;

        /** When a work may begin, in true minutes: ahead of the putting back, and behind it. */
        final int[] opens = new int[2 * Book.WORKS];
        final int[] closes = new int[2 * Book.WORKS];
        /** Of each set of works the latest minute from which on all can still be done, or NONE. */
        final int[] latest = new int[SETS];
        final int[] row = new int[Book.WORKS];
        final int[] starts = new int[Book.WORKS];
        int length;
        int worth;
        int plainWorth;
        /** The works of the BEST, as bits. */
        int chosen;
        private int preparedDay = NONE;

        void forget() {
            preparedDay = NONE;
        }

        void prepare(Book book, int day) {
            if (preparedDay == day) {
                return;
            }
            preparedDay = day;
            int stroke = book.towns[0].strokeOn(day);
            weigh(book, day, NONE);
            plainWorth = worth;
            if (stroke != NONE) {
                weigh(book, day, stroke - day * DAY);
            }
            layRow(book);
        }

        /** The most worth with the clock put back at these minutes of the day (NONE: not put back). */
        private void weigh(Book book, int day, int stroke) {
            int begin = book.towns[0].firstOf(day * DAY);
            int today = 0;
            for (int work = 0; work < book.workCount; work++) {
                if (book.works[work * Book.WORK_PARTS] == day) {
                    today |= 1 << work;
                    layWindows(book, work, begin, stroke);
                }
            }
            worth = 0;
            chosen = 0;
            latest[0] = FAR_OFF;
            for (int set = 1; set < 1 << book.workCount; set++) {
                if ((set & ~today) == 0) {
                    latest[set] = latestFor(book, set);
                    keepIfBetter(book, set);
                }
            }
        }

        private void layWindows(Book book, int work, int begin, int stroke) {
            int from = book.works[work * Book.WORK_PARTS + 1];
            int to = book.works[work * Book.WORK_PARTS + 2];
            int at = 2 * work;
            opens[at] = begin + from;
            closes[at] = begin + (stroke == NONE ? to : Math.min(to, stroke));
            opens[at + 1] = begin + HOUR + (stroke == NONE ? to : Math.max(from, stroke - HOUR));
            closes[at + 1] = begin + HOUR + to;
        }

        private int latestFor(Book book, int set) {
            int best = NONE;
            for (int work = 0; work < book.workCount; work++) {
                if ((set >> work & 1) == 1) {
                    int rest = latest[set & ~(1 << work)];
                    best = Math.max(best, latestBegin(work, rest - lengthOf(book, work)));
                }
            }
            return best;
        }

        private void keepIfBetter(Book book, int set) {
            if (latest[set] == NONE) {
                return;
            }
            int sum = 0;
            for (int work = 0; work < book.workCount; work++) {
                if ((set >> work & 1) == 1) {
                    sum += book.works[work * Book.WORK_PARTS + 4];
                }
            }
            if (sum > worth) {
                worth = sum;
                chosen = set;
            }
        }

        private void layRow(Book book) {
            length = Integer.bitCount(chosen);
            int left = chosen;
            int minute = 0;
            for (int i = 0; i < length; i++) {
                int work = firstThatLeavesRoom(book, left, minute);
                row[i] = work;
                starts[i] = earliestBegin(work, minute);
                minute = starts[i] + lengthOf(book, work);
                left &= ~(1 << work);
            }
        }

        /** The least work that can be next so that all others can be done behind it. */
        private int firstThatLeavesRoom(Book book, int left, int minute) {
            for (int work = 0; work < book.workCount; work++) {
                if ((left >> work & 1) == 1) {
                    int start = earliestBegin(work, minute);
                    if (start != NONE && start + lengthOf(book, work) <= latest[left & ~(1 << work)]) {
                        return work;
                    }
                }
            }
            return 0;
        }

        private int earliestBegin(int work, int minute) {
            for (int at = 2 * work; at <= 2 * work + 1; at++) {
                int start = Math.max(minute, opens[at]);
                if (start < closes[at]) {
                    return start;
                }
            }
            return NONE;
        }

        private int latestBegin(int work, int minute) {
            for (int at = 2 * work + 1; at >= 2 * work; at--) {
                int start = Math.min(minute, closes[at] - 1);
                if (start >= opens[at]) {
                    return start;
                }
            }
            return NONE;
        }

        private static int lengthOf(Book book, int work) {
            return book.works[work * Book.WORK_PARTS + 3];
        }
    }

    /** The stroke to choose, by several ways; strokes are counted from 1 in all rows. */
    private static final class Votes {
        static final int ALL = (1 << STROKES + 1) - 2;

        final int[] points = new int[STROKES + 1];

        int elect(Book book, int way) {
            switch (way) {
                case 0:
                    castVotes(book, ALL);
                    return mostPoints();
                case 1:
                    addWorths(book);
                    return mostPoints();
                case 2:
                    addPlaces(book);
                    return mostPoints();
                case 3:
                    return beatsAll(book);
                case 4:
                    return runOff(book);
                case 5:
                    takeLeastWorths(book);
                    return mostPoints();
                default:
                    return NONE;
            }
        }

        private void castVotes(Book book, int left) {
            Arrays.fill(points, 0);
            for (int person = 0; person < book.personCount; person++) {
                points[dearest(book, person, left)]++;
            }
        }

        private static int dearest(Book book, int person, int left) {
            int dearest = 0;
            for (int stroke = 1; stroke <= STROKES; stroke++) {
                boolean in = (left >> stroke & 1) == 1;
                if (in && (dearest == 0 || book.worthOf(person, stroke) > book.worthOf(person, dearest))) {
                    dearest = stroke;
                }
            }
            return dearest;
        }

        private void addWorths(Book book) {
            Arrays.fill(points, 0);
            for (int stroke = 1; stroke <= STROKES; stroke++) {
                for (int person = 0; person < book.personCount; person++) {
                    points[stroke] += book.worthOf(person, stroke);
                }
            }
        }

        private void addPlaces(Book book) {
            Arrays.fill(points, 0);
            for (int stroke = 1; stroke <= STROKES; stroke++) {
                for (int other = 1; other <= STROKES; other++) {
                    points[stroke] += book.friendsOf(stroke, other);
                }
            }
        }

        private void takeLeastWorths(Book book) {
            for (int stroke = 1; stroke <= STROKES; stroke++) {
                points[stroke] = book.worthOf(0, stroke);
                for (int person = 1; person < book.personCount; person++) {
                    points[stroke] = Math.min(points[stroke], book.worthOf(person, stroke));
                }
            }
        }

        private int mostPoints() {
            int best = 1;
            for (int stroke = 2; stroke <= STROKES; stroke++) {
                if (points[stroke] > points[best]) {
                    best = stroke;
                }
            }
            return best;
        }

        private static int beatsAll(Book book) {
            for (int stroke = 1; stroke <= STROKES; stroke++) {
                int beaten = 0;
                for (int other = 1; other <= STROKES; other++) {
                    if (book.friendsOf(stroke, other) > book.friendsOf(other, stroke)) {
                        beaten++;
                    }
                }
                if (beaten == STROKES - 1) {
                    return stroke;
                }
            }
            return NONE;
        }

        private int runOff(Book book) {
            int left = ALL;
            for (int round = 1; round < STROKES; round++) {
                castVotes(book, left);
                int first = mostPoints();
                if (2 * points[first] > book.personCount) {
                    return first;
                }
                left &= ~(1 << fewestPoints(left));
            }
            return Integer.numberOfTrailingZeros(left);
        }

        /** Of equal ones the greatest stroke. */
        private int fewestPoints(int left) {
            int fewest = 0;
            for (int stroke = STROKES; stroke >= 1; stroke--) {
                boolean in = (left >> stroke & 1) == 1;
                if (in && (fewest == 0 || points[stroke] < points[fewest])) {
                    fewest = stroke;
                }
            }
            return fewest;
        }
    }

    /** GOING ABOUT from a day to a day, kept until others or another BOOK are asked for. */
    private static final class Journey {
        static final int STOPS = Book.TOWNS * Clock.LIMIT;

        /** The puttings back of these days, by true minute and then by TOWN. */
        final int[] minutes = new int[STOPS];
        final int[] towns = new int[STOPS];
        /** How many hours can be had twice from this stop on, it being the first. */
        final int[] chains = new int[STOPS];
        /** The stops of the first row with the most hours. */
        final int[] row = new int[STOPS];
        int length;
        private int count;
        private int preparedFrom = NONE;
        private int preparedTo = NONE;

        void forget() {
            preparedFrom = NONE;
        }

        void prepare(Book book, int from, int to) {
            if (preparedFrom == from && preparedTo == to) {
                return;
            }
            preparedFrom = from;
            preparedTo = to;
            gather(book, from, to);
            measureChains(book);
            layRow(book);
        }

        private void gather(Book book, int from, int to) {
            count = 0;
            for (int town = 0; town < book.townCount; town++) {
                Clock clock = book.towns[town];
                for (int i = 0; i < clock.count; i++) {
                    if (within(Clock.dayOf(clock.strokes[i]), from, to)) {
                        insert(clock.minuteOf(i), town);
                    }
                }
            }
        }

        /** The TOWNS come in their order: behind those of the same minute is the right place. */
        private void insert(int minute, int town) {
            if (count >= STOPS) {
                return;
            }
            int at = count;
            while (at > 0 && minutes[at - 1] > minute) {
                minutes[at] = minutes[at - 1];
                towns[at] = towns[at - 1];
                at--;
            }
            minutes[at] = minute;
            towns[at] = town;
            count++;
        }

        private void measureChains(Book book) {
            length = 0;
            for (int stop = count - 1; stop >= 0; stop--) {
                chains[stop] = 1;
                for (int later = stop + 1; later < count; later++) {
                    if (chains[later] >= chains[stop] && canFollow(book, stop, later)) {
                        chains[stop] = chains[later] + 1;
                    }
                }
                length = Math.max(length, chains[stop]);
            }
        }

        private void layRow(Book book) {
            int laid = 0;
            for (int stop = 0; stop < count && laid < length; stop++) {
                if (chains[stop] == length - laid && (laid == 0 || canFollow(book, row[laid - 1], stop))) {
                    row[laid] = stop;
                    laid++;
                }
            }
        }

        private boolean canFollow(Book book, int stop, int later) {
            int way = book.shortestWay(towns[stop], towns[later]);
            return way != NONE && minutes[stop] + HOUR + way <= minutes[later] - HOUR;
        }
    }
}
