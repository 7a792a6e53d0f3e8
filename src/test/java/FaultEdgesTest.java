/** Promise 3: each kind of FAULT and the place that it names, and what stays then. */
public final class FaultEdgesTest {
    private static final String TOLD = "town a;town b;paper p in a day 1 at 1;paper q in a day 1 at 1;";
    /** Each sentence, its TOKENS with a blank between, to be read behind what is told. */
    private static final String[] SENTENCES = {"town c ;", "back 1 at 2 ;", "way a b 5 ;",
        "work w day 1 from 2 to 3 long 4 worth 5 ;", "person r ;", "person r hour 1 worth 2 ;",
        "person r hour 1 worth 2 hour 3 worth 4 ;", "paper r in b day 1 at 2 ;", "paper r in b day 1 at 2 first ;",
        "paper r in b day 1 at 2 second ;", "after p q 5 ;", "within q p 5 ;"};

    public static void main(String[] args) {
        theEnd();
        noToken();
        outOfPlace();
        backAheadOfTown();
        unknown();
        toldAlready();
        notAsTold();
        oneTooMany();
        firstFromTheLeft();
        theLeast();
        allStays();
        takenOver();
        nothingIsLeft();
        Due.end("FaultEdgesTest");
    }

    private static void theEnd() {
        Due.promise(3, "the end being a token at the text's length");
        for (String sentence : SENTENCES) {
            String[] tokens = sentence.split(" ");
            StringBuilder text = new StringBuilder(TOLD);
            Due.of(TOLD + sentence);
            for (String token : tokens) {
                text.append(text.length() > TOLD.length() ? " " : "").append(token);
                if (!token.equals(";")) {
                    Due.fault(1, text + "@");
                    Due.fault(1, text + " @");
                    Due.fault(1, text + " \n  \n@");
                }
            }
        }
        Due.promise(3, "the end at the text's length, of 1,000 signs");
        Due.fault("town a" + " ".repeat(994), 1, 1000);
        Due.fault(" ".repeat(994) + "town a", 1, 1000);
        Due.promise(3, "the place (from 0) of a token");
        Due.fault(1, "@;");
        Due.fault(1, " @;");
        Due.fault(1, " ".repeat(999) + "@;");
    }

    private static void noToken() {
        Due.promise(3, "1 it is none");
        String[] none = {"+", "A", "abcdefghi", "12345", "?", "_"};
        eachPlace(none, false);
    }

    private static void outOfPlace() {
        Due.promise(3, "1 it can't stand there");
        String[] others = {";", "5", "zz", "town", "back", "at", "way", "work", "day", "from", "to", "long", "worth", "person",
            "hour", "paper", "in", "first", "second", "after", "within"};
        eachPlace(others, true);
        Due.promise(3, "1 what begins no sentence");
        String[] none = {";", "5", "a", "zz", "at", "day", "from", "to", "long", "worth", "hour", "in", "first", "second"};
        for (String token : none) {
            Due.fault(1, "@" + token);
            Due.fault(1, TOLD + "@" + token + " 1 at 1;");
            Due.fault(1, TOLD + "person r;@" + token);
        }
    }

    /** Each token behind the first one of each sentence is another one: that one is wrong, if it is of no kind that may stand there. */
    private static void eachPlace(String[] others, boolean mayFit) {
        for (String sentence : SENTENCES) {
            String[] tokens = sentence.split(" ");
            for (int i = 1; i < tokens.length; i++) {
                for (String other : others) {
                    if (!mayFit || !fits(tokens, i, other)) {
                        StringBuilder text = new StringBuilder(TOLD);
                        for (int k = 0; k < tokens.length; k++) {
                            text.append(k == i ? "@" + other : tokens[k]).append(' ');
                        }
                        Due.fault(1, text.toString());
                    }
                }
            }
        }
    }

    private static boolean isNumber(String token) {
        return Character.isDigit(token.charAt(0));
    }

    private static boolean isName(String token) {
        return token.length() < 3 && Character.isLetter(token.charAt(0)) && !token.equals("at") && !token.equals("to")
            && !token.equals("in");
    }

    private static boolean fits(String[] tokens, int i, String other) {
        String token = tokens[i];
        boolean wishMayFollow = tokens[0].equals("person") && (i == 2 || i == 6 || i == 10);
        boolean whichMayFollow = tokens[0].equals("paper") && i == 8;
        return token.equals(other) || isNumber(token) && isNumber(other) || isName(token) && isName(other)
            || wishMayFollow && (other.equals("hour") || other.equals(";"))
            || whichMayFollow && (other.equals("first") || other.equals("second") || other.equals(";"));
    }

    private static void backAheadOfTown() {
        Due.promise(3, "1 back ahead of a town");
        Due.fault(1, "@back 1 at 2;");
        Due.fault(1, "@back");
        Due.fault(1, "person p;@back 1 at 2;town a;");
        Due.of("town a;back 1 at 2;");
    }

    private static void unknown() {
        Due.promise(3, "2 a NAME of no TOWN told, where one is to be");
        String all = "town a;work w day 1 from 0 to 1 long 1 worth 1;person s;paper p in a day 1 at 1;";
        String[] noTown = {"w", "s", "p", "x"};
        for (String name : noTown) {
            Due.fault(2, all + "way @" + name + " a 5;");
            Due.fault(2, all + "way a @" + name + " 5;");
            Due.fault(2, all + "paper q in @" + name + " day 1 at 1;");
        }
        Due.promise(3, "2 a NAME of no PAPER told, where one is to be");
        String[] noPaper = {"w", "s", "a", "x"};
        for (String name : noPaper) {
            Due.fault(2, all + "after @" + name + " p 5;");
            Due.fault(2, all + "after p @" + name + " 5;");
            Due.fault(2, all + "within @" + name + " p 5;");
            Due.fault(2, all + "within p @" + name + " 5;");
        }
    }

    private static void toldAlready() {
        Due.promise(3, "3 a NAME told already");
        Due.fault(3, "town a;town @a;");
        Due.fault(3, "person a;person b;person @a;");
        Due.promise(3, "3 a day told in this TOWN");
        Due.fault(3, "town b;back 2 at 2;town a;back 1 at 2;back @1 at 3;");
        Due.of("town b;back 1 at 2;town a;back 1 at 2;");
        Due.promise(3, "3 the second NAME that is the first one");
        Due.fault(3, TOLD + "way b @b 5;");
        Due.fault(3, TOLD + "after q @q 5;");
        Due.fault(3, TOLD + "within q @q 5;");
        Due.promise(3, "3 a pair of TOWNS that has a way (at its second NAME)");
        Due.fault(3, TOLD + "way a b 5;way a @b 5;");
        Due.fault(3, TOLD + "way a b 5;way b @a 6;");
        Due.promise(3, "3 a stroke that is told of this PERSON");
        Due.fault(3, "person p hour 24 worth 1 hour @24 worth 1;");
        Due.fault(3, "person p hour 1 worth 0 hour 2 worth 0 hour @1 worth 0;");
        Due.of("person p hour 1 worth 0;person q hour 1 worth 0;");
    }

    private static void notAsTold() {
        Due.promise(3, "4 a NUMBER that is not as told");
        String[] wrong = {"back @3650 at 1;", "back 1 at @0;", "back 1 at @25;", "way a b @0;", "work w day @3650 from 0 to 1 long 1 worth 1;",
            "work w day 1 from @1441 to 1 long 1 worth 1;", "work w day 1 from 0 to @1441 long 1 worth 1;",
            "work w day 1 from 0 to 1 long @0 worth 1;", "work w day 1 from 0 to 1 long @1441 worth 1;",
            "work w day 1 from 0 to 1 long 1 worth @1000;", "person r hour @0 worth 1;", "person r hour @25 worth 1;",
            "person r hour 1 worth @100;", "paper r in a day @3650 at 1;", "paper r in a day 1 at @1440;"};
        for (String sentence : wrong) {
            Due.fault(4, TOLD + sentence);
            int place = sentence.indexOf('@');
            String cut = sentence.substring(0, sentence.indexOf(' ', place) < 0 ? sentence.length() - 1 : sentence.indexOf(' ', place));
            Due.fault(4, TOLD + cut);
        }
        Due.promise(3, "4 of to: not above from");
        Due.fault(4, "work w day 1 from 0 to @0");
        Due.fault(4, "work w day 1 from 9 to @9");
        Due.fault(4, "work w day 1 from 9 to @8");
    }

    private static void oneTooMany() {
        Due.promise(3, "5 one too many: the word of one more, ahead of all that stands behind it");
        StringBuilder backs = new StringBuilder("town a;");
        for (int day = 0; day < 12; day++) {
            backs.append("back ").append(day).append(" at 1;");
        }
        String[] behind = {"", " +", ";", " 1 at 1;", " a", " 9999"};
        for (String rest : behind) {
            Due.fault(5, "town a;town b;town c;@town" + rest);
            Due.fault(5, backs + "@back" + rest);
        }
        Due.promise(3, "5 not where it can't stand");
        Due.fault(1, "town a;town b;town c @town d;");
        Due.fault(1, backs.substring(0, backs.length() - 1) + "@back 12 at 1;");
        Due.promise(3, "5 a TOWN of its own may have 12 more");
        Due.of(backs + "town b;back 0 at 1;");
    }

    private static void firstFromTheLeft() {
        Due.promise(3, "of the first token from the left that is wrong");
        Due.fault(4, "town a;back @3650 at 25;+");
        Due.fault(3, "town a;town @a;town b +;");
        Due.fault(2, "town a;way @x y 0;");
        Due.fault(1, "town a @way x y 0;");
        Due.fault(3, "town a;back 1 at 1;back @1 at 99;");
        Due.fault(4, "work w day 1 from 5 to @5 long 0 worth 1000 +");
        Due.fault(5, "town a;town b;town c;@town a;back 3650");
        Due.fault(1, "@+town");
        Due.promise(3, "what stands behind is not looked at");
        Due.fault(1, "@;" + "~".repeat(999));
    }

    private static void theLeast() {
        Due.promise(3, "wrong the least: what can't stand there is 1, whatever else it is");
        Due.fault(1, "town a;town b;town c @town;");
        Due.fault(1, "town a;town b;way a @2 5;");
        Due.fault(1, "town a;town b;way a b @a;");
        Due.fault(1, "town a;back @a at 1;");
        Due.fault(1, "town a;back 1 at @a;");
        Due.fault(1, "town a;back 1 at 1;back @00001 at 1;");
        Due.fault(1, "person p hour 1 worth 1 hour @00001 worth 1;");
        Due.promise(3, "wrong the least: a NAME told that names no TOWN is 2");
        Due.fault(2, "town a;person p;way a @p 5;");
        Due.fault(2, "town a;paper p in a day 1 at 1;after p @a 5;");
    }

    private static String answers(HourAgain x) {
        StringBuilder all = new StringBuilder();
        for (int i = 0; i < 6; i++) {
            all.append(x.count(i)).append(' ').append(x.vote(i)).append(' ').append(x.best(1, i)).append(' ').append(x.order(1, i))
                .append(' ').append(x.begins(1, i)).append(' ').append(x.paper(0, i)).append(' ').append(x.work(0, i)).append(' ')
                .append(x.wish(0, i)).append(' ').append(x.sure(i)).append(' ').append(x.goes(0, 9, 0, i)).append(' ')
                .append(x.way(0, i)).append(' ').append(x.moment(0, 1, 60, i)).append(' ').append(x.before(0, i)).append(' ');
        }
        return all.append(x.worlds()).append(' ').append(x.together()).append(' ').append(x.open()).append(' ').append(x.most(0, 9))
            .append(' ').append(x.shown(0, 9999)).append(' ').append(x.backs(0, 9999)).append(' ').append(x.none(0, 1, 30))
            .append(' ').append(x.world(0, 0)).append(' ').append(x.deed(0, 1500, 99, 1)).append(' ').append(x.prefers(3, 2))
            .append(' ').append(x.wage(0, 1, 0, 1, 999, 60, 1)).append(' ').append(x.between(0, 1, 60, 1, 61, 2)).toString();
    }

    private static void allStays() {
        String text = "town a;back 1 at 2;town b;way a b 7;work w day 1 from 0 to 9 long 5 worth 6;person s hour 3 worth 4;"
            + "paper p in a day 1 at 61;paper q in a day 1 at 62;after q p 1;";
        String[] faults = {"+", "town c;+", "town c;back 1 at 9;way", "town a;back 1 at 2;back 2 at 9;person s hour 3 worth 99;person s",
            "town c;town d;town e;town f;", "town c;town d;way c d 9;paper p in c day 9 at 9;paper q in d day 9 at 9;after p q 9;way c d",
            "work w day 1 from 0 to 99 long 9 worth 99;work v day 1 from 0 to 99 long 9 worth 1000;"};
        for (String fault : faults) {
            Due.promise(3, "its FAULT (all stays then)");
            HourAgain x = Due.of(text);
            String before = answers(x);
            Due.due("a MARK is laid", x.mark(3, false), true);
            Due.due("a FAULT of " + fault, Due.read(x, fault) != 0, true);
            Due.due("all answers stay behind " + fault, answers(x).equals(before), true);
            Due.due("asked for the first time behind it", answers(faulted(text, fault)).equals(before), true);
            Due.promise(3, "its FAULT (all stays then), MARKS too");
            Due.due("MARK 3", x.mark(3, true), true);
            Due.due("MARK 2", x.mark(2, true), false);
            Due.promise(3, "its FAULT (all stays then), an empty BOOK too");
            HourAgain y = new HourAgain();
            Due.read(y, fault);
            for (int what = 0; what <= 6; what++) {
                Due.due("count(" + what + ")", y.count(what), 0);
            }
        }
    }

    private static HourAgain faulted(String text, String fault) {
        HourAgain x = Due.of(text);
        Due.read(x, fault);
        return x;
    }

    private static void takenOver() {
        Due.promise(3, "Without a FAULT it is the BOOK from then on; MARKS are gone");
        HourAgain x = Due.of("town a;back 1 at 2;town b;way a b 7;work w day 1 from 0 to 9 long 5 worth 6;person s hour 3 worth 4;"
            + "paper p in a day 1 at 61;paper q in a day 1 at 62;after q p 1;");
        String before = answers(x);
        Due.due("all is asked", before.isEmpty(), false);
        for (int mark = 0; mark < 4; mark++) {
            x.mark(mark, false);
        }
        String text = "town a;town b;back 1 at 2;work v day 1 from 1 to 10 long 5 worth 7;person r hour 4 worth 4;person s;"
            + "paper p in b day 1 at 61 second;";
        Due.due("another one", Due.read(x, text), 0);
        Due.due("all is of the new one", answers(x).equals(answers(Due.of(text))), true);
        for (int mark = 0; mark < 4; mark++) {
            Due.due("MARK " + mark, x.mark(mark, true), false);
        }
        Due.promise(3, "Without a FAULT it is the BOOK from then on, an empty one too");
        x.mark(1, false);
        Due.due("book() of nothing", x.book(), 0);
        for (int what = 0; what <= 6; what++) {
            Due.due("count(" + what + ")", x.count(what), 0);
        }
        Due.due("MARK 1", x.mark(1, true), false);
        Due.due("worlds()", x.worlds(), 1);
        Due.dueNone("best(1, 0)", x.best(1, 0));
        Due.dueNone("vote(0)", x.vote(0));
    }

    private static void nothingIsLeft() {
        String full = "town a;back 1 at 2;town b;back 2 at 3;town c;back 3 at 4;way a b 7;way b c 7;way a c 7;"
            + "work w day 1 from 0 to 9 long 5 worth 6;person s hour 3 worth 4 hour 24 worth 9;person r hour 1 worth 9;"
            + "paper p in a day 1 at 61;paper q in a day 1 at 62;after p q 1;";
        String bare = "town a;town b;town c;work w day 2 from 0 to 9 long 5 worth 6;person s;person r;"
            + "paper p in a day 1 at 61;paper q in a day 1 at 62;";
        String[] ahead = {full, full + "+", full + "town"};
        for (String text : ahead) {
            Due.promise(3, "it is the BOOK from then on: nothing of one read ahead is left, with a FAULT or without");
            HourAgain x = new HourAgain();
            for (int i = 0; i < 3; i++) {
                Due.due("ahead", Due.read(x, text) == 0, text.equals(full));
                Due.due("ahead again", Due.read(x, i % 2 == 0 ? text : full) == 0, text.equals(full) || i % 2 == 1);
                Due.due("book()", Due.read(x, bare), 0);
                bare(x);
            }
        }
    }

    private static void bare(HourAgain x) {
        int[] want = {3, 1, 2, 2, 0, 0, 0};
        for (int what = 0; what < want.length; what++) {
            Due.due("count(" + what + ")", x.count(what), want[what]);
        }
        for (int town = 0; town < 3; town++) {
            Due.due("backs(" + town + ", 9999999)", x.backs(town, 9999999), 0);
            Due.due("way(0, " + town + ")", x.way(0, town), town == 0 ? 0 : -1);
        }
        Due.dueNone("way(1, 2)", x.way(1, 2));
        for (int person = 0; person < 2; person++) {
            for (int stroke = 1; stroke <= 24; stroke++) {
                Due.due("wish(" + person + ", " + stroke + ")", x.wish(person, stroke), 0);
            }
        }
        Due.due("best(1, 0)", x.best(1, 0), 0);
        Due.due("most(0, 3649)", x.most(0, 3649), 0);
        Due.due("worlds()", x.worlds(), 1);
        Due.due("sure(1)", x.sure(1), 1502);
    }
}
