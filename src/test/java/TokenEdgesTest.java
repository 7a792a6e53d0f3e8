/** Promise 3: the edges of TOKENS and NAMES, each sentence by itself. */
public final class TokenEdgesTest {
    private static final String[] KEYWORDS = {"town", "back", "at", "way", "work", "day", "from", "to", "long", "worth", "person",
        "hour", "paper", "in", "first", "second", "after", "within"};

    public static void main(String[] args) {
        words();
        letters();
        numbers();
        digits();
        behindNumbers();
        allElse();
        asLongAsCanBe();
        blanks();
        keywords();
        alike();
        Due.end("TokenEdgesTest");
    }

    private static void words() {
        Due.promise(3, "WORDS (8 letters at most)");
        for (int length = 1; length <= 8; length++) {
            Due.due("a NAME of " + length, Due.of("town " + "k".repeat(length) + ";").count(0), 1);
        }
        Due.promise(3, "a longer WORD is none, at its first sign");
        int[] tooLong = {9, 10, 16, 17, 64, 65, 900, 986};
        for (int length : tooLong) {
            Due.fault(1, "town @" + "k".repeat(length));
            Due.fault(1, "town a;@" + "t".repeat(length - 4) + "town");
            Due.fault(1, "town abcdefgh;way @abcdefgh" + "k".repeat(length - 8));
        }
        Due.fault(1, "@" + "k".repeat(1000));
        Due.promise(3, "no two WORDS of up to 8 letters are the same that are not alike");
        Due.of("town abcdefgh; town abcdefgi; town bbcdefgh;");
        Due.of("town a; town aa; town aaaaaaaa;");
        Due.of("town z; town zzzzzzzz; person zzzzzzzy; person yzzzzzzz;");
        Due.fault(2, "town aaaaaaaa; town b; way b @aaaaaaa 5;");
    }

    private static void letters() {
        Due.promise(3, "letters a .. z");
        for (char c = 'a'; c <= 'z'; c++) {
            Due.due("a NAME " + c, Due.of("town " + c + ";").count(0), 1);
            Due.due("in a NAME " + c, Due.of("town k" + c + "k;").count(0), 1);
        }
        char[] others = {'`', '{', 'A', 'Z', '_'};
        for (char c : others) {
            Due.fault("town " + c, 1, 5);
            Due.fault("town k" + c + "k;", 1, 6);
        }
        for (String word : KEYWORDS) {
            Due.fault("" + Character.toUpperCase(word.charAt(0)) + word.substring(1) + " a", 1, 0);
        }
    }

    private static void numbers() {
        Due.promise(3, "NUMBERS (1 to 4 digits)");
        String[] sevens = {"7", "07", "007", "0007"};
        for (String seven : sevens) {
            Due.due("day " + seven, Due.of("town a;back " + seven + " at 2;").moment(0, 7, 60, 0), 2);
        }
        Due.due("0000", Due.of("town a;back 0000 at 0002;").moment(0, 0, 60, 0), 2);
        Due.due("9999", Due.of("town a;town b;way a b 9999;").way(0, 1), 9999);
        Due.promise(3, "a longer NUMBER is none, at its first sign");
        String[] none = {"00000", "00007", "10000", "99999", "2147483648", "4294967297", "4294967303", "18446744073709551623"};
        for (String number : none) {
            Due.fault(1, "town a;back @" + number + " at 2;");
            Due.fault(1, "town a;back 7 at @" + number + ";");
            Due.fault(1, "town a;@" + number);
        }
        Due.fault(1, "town a;back @" + "0".repeat(987) + "7");
    }

    private static void digits() {
        Due.promise(3, "digits 0 to 9");
        for (int digit = 0; digit <= 9; digit++) {
            Due.due("day " + digit, Due.of("town a;back " + digit + " at 2;").moment(0, digit, 60, 0), 2);
            Due.due("day 1" + digit + "5", Due.of("town a;back 1" + digit + "5 at 2;").moment(0, 105 + 10 * digit, 60, 0), 2);
        }
        Due.fault(1, "town a;back @/ at 2;");
        Due.fault(1, "town a;back @: at 2;");
        Due.fault(1, "town a;back 1@/2 at 2;");
        Due.fault(1, "town a;back 1@:2 at 2;");
        Due.fault(1, "town a;back @-1 at 2;");
        Due.fault(1, "town a;back @+1 at 2;");
    }

    private static void behindNumbers() {
        Due.promise(3, "a letter may stand right behind a NUMBER");
        Due.due("1at", Due.of("town a;back 1at 2;").moment(0, 1, 60, 0), 2);
        Due.due("0001at", Due.of("town a;back 0001at 2;").moment(0, 1, 60, 0), 2);
        HourAgain x = Due.of("town a;work w day 1from 2to 3long 4worth 5;person p hour 6worth 7hour 8worth 9;paper q in a day 1at 2first;");
        Due.due("worth 5", x.work(0, 4), 5);
        Due.due("hour 8 worth 9", x.wish(0, 8), 9);
        Due.due("first", x.paper(0, 3), 1);
        Due.promise(3, "a NUMBER may stand right behind a WORD, the sign ; behind both");
        HourAgain y = Due.of("town a;back1at2;town b;way a b7;");
        Due.due("back1at2", y.moment(0, 1, 60, 0), 2);
        Due.due("b7", y.way(0, 1), 7);
        Due.fault(1, "town a@1;");
        Due.fault(1, "town a;back 1@a 2;");
    }

    private static void allElse() {
        Due.promise(3, "All else is none");
        for (char sign = 33; sign <= 126; sign++) {
            boolean letter = sign >= 'a' && sign <= 'z';
            boolean digit = sign >= '0' && sign <= '9';
            if (!letter && !digit) {
                if (sign != ';') {
                    Due.fault("town a" + sign, 1, 6);
                }
                Due.fault("" + sign, 1, 0);
                Due.fault("town " + sign, 1, 5);
                Due.fault("town a;back " + sign, 1, 12);
                Due.fault("town a;back 1" + sign, 1, 13);
                Due.fault("town a;back 1 at 2" + (sign == ';' ? ";;" : "" + sign), 1, sign == ';' ? 19 : 18);
            }
        }
    }

    private static void asLongAsCanBe() {
        Due.promise(3, "TOKENS, each as long as can be");
        Due.fault(1, "@towna;");
        Due.fault(1, "town a;@backs 1 at 2;");
        Due.fault(1, "town a;back 1 @atat 2;");
        Due.fault(1, "town a;@bback 1 at 2;");
        Due.due("12 is one NUMBER", Due.of("town a;back 12at 3;").moment(0, 12, 120, 0), 2);
        for (String word : KEYWORDS) {
            if (word.length() < 8) {
                Due.of("town " + word + "x;");
                Due.of("town x" + word + ";");
            }
        }
    }

    private static void blanks() {
        Due.promise(3, "blanks (10, 32) between where one likes");
        String[] some = {" ", "\n", "  ", " \n", "\n ", "\n\n", " \n \n   "};
        for (String blank : some) {
            String text = "+town+a+;+back+1+at+2+;+paper+p+in+a+day+1+at+61+second+;+".replace("+", blank);
            Due.due("read", Due.of(text).sure(0), 1561);
        }
        Due.due("none where none is needed", Due.of("town a;back1at2;paper p in a day1at61second;").sure(0), 1561);
        Due.promise(3, "blanks alone are a BOOK of nothing");
        Due.due("none", Due.of("").count(0), 0);
        Due.due("one", Due.of(" ").count(0), 0);
        Due.due("the other", Due.of("\n").count(0), 0);
        Due.due("1,000", Due.of(" \n".repeat(500)).count(0), 0);
        Due.promise(3, "blanks part TOKENS");
        Due.fault(1, "town a @b;");
        Due.fault(1, "town a;back 1 @2 at 3;");
        Due.fault(1, "@tow n a;");
    }

    private static void keywords() {
        Due.promise(3, "A NAME is another WORD than town, back, ..");
        for (String word : KEYWORDS) {
            Due.fault(1, "town @" + word + ";");
            Due.fault(1, "work @" + word + " day 1 from 0 to 1 long 1 worth 1;");
            Due.fault(1, "person @" + word + ";");
            Due.fault(1, "town k;paper @" + word + " in k day 1 at 1;");
            Due.fault(1, "town k;way @" + word + " k 5;");
            Due.fault(1, "town k;way k @" + word + " 5;");
            Due.fault(1, "town k;paper p in @" + word + " day 1 at 1;");
            Due.fault(1, "town k;paper p in k day 1 at 1;after @" + word + " p 1;");
            Due.fault(1, "town k;paper p in k day 1 at 1;within p @" + word + " 1;");
        }
        String[] names = {"third", "hours", "clock", "wish", "book", "none", "worlds"};
        for (String name : names) {
            Due.due("a NAME " + name, Due.of("town " + name + ";").count(0), 1);
        }
    }

    private static void alike() {
        Due.promise(3, "no two (TOWNS, works, PERSONS, PAPERS) are alike");
        String[] told = {"town x;", "work x day 1 from 0 to 1 long 1 worth 1;", "person x;", "paper x in k day 1 at 1;"};
        for (String one : told) {
            for (String other : told) {
                int name = other.indexOf('x');
                Due.fault(3, "town k;" + one + other.substring(0, name) + "@" + other.substring(name));
                Due.of("town k;" + one + other.replace('x', 'y'));
            }
        }
        Due.promise(3, "a NAME is told from its own sentence on");
        Due.fault(2, "paper p in @p day 1 at 1;");
        Due.fault(2, "town a;way a @b 5;town b;");
        Due.fault(2, "town a;paper p in a day 1 at 1;after p @q 1;paper q in a day 1 at 1;");
    }
}
