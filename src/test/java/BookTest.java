/** Promise 3: what is a BOOK, and each FAULT at its place. */
public final class BookTest {
    public static void main(String[] args) {
        tokens();
        names();
        towns();
        ways();
        works();
        persons();
        papers();
        rules();
        allStays();
        full();
        Due.end("BookTest");
    }

    private static void tokens() {
        Due.of("");
        Due.of(" \n  ");
        Due.of("town kk;back 1at 2;back 2 at 3\n;");
        Due.of("town kk;back1at2;back 0003 at 0024;");
        Due.of("town abcdefgh;");
        Due.fault("town abcdefghi;", 1, 5);
        Due.fault("townk;", 1, 0);
        Due.fault(" \n clock", 1, 3);
        Due.fault("town kk;back 00001 at 2;", 1, 13);
        Due.fault("town kk;back 12345 at 2;", 1, 13);
        Due.fault("town Kk;", 1, 5);
        Due.fault("town k-k;", 1, 6);
        Due.fault("town k k;", 1, 7);
        Due.fault(";", 1, 0);
        Due.fault("5", 1, 0);
        Due.fault("town kk;;", 1, 8);
        Due.fault("town", 1, 4);
        Due.fault("town  \n ", 1, 8);
        Due.fault("town kk", 1, 7);
        Due.fault("town kk   ", 1, 10);
        Due.fault("town 5;", 1, 5);
        Due.fault("town kk; at 5;", 1, 9);
        Due.fault("~", 1, 0);
    }

    private static void names() {
        String[] words = {"town", "back", "at", "way", "work", "day", "from", "to", "long", "worth", "person",
            "hour", "paper", "in", "first", "second", "after", "within"};
        for (String word : words) {
            Due.fault("town " + word + " ;", 1, 5);
            Due.fault("work " + word + " day 1", 1, 5);
            Due.fault("person " + word + " ;", 1, 7);
            Due.fault("paper " + word + " in", 1, 6);
            Due.fault("town kk; way " + word + " kk 5;", 1, 13);
            Due.fault("town kk; way kk " + word + " 5;", 1, 16);
            Due.fault("after " + word, 1, 6);
            Due.of("town " + word + "x ;");
            Due.of("town x" + word + " ;");
        }
        String all = "town a; work b day 1 from 0 to 1 long 1 worth 1; person c; paper d in a day 0 at 0;";
        Due.of(all);
        String[] told = {"a", "b", "c", "d"};
        for (String name : told) {
            int end = all.length();
            Due.fault(all + "town " + name, 3, end + 5);
            Due.fault(all + "work " + name, 3, end + 5);
            Due.fault(all + "person " + name, 3, end + 7);
            Due.fault(all + "paper " + name, 3, end + 6);
        }
        Due.fault(all + "way b a 5;", 2, all.length() + 4);
        Due.fault(all + "way a d 5;", 2, all.length() + 6);
        Due.fault(all + "after a d 5;", 2, all.length() + 6);
        Due.fault(all + "after d c 5;", 2, all.length() + 8);
        Due.fault(all + "paper e in d", 2, all.length() + 11);
        Due.fault("paper e in e day", 2, 11);
    }

    private static void towns() {
        Due.of("town a; town b; town c;");
        Due.fault("town a; town b; town c; town a;", 5, 24);
        Due.fault("back 1 at 1;", 1, 0);
        Due.of("town a; back 0 at 1; back 3649 at 24;");
        Due.fault("town a; back 3650 at 1;", 4, 13);
        Due.fault("town a; back 9 at 0;", 4, 18);
        Due.fault("town a; back 9 at 25;", 4, 18);
        Due.fault("town a; back 9 at 1; back 8 at 1; back 9 at 2;", 3, 39);
        Due.of("town a; back 9 at 24; back 10 at 1; town b; back 9 at 1;");
        Due.fault("town a; back 9 at 24; back 9 at 1;", 3, 27);
        Due.fault("town a; back at 1;", 1, 13);
        Due.fault("town a; back 1 1;", 1, 15);
        Due.fault("town a; back 1 at;", 1, 17);
        Due.fault("town a; back 1 at 1 1;", 1, 20);
        StringBuilder twelve = new StringBuilder("town a;");
        for (int day = 0; day < 12; day++) {
            twelve.append("back ").append(day).append(" at 5;");
        }
        Due.of(twelve.toString());
        Due.fault(twelve + "back 0 at 99;", 5, twelve.length());
        Due.of(twelve + "town b; back 0 at 9;");
    }

    private static void ways() {
        String three = "town a; town b; town c;";
        Due.of(three + "way a b 1; way c b 9999; way a c 5;");
        Due.fault(three + "way a b 0;", 4, 31);
        Due.fault(three + "way a a 1;", 3, 29);
        Due.fault(three + "way d a 1;", 2, 27);
        Due.fault(three + "way a d 1;", 2, 29);
        Due.fault(three + "way a b 1; way a b 1;", 3, 40);
        Due.fault(three + "way a b 1; way b a 1;", 3, 40);
        Due.fault(three + "way a b;", 1, 30);
        Due.fault(three + "way a 5;", 1, 29);
        Due.fault("way", 1, 3);
        Due.fault("way x", 2, 4);
    }

    private static void works() {
        Due.of("work w day 3649 from 0 to 1440 long 1440 worth 999;");
        Due.of("work w day 0 from 1439 to 1440 long 1 worth 0;");
        Due.fault("work w day 3650", 4, 11);
        Due.fault("work w day 0 from 1441", 4, 18);
        Due.fault("work w day 0 from 1440 to 1440", 4, 26);
        Due.fault("work w day 0 from 5 to 5", 4, 23);
        Due.fault("work w day 0 from 5 to 4", 4, 23);
        Due.fault("work w day 0 from 5 to 1441", 4, 23);
        Due.fault("work w day 0 from 5 to 6 long 0", 4, 30);
        Due.fault("work w day 0 from 5 to 6 long 1441", 4, 30);
        Due.fault("work w day 0 from 5 to 6 long 6 worth 1000", 4, 38);
        Due.fault("work w day 0 from 5 to 6 long 6 worth 9", 1, 39);
        Due.fault("work w day 0 to 5", 1, 13);
        Due.fault("work w from 0", 1, 7);
        StringBuilder eight = new StringBuilder();
        for (char c = 'a'; c < 'i'; c++) {
            eight.append("work ").append(c).append(" day 1 from 0 to 1 long 1 worth 1;");
        }
        Due.of(eight.toString());
        Due.fault(eight + "work a", 5, eight.length());
    }

    private static void persons() {
        Due.of("person p;");
        StringBuilder all = new StringBuilder("person p ");
        for (int stroke = 24; stroke >= 1; stroke--) {
            all.append("hour ").append(stroke).append(" worth ").append(99 - stroke).append(' ');
        }
        Due.of(all + ";");
        Due.fault(all + "hour 7 worth 1;", 3, all.length() + 5);
        Due.fault("person p hour 0", 4, 14);
        Due.fault("person p hour 25", 4, 14);
        Due.fault("person p hour 3 worth 100", 4, 22);
        Due.fault("person p hour 3 worth 0 hour 3", 3, 29);
        Due.fault("person p hour 3 at", 1, 16);
        Due.fault("person p worth 3", 1, 9);
        Due.of("person p hour 3 worth 0 ; person q hour 3 worth 0;");
        StringBuilder nine = new StringBuilder();
        for (char c = 'a'; c < 'j'; c++) {
            nine.append("person ").append(c).append(';');
        }
        Due.of(nine.toString());
        Due.fault(nine + "person a", 5, nine.length());
    }

    private static void papers() {
        Due.of("town a; paper p in a day 3649 at 1439; paper q in a day 0 at 0 first; paper r in a day 0 at 0 second;");
        Due.fault("town a; paper p in a day 3650", 4, 25);
        Due.fault("town a; paper p in a day 5 at 1440", 4, 30);
        Due.fault("town a; paper p in b", 2, 19);
        Due.fault("town a; paper p a", 1, 16);
        Due.fault("town a; paper p in a day 5 at 5 third;", 1, 32);
        Due.fault("town a; paper p in a day 5 at 5 first second;", 1, 38);
        Due.fault("town a; paper p in a at 5", 1, 21);
        Due.fault("paper", 1, 5);
        StringBuilder twelve = new StringBuilder("town tt;");
        for (char c = 'a'; c < 'm'; c++) {
            twelve.append("paper ").append(c).append(" in tt day 1 at 1;");
        }
        Due.of(twelve.toString());
        Due.fault(twelve + "paper a", 5, twelve.length());
    }

    private static void rules() {
        String two = "town a; paper p in a day 1 at 1; paper q in a day 1 at 2;";
        int end = two.length();
        Due.of(two + "after p q 0; within q p 9999; after q p 7;");
        Due.fault(two + "after p p 0;", 3, end + 8);
        Due.fault(two + "within p p 0;", 3, end + 9);
        Due.fault(two + "after r p 0;", 2, end + 6);
        Due.fault(two + "within p r 0;", 2, end + 9);
        Due.fault(two + "after p q;", 1, end + 9);
        Due.fault(two + "within p q 10000;", 1, end + 11);
        Due.fault("after p", 2, 6);
        StringBuilder many = new StringBuilder(two);
        for (int i = 0; i < 8; i++) {
            many.append("after p q 0;within p q 9;");
        }
        Due.of(many.toString());
        Due.fault(many + "after x y", 5, many.length());
        Due.fault(many + "within p q", 5, many.length());
    }

    private static void allStays() {
        HourAgain x = Due.of("town a; back 1 at 2; person p hour 3 worth 4;");
        x.mark(2, false);
        Due.due("a FAULT", Due.read(x, "town b; town c; person q; person q"), 3 + 16 * 33);
        Due.due("TOWNS stay", x.count(0), 1);
        Due.due("PERSONS stay", x.count(2), 1);
        Due.due("the clock stays", x.shown(0, 1560), 1500);
        Due.due("a wish stays", x.wish(0, 3), 4);
        Due.due("a MARK stays", x.mark(2, true), true);
        Due.due("the TAPE is taken", x.count(6), 0);
        Due.due("an empty TAPE is an empty BOOK", x.book(), 0);
        Due.due("no TOWN", x.count(0), 0);
        Due.due("no PERSON", x.count(2), 0);
        Due.due("a BOOK again", Due.read(x, "town b; town c; way b c 5; person q;"), 0);
        Due.due("no putting back", x.backs(0, 9999999), 0);
        Due.due("no wish", x.wish(0, 3), 0);
        Due.due("and another", Due.read(x, "town b; town c;"), 0);
        Due.due("no way", x.way(0, 1), -1);
        Due.due("none told", x.count(5), 0);
    }

    /** As much of all as there may be; of all that, nothing is left in the BOOKS read behind it. */
    private static void full() {
        StringBuilder text = new StringBuilder("town ta;back 1 at 2;town tb;town tc;way ta tb 1;way ta tc 1;way tb tc 1;");
        for (char c = 'a'; c < 'i'; c++) {
            text.append("work w").append(c).append(" day 1from 0to 9long 1worth 1;");
        }
        for (char c = 'a'; c < 'j'; c++) {
            text.append("person s").append(c).append(";");
        }
        for (char c = 'a'; c < 'm'; c++) {
            text.append("paper p").append(c).append(" in ta day 1at 90;");
        }
        text.append("after pl pk 0;");
        HourAgain x = Due.of(text.toString());
        int[] most = {3, 8, 9, 12, 1, 3};
        for (int what = 0; what < 6; what++) {
            Due.due("all that may be", x.count(what), most[what]);
        }
        Due.fault(text + "way ta tb 1;", 3, text.length() + 7);
        Due.fault(text + "after pl pl 1;", 3, text.length() + 9);
        for (int i = 0; i < 3; i++) {
            Due.due("an empty one", x.book(), 0);
            for (int what = 0; what < 7; what++) {
                Due.due("nothing is left", x.count(what), 0);
            }
        }
        Due.due("all again", Due.read(x, text.toString()), 0);
        Due.due("and again", Due.read(x, text.toString()), 0);
    }
}
