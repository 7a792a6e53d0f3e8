/** Promise 1: a new object has an empty BOOK. */
public final class NewObjectTest {
    public static void main(String[] args) {
        HourAgain x = new HourAgain();
        for (int what = 0; what <= 6; what++) {
            Due.due("count(" + what + ")", x.count(what), 0);
        }
        Due.due("NONE", HourAgain.NONE, -1);
        Due.due("worlds()", x.worlds(), 1);
        Due.due("world(0, 0)", x.world(0, 0), -1);
        Due.due("open()", x.open(), 0);
        Due.due("together()", x.together(), -1);
        Due.due("sure(0)", x.sure(0), -1);
        Due.due("before(0, 1)", x.before(0, 1), -1);
        Due.due("paper(0, 0)", x.paper(0, 0), -1);
        Due.due("work(0, 0)", x.work(0, 0), -1);
        Due.due("best(0, 0)", x.best(0, 0), -1);
        Due.due("order(0, 0)", x.order(0, 0), -1);
        Due.due("begins(0, 0)", x.begins(0, 0), -1);
        Due.due("wish(0, 1)", x.wish(0, 1), -1);
        for (int way = -1; way <= 6; way++) {
            Due.due("vote(" + way + ")", x.vote(way), -1);
        }
        Due.due("prefers(1, 2)", x.prefers(1, 2), 0);
        Due.due("most(0, 3649)", x.most(0, 3649), -1);
        Due.due("goes(0, 3649, 0, 0)", x.goes(0, 3649, 0, 0), -1);
        Due.due("way(0, 0)", x.way(0, 0), -1);
        Due.due("moment(0, 0, 0, 0)", x.moment(0, 0, 0, 0), -1);
        Due.due("none(0, 0, 0)", x.none(0, 0, 0), -1);
        Due.dueThrow("shown(0, 0)", () -> x.shown(0, 0));
        Due.dueThrow("backs(0, 0)", () -> x.backs(0, 0));
        Due.dueThrow("between(0, 0, 0, 0, 0, 0)", () -> x.between(0, 0, 0, 0, 0, 0));
        Due.dueThrow("wage(0, 0, 0, 0, 0, 0, 0)", () -> x.wage(0, 0, 0, 0, 0, 0, 0));
        Due.dueThrow("deed(0, 0, 0, 0)", () -> x.deed(0, 0, 0, 0));
        for (int mark = 0; mark < 4; mark++) {
            Due.due("mark(" + mark + ", true)", x.mark(mark, true), false);
        }
        Due.end("NewObjectTest");
    }
}
