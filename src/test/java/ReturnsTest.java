/** Each "Returns" of the document at the least and the greatest that it can answer, and at what it names by itself. */
public final class ReturnsTest extends Checks {
    public static void main(String[] args) {
        promise1Empty();
        promise3IvyLeft();
        promise4WallsThen();
        promise5PriceBefore();
        promise6GuestsBefore();
        promise8HowMuchMore();
        promise12UntilFullMoon();
        promises13And14Counts();
        promises16To20Bounds();
        promise24GuestsOfThisDay();
        promise29FirstAndLastDay();
        promise29Collapsed();
        promise30NowAndTheDayBehind();
        promise30TheLongest();
        promise30AsItComes();
        promise31Now();
        promise31TheDayBehind();
        promise31OnTheLastDay();
        promise31Late();
        promise31Never();
        promise32NoneAndTwelve();
        promise32WallsThatAreLost();
        promise32TheLeastOfSeveral();
        promise32Propped();
        promise33FirstAndLastDay();
        promise33BelowZero();
        promise33TenRuinsThirtyTickets();
        promise34NoneAndTen();
        promise35WrapsAround();
        promise35WhetherSomethingIsSo();
        whatWouldBeIsOfNow();
        end("the bounds of the answers hold");
    }

    private static void promise1Empty() {
        RuinViews x = new RuinViews();
        due("phase", x.phase(), 0);
        due("brightness", x.brightness(), 0);
        due("days until the full moon", x.daysUntilFullMoon(), 4);
        due("no ruins", x.ruins(), 0);
        due("none stands", x.standing(), 0);
        due("no tickets", x.tickets(), 0);
        due("no coins", x.purse(), 0);
        due("none to come", x.purseIn(1), 0);
        dueDouble("no mean", x.meanView(), 0.0);
        due("no coins in sixty days", x.pass(60), 0);
        due("day", x.day(), 60);
        due("the first ruin", x.addRuin(1, 0, 0, 0), 0);
        due("the first ticket", x.sellTicket(0, 0), 0);
    }

    private static void promise3IvyLeft() {
        int[] ivy = {0, 0, 1, 1, 5, 5, 5, 12, 12, 12};
        int[] cut = {1, 12, 1, 2, 4, 5, 6, 1, 11, 12};
        int[] left = {0, 0, 0, 0, 1, 0, 0, 11, 1, 0};
        for (int i = 0; i < ivy.length; i++) {
            RuinViews x = withRuin(9, ivy[i], 0, 0);
            due("left of " + ivy[i] + " less " + cut[i], x.cutIvy(0, cut[i]), left[i]);
            due("ivy then", x.ivyOf(0), left[i]);
        }
    }

    private static void promise4WallsThen() {
        RuinViews x = withRuin(1, 0, 0, 9);
        for (int i = 0; i < 11; i++) {
            x.sellTicket(0, 30);
        }
        due("coins", x.purse(), 99);
        for (int walls = 2; walls <= 20; walls++) {
            due("walls when propped", x.prop(0), walls);
        }
        due("19 walls for 5 coins each", x.purse(), 4);
        due("view of them", x.viewOf(0), 40);
    }

    private static void promise5PriceBefore() {
        RuinViews x = new RuinViews();
        x.addRuin(1, 0, 0, 0);
        x.addRuin(1, 0, 0, 9);
        due("least before", x.setPrice(0, 9), 0);
        due("greatest before", x.setPrice(1, 0), 9);
        due("the same again", x.setPrice(0, 9), 9);
        due("none again", x.setPrice(1, 0), 0);
    }

    private static void promise6GuestsBefore() {
        RuinViews x = new RuinViews();
        due("at first", x.setGuests(0), 12);
        due("none before", x.setGuests(40), 0);
        due("most before", x.setGuests(40), 40);
    }

    private static void promise8HowMuchMore() {
        RuinViews x = withRuin(20, 0, 0, 9);
        x.sellTicket(0, 30);
        x.setGuests(40);
        due("of a day, without what was there", x.pass(1), 180);
        due("purse", x.purse(), 189);
        due("of sixty days, of which it stands on 48", x.pass(60), 180 * 48);
        due("of none", x.pass(60), 0);
    }

    private static void promise12UntilFullMoon() {
        int[] until = {4, 3, 2, 1, 0, 7, 6, 5, 4, 3, 2, 1, 0, 7};
        for (int day = 0; day < until.length; day++) {
            due("until the full moon on day " + day, onDay(day).daysUntilFullMoon(), until[day]);
        }
        RuinViews x = onDay(5);
        x.pass(x.daysUntilFullMoon());
        due("brightness then", x.brightness(), 4);
    }

    private static void promises13And14Counts() {
        RuinViews x = new RuinViews();
        for (int i = 0; i < 10; i++) {
            due("ruins", x.ruins(), i);
            due("standing", x.standing(), i);
            x.addRuin(i + 1, 12, 0, 0);
        }
        for (int fallen = 0; fallen <= 10; fallen++) {
            due("ruins, some of them fallen", x.ruins(), 10);
            due("standing still", x.standing(), 10 - fallen);
            x.pass(1);
        }
    }

    private static void promises16To20Bounds() {
        RuinViews x = new RuinViews();
        x.addRuin(20, 12, 5, 9);
        x.addRuin(1, 0, 0, 0);
        due("most walls", x.wallsOf(0), 20);
        due("least walls", x.wallsOf(1), 1);
        due("most ivy", x.ivyOf(0), 12);
        due("no ivy", x.ivyOf(1), 0);
        due("grade of most ivy", x.gradeOf(0), 1);
        due("grade of none", x.gradeOf(1), 0);
        due("most ghosts", x.ghostsOf(0), 5);
        due("no ghosts", x.ghostsOf(1), 0);
        x.pass(60);
        for (int ruin = 0; ruin < 2; ruin++) {
            due("no walls", x.wallsOf(ruin), 0);
            due("collapsed", x.hasCollapsed(ruin), true);
            due("no view", x.viewOf(ruin), 0);
            due("no rank", x.rankOf(ruin), -1);
        }
    }

    private static void promise24GuestsOfThisDay() {
        RuinViews x = withRuin(1, 12, 0, 0);
        x.addRuin(1, 0, 0, 0);
        due("to the first", x.guestsOf(0), 6);
        due("to the next", x.guestsOf(1), 3);
        x.pass(1);
        due("to a collapsed one", x.guestsOf(0), 0);
        due("to the one that is the first now", x.guestsOf(1), 6);
        x.setGuests(0);
        due("if none come", x.guestsOf(1), 0);
    }

    private static void promise29FirstAndLastDay() {
        RuinViews x = withRuin(20, 0, 5, 0);
        due("tomorrow: a ghost less, a moon of 1", x.viewIn(0, 1), 40 + 4);
        due("on day 29, before the ivy chokes", x.viewIn(0, 29), 40 + 9 + 5 * 3);
        due("behind day 29", x.viewIn(0, 30), 38 + 3 + 5 * 2);
        due("the last wall", x.viewIn(0, 48), 2 + 3);
        due("no wall", x.viewIn(0, 49), 0);
        due("in sixty days", x.viewIn(0, 60), 0);
        x.pass(11);
        x.cutIvy(0, 12);
        due("in sixty days of day 11", x.viewIn(0, 60), 0);
    }

    private static void promise29Collapsed() {
        RuinViews x = withCollapsed();
        due("of a collapsed one tomorrow", x.viewIn(0, 1), 0);
        due("by the full moon", x.viewIn(0, 3), 0);
        due("in sixty days", x.viewIn(0, 60), 0);
        x.cutIvy(0, 12);
        due("without ivy", x.viewIn(0, 60), 0);
    }

    private static void promise30NowAndTheDayBehind() {
        due("now", withCollapsed().daysUntilCollapse(0), 0);
        due("a day", withRuin(1, 10, 0, 0).daysUntilCollapse(0), 1);
        due("two days", withRuin(2, 10, 0, 0).daysUntilCollapse(0), 2);
        due("two days till the ivy is 10", withRuin(1, 9, 0, 0).daysUntilCollapse(0), 3);
        due("twenty days", withRuin(20, 12, 0, 0).daysUntilCollapse(0), 20);
    }

    private static void promise30TheLongest() {
        int[] longest = {49, 48, 47, 49, 48, 47};
        for (int day = 0; day < longest.length; day++) {
            RuinViews x = onDay(day);
            x.addRuin(20, 0, 0, 0);
            due("20 walls without ivy on day " + day, x.daysUntilCollapse(0), longest[day]);
        }
    }

    private static void promise30AsItComes() {
        for (int day = 0; day < 3; day++) {
            for (int ivy = 0; ivy <= 12; ivy += 3) {
                RuinViews x = onDay(day);
                x.addRuin(7, ivy, 0, 0);
                int days = x.daysUntilCollapse(0);
                x.pass(days - 1);
                due("it stands a day before", x.hasCollapsed(0), false);
                due("a day before", x.daysUntilCollapse(0), 1);
                x.pass(1);
                due("it has collapsed then", x.hasCollapsed(0), true);
                due("then", x.daysUntilCollapse(0), 0);
            }
        }
    }

    private static void promise31Now() {
        RuinViews x = withRuin(1, 0, 0, 0);
        due("the only one", x.daysUntilFirst(0), 0);
        x.addRuin(1, 0, 0, 0);
        due("the first of two alike", x.daysUntilFirst(0), 0);
        x.pass(60);
        due("a collapsed one", x.daysUntilFirst(0), -1);
        due("another", x.daysUntilFirst(1), -1);
    }

    private static void promise31TheDayBehind() {
        RuinViews x = withRuin(1, 12, 5, 0);
        x.addRuin(1, 0, 0, 0);
        due("when the first has fallen", x.daysUntilFirst(1), 1);
        RuinViews y = withRuin(2, 12, 0, 0);
        y.addRuin(2, 0, 0, 9);
        due("view 7 against 4, then 5 against 4, then none", y.daysUntilFirst(1), 2);
        RuinViews moon = withRuin(5, 0, 0, 9);
        moon.addRuin(5, 1, 1, 1);
        moon.addRuin(6, 1, 0, 0);
        due("by a moon of 2 as much view for a coin more, by one of 3 more view", moon.daysUntilFirst(1), 3);
    }

    private static void promise31OnTheLastDay() {
        RuinViews x = onDay(1);
        x.addRuin(6, 12, 3, 0);
        x.addRuin(7, 12, 0, 0);
        due("behind six days the other has fallen", x.daysUntilFirst(1), 6);
        due("and behind seven this one", x.daysUntilCollapse(1), 7);
        RuinViews y = onDay(1);
        y.addRuin(7, 12, 3, 0);
        y.addRuin(7, 12, 0, 0);
        due("both fall on the same day", y.daysUntilFirst(1), -1);
    }

    /** The one chokes from day 26 on, the other, which is less fine, from day 29 on. */
    private static void promise31Late() {
        RuinViews x = withRuin(6, 1, 4, 0);
        x.addRuin(4, 0, 0, 0);
        due("when the finer one has fallen", x.daysUntilFirst(1), 32);
        due("a day before its own fall", x.daysUntilCollapse(1), 33);
        x.pass(32);
        due("as it was told", x.rankOf(1), 0);
        due("it is now", x.daysUntilFirst(1), 0);
    }

    private static void promise31Never() {
        RuinViews x = withRuin(20, 0, 5, 0);
        x.addRuin(1, 12, 0, 0);
        due("it falls before", x.daysUntilFirst(1), -1);
        RuinViews y = withRuin(20, 0, 0, 0);
        for (int i = 0; i < 9; i++) {
            y.addRuin(20, 0, 0, 0);
        }
        due("ten alike, the last", y.daysUntilFirst(9), -1);
        due("ten alike, the first", y.daysUntilFirst(0), 0);
    }

    private static void promise32NoneAndTwelve() {
        due("no ivy, nothing to cut", withRuin(20, 0, 0, 0).bestCut(0), 0);
        due("one ivy", withRuin(20, 1, 0, 0).bestCut(0), 1);
        due("eleven", withRuin(20, 11, 0, 0).bestCut(0), 11);
        due("twelve", withRuin(20, 12, 0, 0).bestCut(0), 12);
        RuinViews x = withCollapsed();
        due("of a collapsed one", x.bestCut(0), 0);
        x.cutIvy(0, 12);
        due("of a collapsed one without ivy", x.bestCut(0), 0);
    }

    /** In 40 days a ruin without ivy loses 11, 12 or 13 walls, by the day that is left of this one by 3. */
    private static void promise32WallsThatAreLost() {
        for (int day = 0; day < 6; day++) {
            int lost = 11 + day % 3;
            RuinViews falls = onDay(day);
            falls.addRuin(lost, 5, 0, 0);
            due("of " + lost + " walls none is left, day " + day, falls.bestCut(0), 0);
            RuinViews stands = onDay(day);
            stands.addRuin(lost + 1, 5, 0, 0);
            due("of a wall more one is left, day " + day, stands.bestCut(0), 5);
        }
    }

    private static void promise32TheLeastOfSeveral() {
        RuinViews x = withRuin(20, 3, 5, 0);
        due("cutting more than there is leaves as much", x.bestCut(0), 3);
        x.cutIvy(0, 3);
        due("and so does cutting nothing", x.bestCut(0), 0);
        due("where none is left, nothing", withRuin(1, 12, 5, 0).bestCut(0), 0);
        due("eleven walls, twelve ivy", withRuin(11, 12, 5, 0).bestCut(0), 0);
        due("twelve walls, twelve ivy", withRuin(12, 12, 5, 0).bestCut(0), 12);
    }

    private static void promise32Propped() {
        RuinViews x = withRuin(11, 4, 0, 5);
        due("eleven walls", x.bestCut(0), 0);
        x.sellTicket(0, 30);
        x.prop(0);
        due("a twelfth", x.bestCut(0), 4);
    }

    private static void promise33FirstAndLastDay() {
        RuinViews x = withRuin(20, 0, 0, 1);
        due("in a day", x.purseIn(1), 6);
        due("in two", x.purseIn(2), 12);
        due("in the 49 that it stands", x.purseIn(49), 49 * 6);
        due("in one more", x.purseIn(50), 49 * 6);
        due("in sixty", x.purseIn(60), 49 * 6);
        due("now", x.purse(), 0);
        x.pass(60);
        due("as it was told", x.purse(), 49 * 6);
    }

    private static void promise33BelowZero() {
        RuinViews x = withRuin(1, 12, 0, 9);
        x.addRuin(9, 0, 0, 0);
        x.setGuests(0);
        x.sellTicket(0, 1);
        due("all there", x.purseIn(1), 9);
        due("paid back", x.purseIn(2), 0);
        x.prop(1);
        due("before the debt", x.purseIn(1), 4);
        due("a debt", x.purseIn(2), -5);
        due("in sixty days", x.purseIn(60), -5);
        due("the ticket is open still", x.isOpen(0), true);
        due("as it comes", x.pass(60), -9);
        due("the debt", x.purse(), -5);
        due("the debt tomorrow", x.purseIn(1), -5);
    }

    /** Nine of them stand in thirty days, and the last falls at once; each has three of the thirty tickets. */
    private static void promise33TenRuinsThirtyTickets() {
        RuinViews x = new RuinViews();
        for (int i = 0; i < 10; i++) {
            x.addRuin(i == 9 ? 1 : 20, i == 9 ? 12 : 0, 0, i);
        }
        x.setGuests(0);
        for (int i = 0; i < 30; i++) {
            x.sellTicket(9 - i % 10, i);
        }
        due("coins for thirty tickets", x.purse(), 135);
        due("its ticket of day 0 is used", x.purseIn(10), 135);
        due("its ticket of day 10 is paid back", x.purseIn(11), 126);
        due("and that of day 20", x.purseIn(21), 117);
        due("and no other", x.purseIn(30), 117);
    }

    private static void promise34NoneAndTen() {
        dueDouble("without ruins", new RuinViews().meanView(), 0.0);
        dueDouble("without any that stands", withCollapsed().meanView(), 0.0);
        dueDouble("of the least view", withRuin(1, 0, 0, 0).meanView(), 2.0);
        RuinViews x = onDay(4);
        for (int i = 0; i < 9; i++) {
            x.addRuin(20, 7, 5, 0);
        }
        dueDouble("of nine", x.meanView(), 69.0);
        x.addRuin(1, 12, 0, 0);
        dueDouble("of ten", x.meanView(), (9 * 69 + 5) / 10.0);
        x.pass(1);
        dueDouble("of nine that stand", x.meanView(), 40 + 9 + 15.0);
    }

    private static void promise35WrapsAround() {
        RuinViews x = new RuinViews();
        due("of an empty machine, which needs no wrapping", x.digest(), 1800744968749L);
        x.pass(1);
        due("of its second day", x.digest(), wrapped(new long[] {1, 1, 0, 0, 0, 0}));
        RuinViews y = withRuin(20, 7, 5, 9);
        // 49543202283601855969107 without bound.
        due("of a ruin, wrapped once and more", y.digest(), -4752298381999671469L);
        due("the same, reckoned by this test", y.digest(), wrapped(new long[] {0, 0, 1, 1, 0, 0, 20, 7, 5, 9, 49, 0, 6}));
    }

    private static void promise35WhetherSomethingIsSo() {
        RuinViews x = withRuin(1, 12, 0, 4);
        x.setGuests(0);
        x.sellTicket(0, 0);
        x.sellTicket(0, 1);
        x.sellTicket(0, 2);
        x.pass(2);
        due("a used one, one paid back, one open", x.digest(),
            wrapped(new long[] {2, 2, 1, 0, 8, 3, 0, 12, 0, 4, 0, -1, 0, 0, 0, 0, 1, 0, 1, 2, 1, 0}));
    }

    /** A question ahead starts with what is now, not with what another one left behind. */
    private static void whatWouldBeIsOfNow() {
        RuinViews x = withRuin(20, 6, 2, 3);
        x.addRuin(15, 9, 1, 2);
        x.sellTicket(1, 20);
        String first = answers(x);
        for (int i = 0; i < 3; i++) {
            due("the same questions again", answers(x), first);
        }
        x.cutIvy(0, 12);
        x.pass(20);
        RuinViews y = withRuin(20, 6, 2, 3);
        y.addRuin(15, 9, 1, 2);
        y.sellTicket(1, 20);
        y.cutIvy(0, 12);
        y.pass(20);
        due("the same as where nothing was asked", answers(x), answers(y));
    }

    private static String answers(RuinViews x) {
        StringBuilder b = new StringBuilder();
        for (int ruin = 0; ruin < 2; ruin++) {
            b.append(x.bestCut(ruin)).append(' ').append(x.viewIn(ruin, 60)).append(' ').append(x.viewIn(ruin, 1));
            b.append(' ').append(x.daysUntilFirst(ruin)).append(' ').append(x.daysUntilCollapse(ruin)).append(' ');
        }
        return b.append(x.purseIn(60)).append(' ').append(x.purseIn(1)).append(' ').append(x.meanView()).toString();
    }
}
