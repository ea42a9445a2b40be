/** Each sentence of "Terms" that names a boundary, at that boundary; the steps of a day are in DayTest. */
public final class TermsTest extends Checks {
    public static void main(String[] args) {
        divisionIsCut();
        timeIsToldFromZero();
        moonIsLeftOfTheDayByEight();
        brightnessTurnsAtTheFullMoon();
        atMostTenRuinsNumberedFromZero();
        collapsedRuinsCountAsRuins();
        wallsAreZeroToTwenty();
        ivyIsZeroToTwelve();
        ghostsAreZeroToFive();
        pricesAreZeroToNine();
        collapsedWithoutWalls();
        gradesChangeAtTheirBounds();
        viewAtItsLeastAndGreatest();
        viewOfACollapsedOneIsNone();
        ranksByViewsThatDifferByOne();
        ranksByPricesThatDifferByOne();
        ranksByNumbers();
        ranksFromZeroToNine();
        collapsedHaveNoRank();
        guestsAtFirst();
        guestsFromNoneToForty();
        guestsWithoutRuins();
        guestsWhoAreLeftOver();
        guestsPayThePriceOfTheirRuin();
        ticketsFromNoneToThirty();
        usedTicketsCountAsTickets();
        ticketIsPaidAsItWasThen();
        ticketIsOpenTillItsDay();
        purseAtFirst();
        purseFarBelowZero();
        purseBackFromBelowZero();
        atMost512Calls();
        end("the bounds of the terms hold");
    }

    private static void divisionIsCut() {
        RuinViews x = withRuin(9, 0, 0, 0);
        x.addRuin(8, 0, 0, 0);
        x.setGuests(7);
        due("the first of 7 guests, 3 and 1 more", x.guestsOf(0), 4);
        due("the next of the 3 others, 1 and 1 more", x.guestsOf(1), 2);
        x.setGuests(6);
        due("the first of 6 guests", x.guestsOf(0), 3);
        due("the next of the 3 others", x.guestsOf(1), 2);
        x.addRuin(7, 0, 0, 0);
        dueDouble("a mean is not cut", x.meanView(), 16.0);
        x.addRuin(7, 0, 0, 0);
        dueDouble("a mean of four", x.meanView(), 15.5);
    }

    private static void timeIsToldFromZero() {
        RuinViews x = new RuinViews();
        due("the first day", x.day(), 0);
        x.pass(1);
        due("the second day", x.day(), 1);
    }

    private static void moonIsLeftOfTheDayByEight() {
        int[] days = {0, 7, 8, 15, 16, 63, 64, 65};
        int[] phases = {0, 7, 0, 7, 0, 7, 0, 1};
        int[] brightness = {0, 1, 0, 1, 0, 1, 0, 1};
        int[] until = {4, 5, 4, 5, 4, 5, 4, 3};
        for (int i = 0; i < days.length; i++) {
            RuinViews x = onDay(days[i]);
            due("phase on day " + days[i], x.phase(), phases[i]);
            due("brightness on day " + days[i], x.brightness(), brightness[i]);
            due("days until the full moon on day " + days[i], x.daysUntilFullMoon(), until[i]);
        }
    }

    private static void brightnessTurnsAtTheFullMoon() {
        int[] brightness = {3, 4, 3};
        int[] until = {1, 0, 7};
        for (int i = 0; i < 3; i++) {
            due("brightness on day " + (3 + i), onDay(3 + i).brightness(), brightness[i]);
            due("days until it is 4 on day " + (3 + i), onDay(3 + i).daysUntilFullMoon(), until[i]);
            due("brightness on day " + (11 + i), onDay(11 + i).brightness(), brightness[i]);
            due("days until it is 4 on day " + (11 + i), onDay(11 + i).daysUntilFullMoon(), until[i]);
        }
    }

    private static void atMostTenRuinsNumberedFromZero() {
        RuinViews x = new RuinViews();
        due("no ruins", x.ruins(), 0);
        for (int i = 0; i < 10; i++) {
            due("number of a ruin", x.addRuin(1 + i, i, i % 6, i), i);
            due("ruins then", x.ruins(), i + 1);
        }
        refused("an eleventh", x, STATE, () -> x.addRuin(1, 0, 0, 0));
        due("walls of the first", x.wallsOf(0), 1);
        due("walls of the tenth", x.wallsOf(9), 10);
        due("ivy of the tenth", x.ivyOf(9), 9);
        due("ghosts of the tenth", x.ghostsOf(9), 3);
        due("price of the tenth", x.setPrice(9, 9), 9);
    }

    private static void collapsedRuinsCountAsRuins() {
        RuinViews x = new RuinViews();
        for (int i = 0; i < 10; i++) {
            x.addRuin(1, 12, 0, 0);
        }
        x.pass(1);
        due("none of ten stands", x.standing(), 0);
        due("there are ten still", x.ruins(), 10);
        refused("one more than ten collapsed ones", x, STATE, () -> x.addRuin(1, 0, 0, 0));
    }

    private static void wallsAreZeroToTwenty() {
        RuinViews x = withRuin(20, 12, 0, 9);
        x.addRuin(1, 12, 0, 9);
        x.sellTicket(0, 30);
        due("most walls", x.wallsOf(0), 20);
        due("least walls", x.wallsOf(1), 1);
        refused("a wall more than most", x, STATE, () -> x.prop(0));
        x.pass(1);
        due("a wall less than most", x.wallsOf(0), 19);
        due("no walls", x.wallsOf(1), 0);
        due("most walls again", x.prop(0), 20);
        x.pass(20);
        due("no walls behind twenty days", x.wallsOf(0), 0);
        x.pass(1);
        due("no less than none", x.wallsOf(0), 0);
        due("no less than none for the other", x.wallsOf(1), 0);
    }

    private static void ivyIsZeroToTwelve() {
        RuinViews x = withRuin(20, 11, 0, 0);
        x.addRuin(20, 12, 0, 0);
        x.addRuin(20, 0, 0, 0);
        x.pass(3);
        due("a last ivy", x.ivyOf(0), 12);
        due("no ivy more than most", x.ivyOf(1), 12);
        due("a first ivy", x.ivyOf(2), 1);
        due("cut to none", x.cutIvy(2, 1), 0);
        due("no ivy less than none", x.cutIvy(2, 1), 0);
        x.pass(3);
        due("no ivy more than most, twice", x.ivyOf(0), 12);
    }

    private static void ghostsAreZeroToFive() {
        RuinViews x = onDay(4);
        x.addRuin(9, 7, 4, 0);
        x.addRuin(9, 7, 5, 0);
        x.pass(1);
        due("a last ghost", x.ghostsOf(0), 5);
        due("no ghost more than most", x.ghostsOf(1), 5);
        RuinViews y = withRuin(9, 0, 1, 0);
        y.addRuin(9, 0, 0, 0);
        y.pass(1);
        due("no ghost is left", y.ghostsOf(0), 0);
        due("no ghost less than none", y.ghostsOf(1), 0);
    }

    private static void pricesAreZeroToNine() {
        RuinViews x = withRuin(9, 0, 0, 0);
        x.addRuin(8, 0, 0, 9);
        x.sellTicket(0, 0);
        due("a ticket for nothing", x.purse(), 0);
        x.sellTicket(1, 0);
        due("a ticket for the most", x.purse(), 9);
        due("6 for nothing, 3 for 9 coins", x.pass(1), 27);
    }

    private static void collapsedWithoutWalls() {
        RuinViews x = withRuin(2, 12, 0, 0);
        x.pass(1);
        due("walls", x.wallsOf(0), 1);
        due("a wall stands", x.hasCollapsed(0), false);
        due("it counts", x.standing(), 1);
        x.pass(1);
        due("no walls", x.wallsOf(0), 0);
        due("no wall stands", x.hasCollapsed(0), true);
        due("it does not count", x.standing(), 0);
        due("but is a ruin", x.ruins(), 1);
    }

    private static void gradesChangeAtTheirBounds() {
        int[] ivy = {0, 1, 3, 4, 6, 7, 9, 10, 12};
        int[] grades = {0, 1, 1, 2, 2, 3, 3, 1, 1};
        int[] walls = {5, 5, 5, 5, 5, 5, 5, 4, 4};
        for (int i = 0; i < ivy.length; i++) {
            RuinViews x = withRuin(5, ivy[i], 0, 0);
            due("grade of ivy " + ivy[i], x.gradeOf(0), grades[i]);
            due("view with ivy " + ivy[i], x.viewOf(0), 10 + 3 * grades[i]);
            x.pass(1);
            due("walls when ivy " + ivy[i] + " chokes or not", x.wallsOf(0), walls[i]);
        }
    }

    private static void viewAtItsLeastAndGreatest() {
        due("the least view", withRuin(1, 0, 0, 0).viewOf(0), 2);
        due("the greatest view by no moon", withRuin(20, 7, 5, 0).viewOf(0), 49);
        RuinViews x = onDay(4);
        x.addRuin(20, 9, 5, 0);
        x.addRuin(1, 0, 0, 0);
        x.addRuin(1, 0, 1, 0);
        due("the greatest view by the full moon", x.viewOf(0), 69);
        due("the least view by the full moon", x.viewOf(1), 2);
        due("the least view with a ghost", x.viewOf(2), 6);
        dueDouble("the mean of the three", x.meanView(), 77.0 / 3.0);
    }

    private static void viewOfACollapsedOneIsNone() {
        RuinViews x = onDay(3);
        x.addRuin(1, 12, 5, 0);
        due("it stands", x.viewOf(0), 2 + 3 + 5 * 3);
        x.pass(1);
        due("by a full moon", x.brightness(), 4);
        due("ghosts that are left", x.ghostsOf(0), 5);
        due("it has collapsed", x.viewOf(0), 0);
        x.cutIvy(0, 4);
        due("a fine grade", x.gradeOf(0), 3);
        due("it has collapsed all the same", x.viewOf(0), 0);
    }

    private static void ranksByViewsThatDifferByOne() {
        RuinViews x = onDay(1);
        x.addRuin(20, 0, 0, 0);
        x.addRuin(20, 0, 1, 9);
        due("one view more", x.viewOf(1), x.viewOf(0) + 1);
        due("it is ahead", x.rankOf(1), 0);
        due("of a lesser price and number", x.rankOf(0), 1);
        RuinViews least = onDay(1);
        least.addRuin(1, 0, 0, 0);
        least.addRuin(1, 0, 1, 9);
        due("the same with the least views", least.ruinAt(0), 1);
    }

    private static void ranksByPricesThatDifferByOne() {
        RuinViews x = withRuin(5, 0, 0, 9);
        x.addRuin(5, 0, 0, 8);
        x.addRuin(5, 0, 0, 1);
        x.addRuin(5, 0, 0, 0);
        for (int ruin = 0; ruin < 4; ruin++) {
            due("the least price is ahead, not number " + ruin, x.rankOf(ruin), 3 - ruin);
        }
    }

    private static void ranksByNumbers() {
        RuinViews x = new RuinViews();
        for (int i = 0; i < 10; i++) {
            x.addRuin(5, 4, 3, 2);
        }
        for (int i = 0; i < 10; i++) {
            due("of ten alike, the rank of " + i, x.rankOf(i), i);
            due("of ten alike, the ruin at " + i, x.ruinAt(i), i);
        }
    }

    private static void ranksFromZeroToNine() {
        RuinViews x = new RuinViews();
        for (int i = 0; i < 10; i++) {
            x.addRuin(1 + i, 0, 0, 0);
        }
        due("the last has the least view", x.rankOf(0), 9);
        due("the first has the greatest", x.rankOf(9), 0);
        due("the last", x.ruinAt(9), 0);
        due("the first", x.ruinAt(0), 9);
        due("the only one", withRuin(1, 0, 0, 0).rankOf(0), 0);
    }

    private static void collapsedHaveNoRank() {
        RuinViews x = withRuin(1, 12, 0, 0);
        x.addRuin(1, 0, 0, 9);
        x.addRuin(1, 12, 0, 0);
        due("it has a rank", x.rankOf(0), 0);
        x.pass(1);
        due("it has none", x.rankOf(0), -1);
        due("the one that stands is the first", x.rankOf(1), 0);
        due("nor has the last", x.rankOf(2), -1);
        due("the first", x.ruinAt(0), 1);
        refused("a second", x, INDEX, () -> x.ruinAt(1));
    }

    private static void guestsAtFirst() {
        RuinViews x = withRuin(1, 0, 0, 1);
        due("half of twelve", x.guestsOf(0), 6);
        due("they pay", x.pass(1), 6);
        due("twelve", x.setGuests(12), 12);
    }

    private static void guestsFromNoneToForty() {
        int[] guests = {0, 1, 2, 3, 39, 40};
        int[][] shares = {{0, 0, 0, 0, 0, 0, 0, 0, 0, 0}, {1, 0, 0, 0, 0, 0, 0, 0, 0, 0},
            {1, 1, 0, 0, 0, 0, 0, 0, 0, 0}, {2, 1, 0, 0, 0, 0, 0, 0, 0, 0},
            {20, 10, 5, 2, 1, 1, 0, 0, 0, 0}, {20, 10, 5, 3, 1, 1, 0, 0, 0, 0}};
        RuinViews x = new RuinViews();
        for (int i = 0; i < 10; i++) {
            x.addRuin(20 - i, 0, 0, 1);
        }
        for (int i = 0; i < guests.length; i++) {
            x.setGuests(guests[i]);
            for (int ruin = 0; ruin < 10; ruin++) {
                due("of " + guests[i] + " guests, to ruin " + ruin, x.guestsOf(ruin), shares[i][ruin]);
            }
            due("what " + guests[i] + " guests pay", x.pass(1), guests[i]);
        }
    }

    private static void guestsWithoutRuins() {
        RuinViews x = new RuinViews();
        x.setGuests(40);
        due("no ruin, no coins", x.pass(1), 0);
        RuinViews y = withCollapsed();
        y.setGuests(40);
        due("guests of a collapsed one", y.guestsOf(0), 0);
        due("no ruin stands, no coins", y.pass(1), 0);
    }

    private static void guestsWhoAreLeftOver() {
        RuinViews x = withRuin(5, 0, 0, 1);
        x.setGuests(40);
        due("half of them come to one ruin", x.pass(1), 20);
        x.addRuin(4, 0, 0, 1);
        due("and half of the others to a second", x.pass(1), 30);
        x.setGuests(1);
        due("a single guest comes to the first", x.pass(1), 1);
    }

    private static void guestsPayThePriceOfTheirRuin() {
        RuinViews x = new RuinViews();
        for (int i = 0; i < 10; i++) {
            x.addRuin(20 - i, 0, 0, 9);
        }
        x.setGuests(40);
        due("the most that a day can bring", x.pass(1), 360);
        x.setPrice(0, 0);
        due("without the first one's coins", x.pass(1), 180);
    }

    private static void ticketsFromNoneToThirty() {
        RuinViews x = withRuin(20, 0, 0, 2);
        due("no tickets", x.tickets(), 0);
        for (int i = 0; i < 30; i++) {
            due("number of a ticket", x.sellTicket(0, i), i);
            due("tickets then", x.tickets(), i + 1);
            due("coins then", x.purse(), 2 * i + 2);
        }
        refused("a thirty-first", x, STATE, () -> x.sellTicket(0, 0));
        for (int i = 0; i < 30; i++) {
            due("day of a ticket", x.dayOf(i), i);
            due("open", x.isOpen(i), true);
            due("not paid back", x.isPaidBack(i), false);
        }
    }

    private static void usedTicketsCountAsTickets() {
        RuinViews x = withRuin(20, 0, 0, 2);
        for (int i = 0; i < 30; i++) {
            x.sellTicket(0, 0);
        }
        x.pass(1);
        due("the last is used", x.isOpen(29), false);
        due("thirty were sold", x.tickets(), 30);
        refused("one more than thirty used ones", x, STATE, () -> x.sellTicket(0, 0));
    }

    private static void ticketIsPaidAsItWasThen() {
        RuinViews x = withRuin(1, 12, 0, 9);
        x.setGuests(0);
        x.sellTicket(0, 1);
        x.setPrice(0, 0);
        x.sellTicket(0, 1);
        due("9 coins and none", x.purse(), 9);
        x.setPrice(0, 5);
        due("9 coins and none are paid back", x.pass(2), -9);
        due("the one of 9", x.isPaidBack(0), true);
        due("the one of none", x.isPaidBack(1), true);
    }

    private static void ticketIsOpenTillItsDay() {
        RuinViews x = withRuin(20, 0, 0, 2);
        x.sellTicket(0, 0);
        x.sellTicket(0, 1);
        x.sellTicket(0, 30);
        due("for this day", x.isOpen(0), true);
        x.pass(1);
        due("this day is over", x.isOpen(0), false);
        due("on its day", x.isOpen(1), true);
        x.pass(1);
        due("its day is over", x.isOpen(1), false);
        x.pass(28);
        due("day", x.day(), 30);
        due("on the last day", x.isOpen(2), true);
        x.pass(1);
        due("the last day is over", x.isOpen(2), false);
        due("it was used", x.isPaidBack(2), false);
        due("its day is still told", x.dayOf(2), 30);
    }

    private static void purseAtFirst() {
        RuinViews x = new RuinViews();
        due("no coins", x.purse(), 0);
        due("nor any to come", x.purseIn(60), 0);
    }

    /** All coins of thirty tickets are spent before they are paid back. */
    private static RuinViews withGreatestDebt() {
        RuinViews x = withRuin(1, 12, 0, 9);
        x.addRuin(1, 0, 0, 0);
        x.addRuin(1, 0, 0, 0);
        x.addRuin(4, 0, 0, 0);
        for (int i = 0; i < 30; i++) {
            x.sellTicket(0, 1);
        }
        for (int i = 0; i < 54; i++) {
            x.prop(1 + i / 19);
        }
        x.setGuests(0);
        return x;
    }

    private static void purseFarBelowZero() {
        RuinViews x = withGreatestDebt();
        due("all is spent", x.purse(), 0);
        due("walls for it", x.wallsOf(1) + x.wallsOf(2) + x.wallsOf(3), 60);
        due("no debt in a day", x.purseIn(1), 0);
        due("a debt in two", x.purseIn(2), -270);
        due("nothing yet", x.pass(1), 0);
        due("thirty paid back", x.pass(1), -270);
        due("the debt", x.purse(), -270);
        due("it stays", x.purseIn(60), -270);
        due("no more of it", x.pass(1), 0);
        x.pass(6);
        x.cutIvy(1, 12);
        x.cutIvy(2, 12);
        x.cutIvy(3, 12);
        x.addRuin(20, 7, 0, 0);
        // A collapsed ruin of 12 ivy and no ghosts, three of 20 walls without ivy, a fine one; thirty tickets of day 1.
        long[] numbers = new long[6 + 5 * 7 + 30 * 3];
        long[] state = {9, 1, 5, 4, -270, 30, 0, 12, 0, 9, 0, -1, 0, 20, 0, 0, 0, 40, 1, 0, 20, 0, 0, 0, 40, 2, 0,
            20, 0, 0, 0, 40, 3, 0, 20, 7, 0, 0, 49, 0, 0};
        System.arraycopy(state, 0, numbers, 0, state.length);
        for (int i = state.length; i < numbers.length; i += 3) {
            numbers[i] = 1;
            numbers[i + 2] = 1;
        }
        due("digest with a debt", x.digest(), wrapped(numbers));
    }

    private static void purseBackFromBelowZero() {
        RuinViews x = withGreatestDebt();
        x.pass(2);
        x.setPrice(1, 9);
        x.setGuests(40);
        due("the first of three", x.guestsOf(3) + x.guestsOf(2), 30);
        refused("prop for a debt", x, STATE, () -> x.prop(3));
        x.setPrice(2, 9);
        x.setPrice(3, 9);
        due("ahead", x.purseIn(1), -270 + 35 * 9);
        due("coins", x.pass(1), 35 * 9);
        due("the debt is gone", x.purse(), 45);
    }

    private static void atMost512Calls() {
        RuinViews x = withRuin(20, 0, 5, 9);
        for (int i = 0; i < 499; i++) {
            x.pass(60);
        }
        due("day", x.day(), 29940);
        due("phase", x.phase(), 4);
        due("brightness", x.brightness(), 4);
        due("days until the full moon", x.daysUntilFullMoon(), 0);
        // It stood in the mornings of the days 0 to 48, and its ivy grew till it had collapsed.
        due("purse", x.purse(), 49 * 6 * 9);
        due("a last ruin", x.addRuin(20, 0, 5, 9), 1);
        due("its view", x.viewOf(1), 60);
        due("its ticket", x.sellTicket(1, 30), 0);
        due("its day", x.dayOf(0), 29970);
        due("a 510th call", x.pass(60), 9 * 6 * 49);
        due("a 511th call", x.day(), 30000);
        // The second fell on day 29988; of the nights without a moon only that of day 29992 took a ghost.
        due("a 512th call", x.digest(), wrapped(new long[] {30000, 0, 2, 0, 9 + 2 * 49 * 6 * 9, 1,
            0, 12, 0, 9, 0, -1, 0, 0, 12, 4, 9, 0, -1, 0, 29970, 0, 0}));
    }
}
