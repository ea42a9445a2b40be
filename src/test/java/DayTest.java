/** Each sentence of "A day goes like this" at its bounds: the last day, ivy, ghost or wall that counts, and the next. */
public final class DayTest extends Checks {
    public static void main(String[] args) {
        guestsComeByTheRanksOfNow();
        guestsComeBeforeTheLastWallFalls();
        guestsComeBeforeTicketsArePaidBack();
        ticketOfTheDayOfTheFall();
        ticketOfTheDayBehindTheFall();
        ticketOfAnotherDay();
        ticketOfADayThatIsPropped();
        eachTicketIsPaidBackOnce();
        ivyGrowsInTheDays2And5And8();
        ivyGrowsToTwelveAtMost();
        ivyChokesOnTheDayThatItIsTen();
        ivyThatIsCutToNineDoesNotChoke();
        theLastWallFalls();
        noIvyOnACollapsedOne();
        noGhostBesideTheFullMoon();
        ghostsByTheGradeAtTheFullMoon();
        ghostsByTheIvyThatHasJustGrown();
        ghostsAtTheFullMoonAreFiveAtMost();
        noGhostForACollapsedFineOne();
        noGhostLessBesideTheDarkNight();
        ghostsByTheGradeInADarkNight();
        ghostsStayWhereIvyHasJustGrown();
        ghostsOfACollapsedOne();
        ghostsOfOneThatFallsThisDay();
        ghostsAreNoLessThanNone();
        theDayIsOneGreater();
        sixtyDaysAreSixtyTimesADay();
        end("a day goes as the document says");
    }

    /** A ruin added on that day and a day gone by. */
    private static RuinViews behindDay(int day, int walls, int ivy, int ghosts) {
        RuinViews x = onDay(day);
        x.addRuin(walls, ivy, ghosts, 1);
        x.pass(1);
        return x;
    }

    private static void guestsComeByTheRanksOfNow() {
        RuinViews x = withRuin(10, 12, 0, 1);
        x.addRuin(11, 0, 0, 3);
        due("the first by now", x.rankOf(0), 0);
        due("6 of a coin, 3 of three", x.pass(1), 15);
        due("the second behind the day", x.rankOf(0), 1);
        due("3 of a coin, 6 of three", x.pass(1), 21);
    }

    private static void guestsComeBeforeTheLastWallFalls() {
        RuinViews x = withRuin(1, 12, 0, 1);
        due("they come on the day of the fall", x.pass(1), 6);
        due("and no more", x.pass(1), 0);
    }

    private static void guestsComeBeforeTicketsArePaidBack() {
        RuinViews x = withRuin(1, 12, 0, 9);
        x.addRuin(5, 0, 0, 1);
        x.sellTicket(0, 1);
        x.pass(1);
        due("6 coins less 9", x.pass(1), -3);
    }

    private static void ticketOfTheDayOfTheFall() {
        RuinViews x = withRuin(3, 12, 0, 4);
        x.setGuests(0);
        x.sellTicket(0, 2);
        due("three days", x.pass(3), 0);
        due("fallen", x.hasCollapsed(0), true);
        due("used", x.isOpen(0), false);
        due("not paid back", x.isPaidBack(0), false);
    }

    private static void ticketOfTheDayBehindTheFall() {
        RuinViews x = withRuin(3, 12, 0, 4);
        x.setGuests(0);
        x.sellTicket(0, 3);
        due("three days", x.pass(3), 0);
        due("open, though it has fallen", x.isOpen(0), true);
        due("not paid back yet", x.isPaidBack(0), false);
        due("the fourth", x.pass(1), -4);
        due("over", x.isOpen(0), false);
        due("paid back", x.isPaidBack(0), true);
    }

    private static void ticketOfAnotherDay() {
        RuinViews x = onDay(5);
        x.addRuin(9, 0, 0, 4);
        x.sellTicket(0, 1);
        x.sellTicket(0, 2);
        x.sellTicket(0, 0);
        x.pass(1);
        due("of the day behind", x.isOpen(0), true);
        due("of the day behind that", x.isOpen(1), true);
        due("of this day", x.isOpen(2), false);
    }

    private static void ticketOfADayThatIsPropped() {
        RuinViews x = withRuin(1, 12, 0, 9);
        x.setGuests(0);
        x.sellTicket(0, 1);
        due("a second wall", x.prop(0), 2);
        x.pass(2);
        due("used, since it stood one day more", x.isPaidBack(0), false);
        due("coins", x.purse(), 4);
    }

    private static void eachTicketIsPaidBackOnce() {
        RuinViews x = withRuin(1, 12, 0, 7);
        x.setGuests(0);
        x.sellTicket(0, 1);
        x.sellTicket(0, 1);
        x.sellTicket(0, 2);
        due("two of a day", x.pass(2), -14);
        due("one of the next", x.pass(1), -7);
        due("none", x.pass(60), 0);
    }

    private static void ivyGrowsInTheDays2And5And8() {
        int[] growth = {0, 0, 1, 0, 0, 1, 0, 0, 1, 0, 0, 1};
        for (int day = 0; day < growth.length; day++) {
            due("ivy behind day " + day, behindDay(day, 9, 4, 0).ivyOf(0), 4 + growth[day]);
        }
        due("ivy behind day 59", behindDay(59, 9, 4, 0).ivyOf(0), 5);
        due("ivy behind day 60", behindDay(60, 9, 4, 0).ivyOf(0), 4);
    }

    private static void ivyGrowsToTwelveAtMost() {
        due("the last that grows", behindDay(2, 9, 11, 0).ivyOf(0), 12);
        due("none grows", behindDay(2, 9, 12, 0).ivyOf(0), 12);
    }

    private static void ivyChokesOnTheDayThatItIsTen() {
        due("9 ivy, no growth", behindDay(1, 9, 9, 0).wallsOf(0), 9);
        due("9 ivy that grows", behindDay(2, 9, 9, 0).wallsOf(0), 8);
        due("8 ivy that grows", behindDay(2, 9, 8, 0).wallsOf(0), 9);
        due("10 ivy, no growth", behindDay(1, 9, 10, 0).wallsOf(0), 8);
        due("12 ivy, no growth", behindDay(2, 9, 12, 0).wallsOf(0), 8);
    }

    private static void ivyThatIsCutToNineDoesNotChoke() {
        RuinViews x = withRuin(9, 12, 0, 0);
        x.cutIvy(0, 2);
        x.pass(1);
        due("10 ivy", x.wallsOf(0), 8);
        x.cutIvy(0, 1);
        x.pass(1);
        due("9 ivy", x.wallsOf(0), 8);
    }

    private static void theLastWallFalls() {
        due("of two", behindDay(1, 2, 12, 0).standing(), 1);
        due("of one", behindDay(1, 1, 12, 0).standing(), 0);
        RuinViews x = behindDay(1, 1, 12, 0);
        x.pass(1);
        due("of none", x.wallsOf(0), 0);
    }

    private static void noIvyOnACollapsedOne() {
        RuinViews x = behindDay(2, 1, 9, 0);
        due("it grew in the day of the fall", x.ivyOf(0), 10);
        x.pass(3);
        due("and no more", x.ivyOf(0), 10);
        x.cutIvy(0, 12);
        x.pass(30);
        due("nor anew", x.ivyOf(0), 0);
    }

    private static void noGhostBesideTheFullMoon() {
        for (int day = 0; day < 8; day++) {
            due("ghosts behind day " + day, behindDay(day, 9, 7, 2).ghostsOf(0), day == 4 ? 3 : 2);
        }
    }

    private static void ghostsByTheGradeAtTheFullMoon() {
        int[] more = {0, 0, 0, 0, 0, 0, 0, 1, 1, 1, 0, 0, 0};
        for (int ivy = 0; ivy <= 12; ivy++) {
            due("ghosts by ivy " + ivy, behindDay(4, 9, ivy, 2).ghostsOf(0), 2 + more[ivy]);
        }
    }

    /** Day 20 is one of a full moon in which ivy grows. */
    private static void ghostsByTheIvyThatHasJustGrown() {
        int[] more = {0, 0, 0, 0, 0, 0, 1, 1, 1, 0, 0, 0, 0};
        for (int ivy = 0; ivy <= 12; ivy++) {
            due("ghosts by ivy " + ivy + " that grows", behindDay(20, 9, ivy, 2).ghostsOf(0), 2 + more[ivy]);
        }
    }

    private static void ghostsAtTheFullMoonAreFiveAtMost() {
        due("a first one", behindDay(4, 9, 9, 0).ghostsOf(0), 1);
        due("a fifth one", behindDay(4, 9, 9, 4).ghostsOf(0), 5);
        due("no sixth one", behindDay(4, 9, 9, 5).ghostsOf(0), 5);
    }

    private static void noGhostForACollapsedFineOne() {
        RuinViews x = onDay(3);
        x.addRuin(1, 12, 2, 0);
        x.addRuin(2, 12, 2, 0);
        x.pass(1);
        x.cutIvy(0, 4);
        x.cutIvy(1, 4);
        due("one has collapsed", x.hasCollapsed(0), true);
        due("its grade", x.gradeOf(0), 3);
        x.pass(1);
        due("no ghost more", x.ghostsOf(0), 2);
        due("one for the last wall", x.ghostsOf(1), 3);
    }

    private static void noGhostLessBesideTheDarkNight() {
        for (int day = 0; day < 8; day++) {
            if (day % 3 != 2) {
                due("ghosts behind day " + day, behindDay(day, 9, 0, 2).ghostsOf(0), day == 0 ? 1 : 2);
            }
        }
    }

    private static void ghostsByTheGradeInADarkNight() {
        for (int ivy = 0; ivy <= 12; ivy++) {
            due("ghosts by ivy " + ivy, behindDay(16, 9, ivy, 2).ghostsOf(0), ivy == 0 ? 1 : 2);
        }
    }

    /** Day 8 is one of no moon in which ivy grows. */
    private static void ghostsStayWhereIvyHasJustGrown() {
        RuinViews x = behindDay(8, 9, 0, 2);
        due("ivy", x.ivyOf(0), 1);
        due("ghosts", x.ghostsOf(0), 2);
    }

    private static void ghostsOfACollapsedOne() {
        RuinViews x = onDay(1);
        x.addRuin(1, 12, 3, 0);
        x.addRuin(1, 12, 3, 0);
        x.pass(7);
        x.cutIvy(1, 12);
        due("before the dark night", x.ghostsOf(0), 3);
        x.pass(1);
        due("one less, by a grade of 1", x.ghostsOf(0), 2);
        due("one less, not two, by a grade of 0", x.ghostsOf(1), 2);
        x.pass(7);
        due("none less till the next", x.ghostsOf(0), 2);
        x.pass(1);
        due("one less in the next", x.ghostsOf(0), 1);
    }

    private static void ghostsOfOneThatFallsThisDay() {
        due("it falls in a dark night", behindDay(8, 1, 12, 3).ghostsOf(0), 2);
        due("it has one wall more", behindDay(8, 2, 12, 3).ghostsOf(0), 3);
    }

    private static void ghostsAreNoLessThanNone() {
        due("the last goes", behindDay(0, 9, 0, 1).ghostsOf(0), 0);
        due("there is none to go", behindDay(0, 9, 0, 0).ghostsOf(0), 0);
        due("the last of a fallen one goes", behindDay(0, 1, 12, 1).ghostsOf(0), 0);
        due("there is none of a fallen one", behindDay(0, 1, 12, 0).ghostsOf(0), 0);
    }

    private static void theDayIsOneGreater() {
        RuinViews x = new RuinViews();
        x.pass(1);
        due("one day", x.day(), 1);
        x.pass(60);
        due("sixty days", x.day(), 61);
    }

    private static void sixtyDaysAreSixtyTimesADay() {
        RuinViews x = crowded();
        RuinViews y = crowded();
        int more = x.pass(60);
        int sum = 0;
        for (int i = 0; i < 60; i++) {
            sum += y.pass(1);
        }
        due("coins of sixty days", more, sum);
        due("what is behind sixty days", x.digest(), y.digest());
    }

    private static RuinViews crowded() {
        RuinViews x = new RuinViews();
        for (int i = 0; i < 10; i++) {
            x.addRuin(2 * i + 1, (5 * i) % 13, i % 6, 9 - i);
        }
        for (int i = 0; i < 30; i++) {
            x.sellTicket(i % 10, i);
        }
        return x;
    }
}
