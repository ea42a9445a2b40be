/** Each promise by itself: ordinary inputs, the edges that the document names, and wrong inputs. */
public final class PromisesTest extends Checks {
    public static void main(String[] args) {
        promise1NewObject();
        promise2AddRuin();
        promise3CutIvy();
        promise4Prop();
        promise5SetPrice();
        promise6SetGuests();
        promise7SellTicket();
        promise8Pass();
        promise8Ivy();
        promise8Ghosts();
        promise8TicketsAndGuestsOfADay();
        promises9To12Moon();
        promises13To15Machine();
        promises16To20WhatRuinsAre();
        promise18Grades();
        promise21View();
        promises22And23Ranks();
        promise24Guests();
        promises25To28Tickets();
        promise29ViewIn();
        promise30DaysUntilCollapse();
        promise31DaysUntilFirst();
        promise32BestCut();
        promise33PurseIn();
        promise34MeanView();
        promise35Digest();
        fullHouse();
        wrongRuinsEverywhere();
        askingChangesNothing();
        objectsAreApart();
        end("every promise holds");
    }

    private static void promise1NewObject() {
        RuinViews x = new RuinViews();
        due("1 day", x.day(), 0);
        due("1 ruins", x.ruins(), 0);
        due("1 standing", x.standing(), 0);
        due("1 tickets", x.tickets(), 0);
        due("1 purse", x.purse(), 0);
        due("1 guests", x.setGuests(3), 12);
        refused("1 wallsOf(0)", x, INDEX, () -> x.wallsOf(0));
    }

    private static void promise2AddRuin() {
        RuinViews x = new RuinViews();
        int[][] bad = {{0, 5, 2, 3}, {-1, 5, 2, 3}, {21, 5, 2, 3}, {5, -1, 2, 3}, {5, 13, 2, 3}, {5, 5, -1, 3},
            {5, 5, 6, 3}, {5, 5, 2, -1}, {5, 5, 2, 10}, {FAR_DOWN, 5, 2, 3}, {FAR_UP, 5, 2, 3},
            {5, FAR_DOWN, 2, 3}, {5, FAR_UP, 2, 3}, {5, 5, FAR_UP, 3}, {5, 5, 2, FAR_UP}};
        for (int[] b : bad) {
            refused("2 addRuin bad", x, ARGUMENT, () -> x.addRuin(b[0], b[1], b[2], b[3]));
        }
        due("2 least", x.addRuin(1, 0, 0, 0), 0);
        due("2 most", x.addRuin(20, 12, 5, 9), 1);
        due("2 between", x.addRuin(7, 3, 2, 4), 2);
        due("2 walls", x.wallsOf(2), 7);
        due("2 ivy", x.ivyOf(2), 3);
        due("2 ghosts", x.ghostsOf(2), 2);
        due("2 price", x.setPrice(2, 4), 4);
        for (int i = 3; i < 10; i++) {
            due("2 number", x.addRuin(5, 5, 2, 3), i);
        }
        refused("2 an eleventh", x, STATE, () -> x.addRuin(5, 5, 2, 3));
        refused("2 a bad eleventh", x, ARGUMENT, () -> x.addRuin(0, 5, 2, 3));
        due("2 ruins", x.ruins(), 10);
    }

    private static void promise3CutIvy() {
        RuinViews x = withRuin(5, 12, 0, 0);
        due("3 some", x.cutIvy(0, 1), 11);
        due("3 ivy", x.ivyOf(0), 11);
        due("3 more", x.cutIvy(0, 4), 7);
        refused("3 none", x, ARGUMENT, () -> x.cutIvy(0, 0));
        refused("3 less than none", x, ARGUMENT, () -> x.cutIvy(0, -1));
        refused("3 too much", x, ARGUMENT, () -> x.cutIvy(0, 13));
        refused("3 far too much", x, ARGUMENT, () -> x.cutIvy(0, FAR_UP));
        refused("3 far too little", x, ARGUMENT, () -> x.cutIvy(0, FAR_DOWN));
        refused("3 no ruin", x, INDEX, () -> x.cutIvy(1, 3));
        refused("3 no ruin, too much", x, INDEX, () -> x.cutIvy(-1, 13));
        due("3 more than there is", x.cutIvy(0, 12), 0);
        due("3 of none", x.cutIvy(0, 1), 0);
        RuinViews y = withCollapsed();
        due("3 of a collapsed one", y.cutIvy(0, 5), 7);
    }

    private static void promise4Prop() {
        RuinViews x = withRuin(18, 0, 0, 9);
        refused("4 no coins", x, STATE, () -> x.prop(0));
        x.setPrice(0, 4);
        x.sellTicket(0, 30);
        refused("4 four coins", x, STATE, () -> x.prop(0));
        x.setPrice(0, 1);
        x.sellTicket(0, 30);
        due("4 five coins", x.purse(), 5);
        due("4 a wall", x.prop(0), 19);
        due("4 paid", x.purse(), 0);
        due("4 walls", x.wallsOf(0), 19);
        x.setPrice(0, 9);
        x.sellTicket(0, 30);
        x.sellTicket(0, 30);
        due("4 the last wall", x.prop(0), 20);
        refused("4 twenty walls", x, STATE, () -> x.prop(0));
        refused("4 no ruin", x, INDEX, () -> x.prop(1));
        refused("4 no ruin below", x, INDEX, () -> x.prop(-1));
        RuinViews y = withCollapsed();
        due("4 coins enough", y.purse(), 24);
        refused("4 collapsed", y, STATE, () -> y.prop(0));
    }

    private static void promise5SetPrice() {
        RuinViews x = withRuin(5, 5, 0, 3);
        due("5 before", x.setPrice(0, 9), 3);
        due("5 before that", x.setPrice(0, 0), 9);
        due("5 zero", x.setPrice(0, 7), 0);
        refused("5 too low", x, ARGUMENT, () -> x.setPrice(0, -1));
        refused("5 too high", x, ARGUMENT, () -> x.setPrice(0, 10));
        refused("5 far too high", x, ARGUMENT, () -> x.setPrice(0, FAR_UP));
        refused("5 no ruin", x, INDEX, () -> x.setPrice(1, 3));
        refused("5 no ruin, too high", x, INDEX, () -> x.setPrice(1, 10));
        due("5 kept", x.setPrice(0, 2), 7);
        x.setGuests(1);
        due("5 guests pay it", x.pass(1), 2);
        RuinViews y = withCollapsed();
        due("5 of a collapsed one", y.setPrice(0, 1), 4);
    }

    private static void promise6SetGuests() {
        RuinViews x = withRuin(5, 5, 0, 1);
        due("6 before", x.setGuests(40), 12);
        due("6 most", x.setGuests(0), 40);
        due("6 none come", x.pass(1), 0);
        due("6 none", x.setGuests(5), 0);
        refused("6 too few", x, ARGUMENT, () -> x.setGuests(-1));
        refused("6 too many", x, ARGUMENT, () -> x.setGuests(41));
        refused("6 far too many", x, ARGUMENT, () -> x.setGuests(FAR_UP));
        due("6 five come each day", x.pass(2), 6);
    }

    private static void promise7SellTicket() {
        RuinViews x = withRuin(5, 5, 0, 3);
        due("7 first", x.sellTicket(0, 0), 0);
        due("7 paid", x.purse(), 3);
        due("7 second", x.sellTicket(0, 30), 1);
        due("7 day", x.dayOf(1), 30);
        refused("7 in the past", x, ARGUMENT, () -> x.sellTicket(0, -1));
        refused("7 too far", x, ARGUMENT, () -> x.sellTicket(0, 31));
        refused("7 far too far", x, ARGUMENT, () -> x.sellTicket(0, FAR_UP));
        refused("7 no ruin", x, INDEX, () -> x.sellTicket(1, 1));
        refused("7 no ruin, too far", x, INDEX, () -> x.sellTicket(1, 31));
        for (int i = 2; i < 30; i++) {
            due("7 number", x.sellTicket(0, 1), i);
        }
        refused("7 a thirty-first", x, STATE, () -> x.sellTicket(0, 1));
        refused("7 a bad thirty-first", x, ARGUMENT, () -> x.sellTicket(0, 31));
        due("7 tickets", x.tickets(), 30);
        due("7 coins", x.purse(), 90);
        RuinViews y = withCollapsed();
        refused("7 collapsed", y, STATE, () -> y.sellTicket(0, 1));
        refused("7 collapsed, too far", y, ARGUMENT, () -> y.sellTicket(0, 31));
    }

    private static void promise8Pass() {
        RuinViews x = withRuin(20, 0, 0, 2);
        refused("8 none", x, ARGUMENT, () -> x.pass(0));
        refused("8 less than none", x, ARGUMENT, () -> x.pass(-1));
        refused("8 too many", x, ARGUMENT, () -> x.pass(61));
        refused("8 far too many", x, ARGUMENT, () -> x.pass(FAR_UP));
        refused("8 far too few", x, ARGUMENT, () -> x.pass(FAR_DOWN));
        due("8 one", x.pass(1), 12);
        due("8 the first gets half", x.purse(), 12);
        due("8 sixty", new RuinViews().pass(60), 0);
        due("8 more", x.pass(3), 36);
        due("8 purse", x.purse(), 48);
        due("8 day", x.day(), 4);
        RuinViews y = withRuin(1, 12, 0, 7);
        y.setGuests(0);
        y.sellTicket(0, 1);
        due("8 nothing yet", y.pass(1), 0);
        due("8 less", y.pass(1), -7);
        RuinViews z = withRuin(2, 12, 0, 5);
        z.setGuests(0);
        z.sellTicket(0, 2);
        z.prop(0);
        due("8 two walls, a third", z.wallsOf(0), 3);
        z.pass(3);
        due("8 used before the walls fell", z.purse(), 0);
        RuinViews debt = withRuin(1, 12, 0, 9);
        debt.addRuin(5, 0, 0, 9);
        debt.setGuests(0);
        debt.sellTicket(0, 3);
        debt.prop(0);
        due("8 coins of the ticket are spent", debt.purse(), 4);
        due("8 and are paid back", debt.pass(4), -9);
        due("8 which leaves a debt", debt.purse(), -5);
        refused("4 a debt", debt, STATE, () -> debt.prop(1));
    }

    private static void promise8Ivy() {
        RuinViews x = withRuin(20, 8, 0, 0);
        int[] ivy = {8, 8, 9, 9, 9, 10, 10, 10, 11, 11, 11, 12, 12, 12, 12};
        int[] walls = {20, 20, 20, 20, 20, 19, 18, 17, 16, 15, 14, 13, 12, 11, 10};
        for (int day = 0; day < ivy.length; day++) {
            x.pass(1);
            due("8 ivy after day " + day, x.ivyOf(0), ivy[day]);
            due("8 walls after day " + day, x.wallsOf(0), walls[day]);
        }
        x.pass(10);
        due("8 no walls left", x.wallsOf(0), 0);
        x.cutIvy(0, 12);
        x.pass(6);
        due("8 no ivy on a collapsed one", x.ivyOf(0), 0);
        due("8 no walls below none", x.wallsOf(0), 0);
    }

    private static void promise8Ghosts() {
        RuinViews x = new RuinViews();
        x.addRuin(9, 6, 2, 0); // its ivy is 7 on day 4
        x.addRuin(9, 5, 2, 0); // 6
        x.addRuin(9, 9, 2, 0); // 10: it chokes
        x.addRuin(9, 7, 5, 0); // 8, with 5 ghosts
        x.addRuin(1, 9, 2, 0); // falls on day 2
        x.addRuin(9, 8, 2, 0); // 9
        x.pass(4);
        due("8 no ghost before the full moon", x.ghostsOf(0), 2);
        x.pass(1);
        int[] full = {3, 2, 2, 5, 2, 3};
        for (int ruin = 0; ruin < full.length; ruin++) {
            due("8 full moon, ghosts of " + ruin, x.ghostsOf(ruin), full[ruin]);
        }
        x.pass(3);
        due("8 day before no moon", x.ghostsOf(4), 2);
        x.pass(1);
        int[] dark = {3, 2, 2, 5, 1, 3};
        for (int ruin = 0; ruin < dark.length; ruin++) {
            due("8 no moon, ghosts of " + ruin, x.ghostsOf(ruin), dark[ruin]);
        }
        x.pass(16);
        due("8 no ghosts below none", x.ghostsOf(4), 0);
        RuinViews bare = withRuin(9, 0, 2, 0);
        bare.pass(1);
        due("8 without ivy", bare.ghostsOf(0), 1);
        bare.pass(7);
        bare.cutIvy(0, 12);
        bare.pass(1);
        due("8 ivy grows on day 8", bare.ivyOf(0), 1);
        due("8 before the ghost would go", bare.ghostsOf(0), 1);
        bare.pass(7);
        bare.cutIvy(0, 12);
        bare.pass(1);
        due("8 no ivy grows on day 16", bare.ivyOf(0), 0);
        due("8 and the ghost goes", bare.ghostsOf(0), 0);
        RuinViews falls = withRuin(1, 7, 2, 0);
        falls.pass(4);
        due("8 ivy of the fine one", falls.ivyOf(0), 8);
        falls.pass(1);
        due("8 the fine one has more", falls.ghostsOf(0), 3);
        RuinViews fallsNow = withRuin(1, 12, 2, 0);
        fallsNow.pass(1);
        due("8 falls in a night without moon", fallsNow.ghostsOf(0), 1);
    }

    private static void promise8TicketsAndGuestsOfADay() {
        RuinViews x = new RuinViews();
        x.addRuin(2, 12, 0, 3);
        x.addRuin(1, 0, 0, 5);
        x.setGuests(9);
        x.sellTicket(0, 2);
        x.sellTicket(0, 1);
        due("8 two tickets", x.purse(), 6);
        due("8 guests by the ranks of the morning", x.pass(1), 5 * 3 + 2 * 5);
        due("8 it has a wall left", x.wallsOf(0), 1);
        due("8 used on the day that it falls", x.pass(1), 5 * 3 + 2 * 5);
        due("8 it has fallen", x.hasCollapsed(0), true);
        due("8 used", x.isPaidBack(1), false);
        due("8 the other gets the first's", x.pass(1), 5 * 5 - 3);
        due("8 paid back", x.isPaidBack(0), true);
        x.setPrice(0, 9);
        due("8 not again", x.pass(2), 2 * 5 * 5);
        RuinViews y = withRuin(1, 12, 0, 3);
        y.setGuests(0);
        y.sellTicket(0, 1);
        y.setPrice(0, 9);
        due("8 what was paid is paid back", y.pass(2), -3);
    }

    private static void promises9To12Moon() {
        RuinViews x = new RuinViews();
        int[] brightness = {0, 1, 2, 3, 4, 3, 2, 1};
        int[] until = {4, 3, 2, 1, 0, 7, 6, 5};
        for (int day = 0; day < 24; day++) {
            due("9 day", x.day(), day);
            due("10 phase on " + day, x.phase(), day % 8);
            due("11 brightness on " + day, x.brightness(), brightness[day % 8]);
            due("12 daysUntilFullMoon on " + day, x.daysUntilFullMoon(), until[day % 8]);
            x.pass(1);
        }
        x.pass(60);
        due("9 later", x.day(), 84);
        due("10 later", x.phase(), 4);
    }

    private static void promises13To15Machine() {
        RuinViews x = withRuin(1, 12, 0, 2);
        x.addRuin(3, 0, 0, 2);
        due("13 ruins", x.ruins(), 2);
        due("14 standing", x.standing(), 2);
        due("15 purse", x.purse(), 0);
        x.pass(1);
        due("13 ruins, one of them collapsed", x.ruins(), 2);
        due("14 one stands", x.standing(), 1);
        due("15 guests paid", x.purse(), 18);
    }

    private static void promises16To20WhatRuinsAre() {
        RuinViews x = withRuin(2, 11, 4, 2);
        due("16 walls", x.wallsOf(0), 2);
        due("17 ivy", x.ivyOf(0), 11);
        due("18 grade", x.gradeOf(0), 1);
        due("19 ghosts", x.ghostsOf(0), 4);
        due("20 stands", x.hasCollapsed(0), false);
        x.pass(2);
        due("16 no walls", x.wallsOf(0), 0);
        due("17 ivy stays", x.ivyOf(0), 11);
        due("18 grade of a collapsed one", x.gradeOf(0), 1);
        due("19 ghosts stay till the moon goes", x.ghostsOf(0), 4);
        due("20 collapsed", x.hasCollapsed(0), true);
    }

    private static void promise18Grades() {
        int[] grades = {0, 1, 1, 1, 2, 2, 2, 3, 3, 3, 1, 1, 1};
        for (int ivy = 0; ivy <= 12; ivy++) {
            due("18 grade of ivy " + ivy, withRuin(5, ivy, 0, 0).gradeOf(0), grades[ivy]);
        }
    }

    private static void promise21View() {
        RuinViews x = new RuinViews();
        x.addRuin(20, 9, 5, 0);
        x.addRuin(4, 4, 3, 0);
        x.addRuin(1, 0, 0, 0);
        due("21 by a dark moon", x.viewOf(0), 49);
        due("21 less walls", x.viewOf(1), 14);
        due("21 the least", x.viewOf(2), 2);
        x.pass(1);
        due("21 by some moon", x.viewOf(0), 54);
        due("21 by some moon, less ghosts", x.viewOf(1), 17);
        RuinViews y = withRuin(20, 5, 5, 0);
        y.pass(4);
        due("21 by the full moon", y.viewOf(0), 66);
        RuinViews z = withCollapsed();
        due("21 collapsed", z.viewOf(0), 0);
    }

    private static void promises22And23Ranks() {
        RuinViews x = new RuinViews();
        x.addRuin(5, 0, 0, 3);  // view 10, price 3
        x.addRuin(5, 0, 0, 2);  // view 10, price 2
        x.addRuin(2, 7, 0, 9);  // view 13
        x.addRuin(1, 12, 5, 0); // view 5
        x.addRuin(5, 0, 0, 3);  // as the first
        x.addRuin(5, 0, 0, 0);  // view 10, price 0
        int[] ranks = {3, 2, 0, 5, 4, 1};
        for (int ruin = 0; ruin < ranks.length; ruin++) {
            due("22 rank of " + ruin, x.rankOf(ruin), ranks[ruin]);
            due("23 ruin at " + ranks[ruin], x.ruinAt(ranks[ruin]), ruin);
        }
        refused("23 rank 6 of 6", x, INDEX, () -> x.ruinAt(6));
        refused("23 rank -1", x, INDEX, () -> x.ruinAt(-1));
        refused("23 far rank", x, INDEX, () -> x.ruinAt(FAR_UP));
        x.pass(1);
        due("22 none for a collapsed one", x.rankOf(3), -1);
        refused("23 rank -1 with a collapsed one", x, INDEX, () -> x.ruinAt(-1));
        refused("23 rank 5 of 5", x, INDEX, () -> x.ruinAt(5));
        due("23 the last", x.ruinAt(4), 4);
        due("22 others keep theirs", x.rankOf(4), 4);
        x.setPrice(4, 0);
        due("22 a new price", x.rankOf(4), 1);
        due("22 the number decides", x.rankOf(5), 2);
        RuinViews fresh = new RuinViews();
        fresh.addRuin(5, 0, 0, 0);
        fresh.addRuin(6, 0, 0, 0);
        due("23 asked before anything else", fresh.ruinAt(0), 1);
        RuinViews dear = new RuinViews();
        dear.addRuin(2, 1, 0, 0); // view 7, the least price
        dear.addRuin(4, 0, 0, 9); // view 8, the greatest price
        due("22 the view before the price", dear.rankOf(1), 0);
        due("22 less view, though for nothing", dear.rankOf(0), 1);
        RuinViews empty = new RuinViews();
        refused("23 no ruins", empty, INDEX, () -> empty.ruinAt(0));
        RuinViews moon = new RuinViews();
        moon.addRuin(5, 0, 0, 0);
        moon.addRuin(4, 1, 3, 0);
        due("22 by the dark moon", moon.rankOf(1), 0);
        RuinViews brighter = new RuinViews();
        brighter.addRuin(5, 1, 0, 0);
        brighter.addRuin(4, 1, 1, 0);
        due("22 before the moon", brighter.rankOf(1), 1);
        brighter.pass(3);
        due("22 with the moon", brighter.rankOf(1), 0);
    }

    private static void promise24Guests() {
        RuinViews x = new RuinViews();
        for (int i = 0; i < 10; i++) {
            x.addRuin(11 + i, 0, 0, 0);
        }
        x.setGuests(40);
        int[] forty = {20, 10, 5, 3, 1, 1, 0, 0, 0, 0};
        for (int rank = 0; rank < 10; rank++) {
            due("24 of 40, rank " + rank, x.guestsOf(9 - rank), forty[rank]);
        }
        x.setGuests(39);
        int[] odd = {20, 10, 5, 2, 1, 1, 0, 0, 0, 0};
        for (int rank = 0; rank < 10; rank++) {
            due("24 of 39, rank " + rank, x.guestsOf(9 - rank), odd[rank]);
        }
        x.setGuests(1);
        due("24 one comes to the first", x.guestsOf(9), 1);
        due("24 and none to the next", x.guestsOf(8), 0);
        x.setGuests(0);
        due("24 none", x.guestsOf(9), 0);
        due("24 collapsed", withCollapsed().guestsOf(0), 0);
    }

    private static void promises25To28Tickets() {
        RuinViews x = new RuinViews();
        x.addRuin(1, 12, 0, 3);
        x.addRuin(5, 0, 0, 3);
        x.pass(1);
        x.addRuin(1, 12, 0, 4);
        due("25 none", x.tickets(), 0);
        refused("26 none", x, INDEX, () -> x.dayOf(0));
        refused("27 none", x, INDEX, () -> x.isOpen(0));
        refused("28 none", x, INDEX, () -> x.isPaidBack(0));
        x.sellTicket(1, 0);
        x.sellTicket(1, 2);
        x.sellTicket(2, 1);
        due("25 three", x.tickets(), 3);
        due("26 today", x.dayOf(0), 1);
        due("26 later", x.dayOf(1), 3);
        for (int ticket = 0; ticket < 3; ticket++) {
            due("27 open", x.isOpen(ticket), true);
            due("28 not paid back", x.isPaidBack(ticket), false);
        }
        x.pass(1);
        due("27 used", x.isOpen(0), false);
        due("28 used, not paid back", x.isPaidBack(0), false);
        due("27 still open", x.isOpen(1), true);
        due("27 open though its ruin fell", x.isOpen(2), true);
        x.pass(1);
        due("27 paid back", x.isOpen(2), false);
        due("28 paid back", x.isPaidBack(2), true);
        due("26 its day stays", x.dayOf(2), 2);
        due("25 still three", x.tickets(), 3);
        for (int ticket : new int[] {-1, 3, 30, FAR_DOWN, FAR_UP}) {
            refused("26 dayOf " + ticket, x, INDEX, () -> x.dayOf(ticket));
            refused("27 isOpen " + ticket, x, INDEX, () -> x.isOpen(ticket));
            refused("28 isPaidBack " + ticket, x, INDEX, () -> x.isPaidBack(ticket));
        }
    }

    private static void promise29ViewIn() {
        RuinViews x = withRuin(10, 6, 2, 0);
        due("29 tomorrow", x.viewIn(0, 1), 28);
        due("29 by the full moon", x.viewIn(0, 4), 37);
        due("29 behind the full moon", x.viewIn(0, 5), 38);
        due("29 behind no moon", x.viewIn(0, 60), 0);
        due("29 the ivy chokes on day 11", x.viewIn(0, 12), 2 * 9 + 3 + 3 * 4);
        refused("29 now", x, ARGUMENT, () -> x.viewIn(0, 0));
        refused("29 too far", x, ARGUMENT, () -> x.viewIn(0, 61));
        refused("29 the past", x, ARGUMENT, () -> x.viewIn(0, -1));
        refused("29 far too far", x, ARGUMENT, () -> x.viewIn(0, FAR_UP));
        refused("29 no ruin, too far", x, INDEX, () -> x.viewIn(1, 61));
        RuinViews choked = withRuin(9, 12, 1, 0);
        due("29 a wall less each day, this one too", choked.viewIn(0, 1), 2 * 8 + 3 + 1);
        due("29 when it has collapsed", choked.viewIn(0, 9), 0);
        RuinViews y = withRuin(20, 0, 5, 0);
        y.pass(3);
        due("29 from a later day", y.viewIn(0, 1), 40 + 3 + 16);
    }

    private static void promise30DaysUntilCollapse() {
        due("30 a day", withRuin(1, 12, 0, 0).daysUntilCollapse(0), 1);
        due("30 twenty", withRuin(20, 10, 0, 0).daysUntilCollapse(0), 20);
        due("30 ivy 9", withRuin(1, 9, 0, 0).daysUntilCollapse(0), 3);
        due("30 now", withCollapsed().daysUntilCollapse(0), 0);
        // Ivy 0 chokes first on day 29 (the tenth day of growth): 30 days, and one for each wall more.
        due("30 bare", withRuin(20, 0, 0, 0).daysUntilCollapse(0), 49);
        due("30 bare, one wall", withRuin(1, 0, 0, 0).daysUntilCollapse(0), 30);
        RuinViews x = withRuin(1, 9, 0, 0);
        x.pass(2);
        due("30 from a later day", x.daysUntilCollapse(0), 1);
    }

    private static void promise31DaysUntilFirst() {
        RuinViews x = new RuinViews();
        x.addRuin(9, 12, 0, 0);
        x.addRuin(5, 0, 0, 0);
        x.addRuin(1, 12, 5, 0);
        due("31 now", x.daysUntilFirst(0), 0);
        due("31 never", x.daysUntilFirst(2), -1);
        // The views of the days 0 to 5: 21, 19, 17, 15, 13 and 11, against 10, 10, 10, 13, 13 and 13;
        // of equal views and prices the first number is ahead.
        due("31 when the first has lost walls", x.daysUntilFirst(1), 5);
        due("31 collapsed", withCollapsed().daysUntilFirst(0), -1);
        RuinViews y = new RuinViews();
        y.addRuin(20, 0, 0, 0);
        y.addRuin(20, 0, 0, 0);
        due("31 the number decides till both fall", y.daysUntilFirst(1), -1);
        RuinViews late = new RuinViews();
        late.addRuin(20, 0, 0, 1);
        late.addRuin(1, 0, 0, 0);
        due("31 it falls before it is first", late.daysUntilFirst(1), -1);
    }

    private static void promise32BestCut() {
        due("32 collapsed", withCollapsed().bestCut(0), 0);
        due("32 all fall", withRuin(1, 0, 0, 0).bestCut(0), 0);
        // Bare ivy of day 0 is 13 growths by day 40: it chokes on the days 29 to 39 and takes 11 walls.
        RuinViews x = withRuin(20, 2, 0, 0);
        due("32 all of it", x.bestCut(0), 2);
        due("32 the least of all that is there", withRuin(20, 0, 0, 0).bestCut(0), 0);
        due("32 choked", withRuin(20, 12, 0, 0).bestCut(0), 12);
        // With 11 walls no cut leaves any.
        due("32 eleven walls", withRuin(11, 3, 0, 0).bestCut(0), 0);
        due("32 twelve walls", withRuin(12, 3, 0, 0).bestCut(0), 3);
        due("32 walls before the view", x.viewIn(0, 40), 2 * 3 + 3);
    }

    private static void promise33PurseIn() {
        RuinViews x = withRuin(1, 12, 0, 3);
        x.addRuin(5, 0, 0, 2);
        x.sellTicket(0, 1);
        due("33 a day", x.purseIn(1), 3 + 6 * 2 + 3 * 3);
        due("33 two days", x.purseIn(2), 3 + 21 + 12 - 3);
        due("33 purse stays", x.purse(), 3);
        due("33 the ticket stays open", x.isOpen(0), true);
        refused("33 now", x, ARGUMENT, () -> x.purseIn(0));
        refused("33 the past", x, ARGUMENT, () -> x.purseIn(-1));
        refused("33 too far", x, ARGUMENT, () -> x.purseIn(61));
        refused("33 far too far", x, ARGUMENT, () -> x.purseIn(FAR_UP));
        int then = x.purseIn(60);
        x.pass(60);
        due("33 as it came", x.purse(), then);
    }

    private static void promise34MeanView() {
        dueDouble("34 no ruins", new RuinViews().meanView(), 0.0);
        RuinViews x = withRuin(5, 0, 0, 0);
        dueDouble("34 one", x.meanView(), 10.0);
        x.addRuin(4, 1, 0, 0);
        dueDouble("34 two", x.meanView(), 10.5);
        x.addRuin(1, 10, 0, 0);
        dueDouble("34 three", x.meanView(), 26.0 / 3.0);
        x.pass(1);
        dueDouble("34 of those that stand", x.meanView(), 10.5);
        dueDouble("34 none stands", withCollapsed().meanView(), 0.0);
    }

    private static void promise35Digest() {
        due("35 empty", new RuinViews().digest(), wrapped(new long[] {0, 0, 0, 0, 0, 0}));
        RuinViews x = withRuin(1, 12, 2, 4);
        x.addRuin(5, 7, 1, 3);
        x.sellTicket(0, 1);
        x.sellTicket(1, 5);
        x.sellTicket(1, 0);
        due("35 at first", x.digest(), wrapped(new long[] {0, 0, 2, 2, 10, 3,
            1, 12, 2, 4, 5, 1, 3, 5, 7, 1, 3, 19, 0, 6, 1, 1, 0, 5, 1, 0, 0, 1, 0}));
        x.pass(2);
        due("35 later", x.digest(), wrapped(new long[] {2, 2, 2, 1, 10 + 30 + 18 - 4, 3,
            0, 12, 1, 4, 0, -1, 0, 5, 7, 1, 3, 21, 0, 6, 1, 0, 1, 5, 1, 0, 0, 0, 0}));
    }

    /** As many ruins and tickets as there may be: no row ends too early or too late. */
    private static void fullHouse() {
        RuinViews x = new RuinViews();
        for (int i = 0; i < 10; i++) {
            x.addRuin(20 - i, 0, 0, 1);
        }
        for (int i = 0; i < 30; i++) {
            x.sellTicket(9, i == 29 ? 0 : 30);
        }
        due("14 ten stand", x.standing(), 10);
        due("22 the last of ten", x.rankOf(9), 9);
        due("23 the last of ten", x.ruinAt(9), 9);
        refused("23 an eleventh", x, INDEX, () -> x.ruinAt(10));
        dueDouble("34 of ten", x.meanView(), 31.0);
        due("31 the first of ten", x.daysUntilFirst(0), 0);
        due("31 the last of ten", x.daysUntilFirst(9), -1);
        due("32 the last of ten", x.bestCut(9), 0);
        due("33 with thirty tickets", x.purseIn(1), 42);
        due("33 ruin 9 falls on day 39 only", x.purseIn(31), 30 + 31 * 12);
        due("8 with ten ruins", x.pass(1), 12);
        due("27 the last of thirty is used", x.isOpen(29), false);
        due("27 the others are open", x.isOpen(28), true);
        x.pass(29);
        due("30 the last of ten", x.daysUntilCollapse(9), 10);
        due("17 ivy of the last of ten", x.ivyOf(9), 10);
    }

    private static void wrongRuinsEverywhere() {
        for (int ruin : new int[] {-1, 2, 9, 10, FAR_DOWN, FAR_UP}) {
            RuinViews x = withRuin(3, 3, 3, 3);
            x.addRuin(4, 4, 4, 4);
            refused("3 ruin " + ruin, x, INDEX, () -> x.cutIvy(ruin, 1));
            refused("4 ruin " + ruin, x, INDEX, () -> x.prop(ruin));
            refused("5 ruin " + ruin, x, INDEX, () -> x.setPrice(ruin, 1));
            refused("7 ruin " + ruin, x, INDEX, () -> x.sellTicket(ruin, 1));
            refused("16 ruin " + ruin, x, INDEX, () -> x.wallsOf(ruin));
            refused("17 ruin " + ruin, x, INDEX, () -> x.ivyOf(ruin));
            refused("18 ruin " + ruin, x, INDEX, () -> x.gradeOf(ruin));
            refused("19 ruin " + ruin, x, INDEX, () -> x.ghostsOf(ruin));
            refused("20 ruin " + ruin, x, INDEX, () -> x.hasCollapsed(ruin));
            refused("21 ruin " + ruin, x, INDEX, () -> x.viewOf(ruin));
            refused("22 ruin " + ruin, x, INDEX, () -> x.rankOf(ruin));
            refused("24 ruin " + ruin, x, INDEX, () -> x.guestsOf(ruin));
            refused("29 ruin " + ruin, x, INDEX, () -> x.viewIn(ruin, 1));
            refused("30 ruin " + ruin, x, INDEX, () -> x.daysUntilCollapse(ruin));
            refused("31 ruin " + ruin, x, INDEX, () -> x.daysUntilFirst(ruin));
            refused("32 ruin " + ruin, x, INDEX, () -> x.bestCut(ruin));
        }
    }

    private static void askingChangesNothing() {
        RuinViews x = withRuin(1, 12, 2, 4);
        x.addRuin(9, 7, 3, 3);
        x.sellTicket(0, 2);
        x.sellTicket(1, 5);
        long digest = x.digest();
        for (int ruin = 0; ruin < 2; ruin++) {
            x.viewIn(ruin, 60);
            x.daysUntilCollapse(ruin);
            x.daysUntilFirst(ruin);
            x.bestCut(ruin);
        }
        x.purseIn(60);
        x.meanView();
        x.digest();
        due("asking changes nothing", x.digest(), digest);
        due("nor the guests", guestsOfMachine(x), 12);
    }

    private static void objectsAreApart() {
        RuinViews x = withRuin(5, 5, 2, 3);
        RuinViews y = new RuinViews();
        x.sellTicket(0, 3);
        x.setGuests(30);
        x.pass(2);
        due("another object's ruins", y.ruins(), 0);
        due("another object's day", y.day(), 0);
        due("another object's guests", guestsOfMachine(y), 12);
        due("another object's tickets", y.tickets(), 0);
    }
}
