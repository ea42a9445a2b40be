/**
 * Each "Throws" of the document: every argument at the last value that is allowed and the first one that is not, on
 * both sides, in each state that matters and in all their combinations; the exception is the one that is named first,
 * and a call that throws changes nothing.
 */
public final class RefusalsTest extends Checks {
    private static final int[] WALLS = {FAR_DOWN, -1, 0, 1, 20, 21, FAR_UP};
    private static final int[] IVY = {FAR_DOWN, -1, 0, 12, 13, FAR_UP};
    private static final int[] GHOSTS = {FAR_DOWN, -1, 0, 5, 6, FAR_UP};
    private static final int[] PRICES = {FAR_DOWN, -1, 0, 9, 10, FAR_UP};
    private static final int[] CUTS = {FAR_DOWN, -1, 0, 1, 12, 13, FAR_UP};
    private static final int[] GUESTS = {FAR_DOWN, -1, 0, 40, 41, FAR_UP};
    private static final int[] DAYS_AHEAD = {FAR_DOWN, -1, 0, 30, 31, FAR_UP};
    private static final int[] DAYS = {FAR_DOWN, -1, 0, 1, 60, 61, FAR_UP};
    private static final int[] NUMBERS = {FAR_DOWN, -1, 0, 1, 8, 9, 10, 11, 28, 29, 30, 31, FAR_UP};

    /** A machine whose counts are known: the ruins from standing on have collapsed. */
    private record State(String name, int ruins, int standing, int tickets, Maker maker) {
        boolean hasRuin(int ruin) {
            return isWithin(ruin, 0, ruins - 1);
        }
    }

    private static final State[] STATES = {
        new State("none", 0, 0, 0, () -> house(0, 0, 0)),
        new State("one ruin", 1, 1, 1, () -> house(1, 0, 1)),
        new State("one collapsed", 1, 0, 0, () -> house(0, 1, 0)),
        new State("nine ruins", 9, 9, 29, () -> house(9, 0, 29)),
        new State("ten ruins", 10, 10, 29, () -> house(10, 0, 29)),
        new State("ten ruins, thirty tickets", 10, 10, 30, () -> house(10, 0, 30)),
        new State("nine stand, one has collapsed", 10, 9, 30, () -> house(9, 1, 30)),
        new State("ten have collapsed", 10, 0, 0, () -> house(0, 10, 0))};

    public static void main(String[] args) {
        statesAreWhatTheySay();
        addRuin();
        cutIvy();
        setPrice();
        setGuests();
        sellTicket();
        pass();
        questionsForRuins();
        viewIn();
        purseIn();
        ruinAt();
        questionsForTickets();
        propNeedsARuin();
        propNeedsWalls();
        propNeedsRoom();
        propNeedsCoins();
        end("each call is refused where the document says");
    }

    /** One day has gone by, in which those fell that were to fall. */
    private static RuinViews house(int standing, int collapsed, int tickets) {
        RuinViews x = new RuinViews();
        for (int i = 0; i < standing; i++) {
            x.addRuin(20 - i, i % 10, i % 6, 9 - i);
        }
        for (int i = 0; i < collapsed; i++) {
            x.addRuin(1, 12, 3, i);
        }
        x.setGuests(21);
        for (int i = 0; i < tickets; i++) {
            x.sellTicket((standing + collapsed) - 1 - i % (standing + collapsed), 1 + i);
        }
        x.pass(1);
        return x;
    }

    private static boolean isWithin(int number, int least, int most) {
        return number >= least && number <= most;
    }

    /** The first name whose condition does not hold. */
    private static String first(boolean index, boolean argument, boolean state) {
        return !index ? INDEX : !argument ? ARGUMENT : !state ? STATE : NOTHING;
    }

    private static void statesAreWhatTheySay() {
        for (State s : STATES) {
            RuinViews x = s.maker.make();
            due(s.name + ": ruins", x.ruins(), s.ruins);
            due(s.name + ": standing", x.standing(), s.standing);
            due(s.name + ": tickets", x.tickets(), s.tickets);
        }
    }

    private static void addRuin() {
        for (State s : STATES) {
            for (int walls : WALLS) {
                for (int ivy : IVY) {
                    for (int ghosts : GHOSTS) {
                        addRuin(s, walls, ivy, ghosts);
                    }
                }
            }
        }
    }

    private static void addRuin(State s, int walls, int ivy, int ghosts) {
        for (int price : PRICES) {
            boolean fits = isWithin(walls, 1, 20) && isWithin(ivy, 0, 12) && isWithin(ghosts, 0, 5)
                && isWithin(price, 0, 9);
            thrown(s.name + ": addRuin(" + walls + ", " + ivy + ", " + ghosts + ", " + price + ")", s.maker,
                first(true, fits, s.ruins < 10), x -> x.addRuin(walls, ivy, ghosts, price));
        }
    }

    private static void cutIvy() {
        for (State s : STATES) {
            for (int ruin : NUMBERS) {
                for (int ivy : CUTS) {
                    thrown(s.name + ": cutIvy(" + ruin + ", " + ivy + ")", s.maker,
                        first(s.hasRuin(ruin), isWithin(ivy, 1, 12), true), x -> x.cutIvy(ruin, ivy));
                }
            }
        }
    }

    private static void setPrice() {
        for (State s : STATES) {
            for (int ruin : NUMBERS) {
                for (int price : PRICES) {
                    thrown(s.name + ": setPrice(" + ruin + ", " + price + ")", s.maker,
                        first(s.hasRuin(ruin), isWithin(price, 0, 9), true), x -> x.setPrice(ruin, price));
                }
            }
        }
    }

    private static void setGuests() {
        for (State s : STATES) {
            for (int guests : GUESTS) {
                thrown(s.name + ": setGuests(" + guests + ")", s.maker,
                    first(true, isWithin(guests, 0, 40), true), x -> x.setGuests(guests));
            }
        }
    }

    private static void sellTicket() {
        for (State s : STATES) {
            for (int ruin : NUMBERS) {
                for (int days : DAYS_AHEAD) {
                    thrown(s.name + ": sellTicket(" + ruin + ", " + days + ")", s.maker,
                        first(s.hasRuin(ruin), isWithin(days, 0, 30), ruin < s.standing && s.tickets < 30),
                        x -> x.sellTicket(ruin, days));
                }
            }
        }
    }

    private static void pass() {
        for (State s : STATES) {
            for (int days : DAYS) {
                thrown(s.name + ": pass(" + days + ")", s.maker,
                    first(true, isWithin(days, 1, 60), true), x -> x.pass(days));
            }
        }
    }

    private static void questionsForRuins() {
        for (State s : STATES) {
            for (int ruin : NUMBERS) {
                String want = first(s.hasRuin(ruin), true, true);
                String of = "(" + ruin + ")";
                thrown(s.name + ": wallsOf" + of, s.maker, want, x -> x.wallsOf(ruin));
                thrown(s.name + ": ivyOf" + of, s.maker, want, x -> x.ivyOf(ruin));
                thrown(s.name + ": gradeOf" + of, s.maker, want, x -> x.gradeOf(ruin));
                thrown(s.name + ": ghostsOf" + of, s.maker, want, x -> x.ghostsOf(ruin));
                thrown(s.name + ": hasCollapsed" + of, s.maker, want, x -> x.hasCollapsed(ruin));
                thrown(s.name + ": viewOf" + of, s.maker, want, x -> x.viewOf(ruin));
                thrown(s.name + ": rankOf" + of, s.maker, want, x -> x.rankOf(ruin));
                thrown(s.name + ": guestsOf" + of, s.maker, want, x -> x.guestsOf(ruin));
                thrown(s.name + ": daysUntilCollapse" + of, s.maker, want, x -> x.daysUntilCollapse(ruin));
                thrown(s.name + ": daysUntilFirst" + of, s.maker, want, x -> x.daysUntilFirst(ruin));
                thrown(s.name + ": bestCut" + of, s.maker, want, x -> x.bestCut(ruin));
            }
        }
    }

    private static void viewIn() {
        for (State s : STATES) {
            for (int ruin : NUMBERS) {
                for (int days : DAYS) {
                    thrown(s.name + ": viewIn(" + ruin + ", " + days + ")", s.maker,
                        first(s.hasRuin(ruin), isWithin(days, 1, 60), true), x -> x.viewIn(ruin, days));
                }
            }
        }
    }

    private static void purseIn() {
        for (State s : STATES) {
            for (int days : DAYS) {
                thrown(s.name + ": purseIn(" + days + ")", s.maker,
                    first(true, isWithin(days, 1, 60), true), x -> x.purseIn(days));
            }
        }
    }

    private static void ruinAt() {
        for (State s : STATES) {
            for (int rank : NUMBERS) {
                thrown(s.name + ": ruinAt(" + rank + ")", s.maker,
                    first(isWithin(rank, 0, s.standing - 1), true, true), x -> x.ruinAt(rank));
            }
        }
    }

    private static void questionsForTickets() {
        for (State s : STATES) {
            for (int ticket : NUMBERS) {
                String want = first(isWithin(ticket, 0, s.tickets - 1), true, true);
                String of = "(" + ticket + ")";
                thrown(s.name + ": dayOf" + of, s.maker, want, x -> x.dayOf(ticket));
                thrown(s.name + ": isOpen" + of, s.maker, want, x -> x.isOpen(ticket));
                thrown(s.name + ": isPaidBack" + of, s.maker, want, x -> x.isPaidBack(ticket));
            }
        }
    }

    /** Where no ruin has that number, neither coins nor their lack matter. */
    private static void propNeedsARuin() {
        for (State s : STATES) {
            for (int ruin : NUMBERS) {
                if (!s.hasRuin(ruin)) {
                    thrown(s.name + ": prop(" + ruin + ")", s.maker, INDEX, x -> x.prop(ruin));
                }
            }
        }
    }

    /** Two ruins, of so many walls each, and as many coins. */
    private static RuinViews propped(int walls, int ivy, int coins) {
        RuinViews x = withRuin(walls, ivy, 1, 9);
        x.addRuin(walls, 0, 1, 9);
        x.setGuests(0);
        for (int left = coins; left > 0; left -= 9) {
            x.setPrice(1, left < 9 ? left : 9);
            x.sellTicket(1, 30);
        }
        return x;
    }

    private static void propNeedsWalls() {
        thrown("prop of a ruin with 1 wall", () -> propped(1, 12, 50), NOTHING, x -> x.prop(0));
        Maker fallen = () -> {
            RuinViews x = propped(1, 12, 50);
            x.pass(1);
            return x;
        };
        thrown("prop of a ruin with no walls", fallen, STATE, x -> x.prop(0));
        thrown("prop of the one beside it", fallen, NOTHING, x -> x.prop(1));
    }

    private static void propNeedsRoom() {
        thrown("prop of a ruin with 19 walls", () -> propped(19, 0, 50), NOTHING, x -> x.prop(0));
        thrown("prop of a ruin with 20 walls", () -> propped(20, 0, 50), STATE, x -> x.prop(0));
        thrown("prop of 20 walls without coins", () -> propped(20, 0, 0), STATE, x -> x.prop(0));
    }

    private static void propNeedsCoins() {
        for (int coins = 0; coins <= 10; coins++) {
            int purse = coins;
            thrown("prop for " + coins + " coins", () -> propped(7, 0, purse), first(true, true, coins >= 5),
                x -> x.prop(0));
        }
        Maker debt = () -> {
            RuinViews x = withRuin(1, 12, 0, 9);
            x.addRuin(7, 0, 0, 0);
            x.setGuests(0);
            x.sellTicket(0, 1);
            x.prop(1);
            x.pass(2);
            return x;
        };
        due("the debt", debt.make().purse(), -5);
        thrown("prop for a debt of 5", debt, STATE, x -> x.prop(1));
    }
}
