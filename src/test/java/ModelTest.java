import java.util.ArrayList;
import java.util.Comparator;
import java.util.List;

/**
 * Runs of as many calls as an object is made for, each compared with a second machine that follows the document word
 * by word.
 */
public final class ModelTest extends Checks {
    private static final int RUNS = 1500;
    private static final int CALLS = 512;

    private static long seed = 1;
    private static int calls = 0;

    public static void main(String[] args) {
        for (int run = 0; run < RUNS; run++) {
            seed = 7919L * run + 17;
            follow(run);
        }
        askOfEachRuin();
        end("both machines agree");
    }

    /** A number from 0 to bound - 1, the same in each run of this test. */
    private static int next(int bound) {
        seed = seed * 6364136223846793005L + 1442695040888963407L;
        return (int) ((seed >>> 33) % bound);
    }

    private interface Ask {
        Object of();
    }

    private static String answer(Ask ask) {
        try {
            return String.valueOf(ask.of());
        } catch (RuntimeException e) {
            return e.getClass().getSimpleName();
        }
    }

    private static void same(String what, Ask got, Ask want) {
        if (calls < CALLS) {
            calls++;
            due(what, answer(got), answer(want));
        }
    }

    private static void follow(int run) {
        RuinViews x = new RuinViews();
        Model m = new Model();
        calls = 0;
        int first = next(12);
        for (int i = 0; i < first; i++) {
            add(run, x, m);
        }
        while (calls < CALLS) {
            change(run, x, m);
            same(run + ", day " + m.day + ": digest()", () -> x.digest(), () -> m.digest());
            look(run, x, m);
            look(run, x, m);
        }
    }

    private static void add(int run, RuinViews x, Model m) {
        boolean bad = next(8) == 0;
        int walls = bad ? next(23) - 1 : next(3) == 0 ? 18 + next(3) : 1 + next(20);
        int ivy = bad ? next(15) - 1 : next(13);
        int ghosts = bad ? next(8) - 1 : next(6);
        int price = bad ? next(12) - 1 : next(10);
        same(run + ": addRuin(" + walls + ", " + ivy + ", " + ghosts + ", " + price + ")",
            () -> x.addRuin(walls, ivy, ghosts, price), () -> m.addRuin(walls, ivy, ghosts, price));
    }

    private static void change(int run, RuinViews x, Model m) {
        int ruin = next(m.ruins.size() + 2) - (next(6) == 0 ? 1 : 0);
        switch (next(10)) {
            case 0:
                add(run, x, m);
                break;
            case 1: {
                int ivy = next(15) - 1;
                same(run + ": cutIvy(" + ruin + ", " + ivy + ")", () -> x.cutIvy(ruin, ivy), () -> m.cutIvy(ruin, ivy));
                break;
            }
            case 2:
            case 3:
                same(run + ": prop(" + ruin + ")", () -> x.prop(ruin), () -> m.prop(ruin));
                break;
            case 4: {
                int price = next(12) - 1;
                same(run + ": setPrice(" + ruin + ", " + price + ")",
                    () -> x.setPrice(ruin, price), () -> m.setPrice(ruin, price));
                break;
            }
            case 5: {
                int guests = next(4) == 0 ? next(44) - 1 : next(6);
                same(run + ": setGuests(" + guests + ")", () -> x.setGuests(guests), () -> m.setGuests(guests));
                break;
            }
            case 6:
            case 7: {
                int days = next(5) == 0 ? next(35) - 2 : next(8);
                same(run + ": sellTicket(" + ruin + ", " + days + ")",
                    () -> x.sellTicket(ruin, days), () -> m.sellTicket(ruin, days));
                break;
            }
            default: {
                // In some runs days go by slowly, so that ruins stand till the end of their calls.
                int days = next(run % 2 == 0 ? 60 : 8) == 0 ? next(64) - 1 : 1 + next(run % 3 == 0 ? 1 : 4);
                same(run + ": pass(" + days + ")", () -> x.pass(days), () -> m.pass(days));
                break;
            }
        }
    }

    /** Every ruin that there can be, in each of the days of which moon and ivy make different ones. */
    private static void askOfEachRuin() {
        for (int day = 0; day < 24; day++) {
            for (int walls = 1; walls <= 20; walls++) {
                for (int ivy = 0; ivy <= 12; ivy++) {
                    askOfRuin(day, walls, ivy);
                }
            }
        }
    }

    private static void askOfRuin(int day, int walls, int ivy) {
        calls = 0;
        RuinViews x = onDay(day);
        Model m = new Model();
        m.day = day;
        for (int ghosts = 0; ghosts <= 5; ghosts++) {
            String at = "day " + day + ", " + walls + " walls, " + ivy + " ivy, " + ghosts + " ghosts: ";
            int ruin = m.addRuin(walls, ivy, ghosts, 0);
            x.addRuin(walls, ivy, ghosts, 0);
            int days = 1 + (day + walls + 7 * ivy + 13 * ghosts) % 60;
            same(at + "viewIn(" + days + ")", () -> x.viewIn(ruin, days), () -> m.viewIn(ruin, days));
            same(at + "daysUntilCollapse()", () -> x.daysUntilCollapse(ruin), () -> m.daysUntilCollapse(ruin));
            same(at + "daysUntilFirst()", () -> x.daysUntilFirst(ruin), () -> m.daysUntilFirst(ruin));
            same(at + "bestCut()", () -> x.bestCut(ruin), () -> m.bestCut(ruin));
        }
    }

    /** One question, or a few that go together. */
    private static void look(int run, RuinViews x, Model m) {
        String at = run + ", day " + m.day + ": ";
        switch (next(7)) {
            case 0:
                lookAtMachine(at, x, m);
                break;
            case 1:
                lookAtRuin(at, x, m, next(m.ruins.size() + 2) - 1);
                break;
            case 2:
                lookAtTicket(at, x, m, next(m.tickets.size() + 2) - 1);
                break;
            default:
                lookAhead(at, x, m, next(m.ruins.size() + 2) - 1, next(65) - 2);
                break;
        }
    }

    private static void lookAtMachine(String at, RuinViews x, Model m) {
        same(at + "day()", () -> x.day(), () -> m.day);
        same(at + "phase()", () -> x.phase(), () -> m.day % 8);
        same(at + "brightness()", () -> x.brightness(), () -> m.brightness());
        same(at + "daysUntilFullMoon()", () -> x.daysUntilFullMoon(), () -> m.daysUntilFullMoon());
        same(at + "ruins()", () -> x.ruins(), () -> m.ruins.size());
        same(at + "standing()", () -> x.standing(), () -> m.ranking().size());
        same(at + "purse()", () -> x.purse(), () -> m.purse);
        same(at + "tickets()", () -> x.tickets(), () -> m.tickets.size());
        same(at + "meanView()", () -> x.meanView(), () -> m.meanView());
    }

    private static void lookAtRuin(String at, RuinViews x, Model m, int i) {
        same(at + "wallsOf(" + i + ")", () -> x.wallsOf(i), () -> m.ruin(i).walls);
        same(at + "ivyOf(" + i + ")", () -> x.ivyOf(i), () -> m.ruin(i).ivy);
        same(at + "gradeOf(" + i + ")", () -> x.gradeOf(i), () -> m.ruin(i).grade());
        same(at + "ghostsOf(" + i + ")", () -> x.ghostsOf(i), () -> m.ruin(i).ghosts);
        same(at + "hasCollapsed(" + i + ")", () -> x.hasCollapsed(i), () -> m.ruin(i).collapsed());
        same(at + "viewOf(" + i + ")", () -> x.viewOf(i), () -> m.ruin(i).view(m.brightness()));
        same(at + "rankOf(" + i + ")", () -> x.rankOf(i), () -> m.ranking().indexOf(m.ruin(i)));
        same(at + "ruinAt(" + i + ")", () -> x.ruinAt(i), () -> m.ruinAt(i));
        same(at + "guestsOf(" + i + ")", () -> x.guestsOf(i), () -> m.guestsOf(m.ruin(i)));
    }

    private static void lookAtTicket(String at, RuinViews x, Model m, int i) {
        same(at + "dayOf(" + i + ")", () -> x.dayOf(i), () -> m.ticket(i).day);
        same(at + "isOpen(" + i + ")", () -> x.isOpen(i), () -> m.ticket(i).open);
        same(at + "isPaidBack(" + i + ")", () -> x.isPaidBack(i), () -> m.ticket(i).paidBack);
    }

    private static void lookAhead(String at, RuinViews x, Model m, int i, int days) {
        switch (next(5)) {
            case 0:
                same(at + "viewIn(" + i + ", " + days + ")", () -> x.viewIn(i, days), () -> m.viewIn(i, days));
                break;
            case 1:
                same(at + "daysUntilCollapse(" + i + ")", () -> x.daysUntilCollapse(i), () -> m.daysUntilCollapse(i));
                break;
            case 2:
                same(at + "daysUntilFirst(" + i + ")", () -> x.daysUntilFirst(i), () -> m.daysUntilFirst(i));
                break;
            case 3:
                same(at + "bestCut(" + i + ")", () -> x.bestCut(i), () -> m.bestCut(i));
                break;
            default:
                same(at + "purseIn(" + days + ")", () -> x.purseIn(days), () -> m.purseIn(days));
                break;
        }
    }

    private static final class Ruin {
        int number;
        int walls;
        int ivy;
        int ghosts;
        int price;

        boolean collapsed() {
            return walls == 0;
        }

        int grade() {
            return new int[] {0, 1, 1, 1, 2, 2, 2, 3, 3, 3, 1, 1, 1}[ivy];
        }

        int view(int brightness) {
            return collapsed() ? 0 : walls * 2 + grade() * 3 + ghosts * brightness;
        }

        Ruin copy() {
            Ruin r = new Ruin();
            r.number = number;
            r.walls = walls;
            r.ivy = ivy;
            r.ghosts = ghosts;
            r.price = price;
            return r;
        }
    }

    private static final class Ticket {
        int ruin;
        int day;
        int paid;
        boolean open = true;
        boolean paidBack = false;

        Ticket copy() {
            Ticket t = new Ticket();
            t.ruin = ruin;
            t.day = day;
            t.paid = paid;
            t.open = open;
            t.paidBack = paidBack;
            return t;
        }
    }

    private static final class Model {
        List<Ruin> ruins = new ArrayList<>();
        List<Ticket> tickets = new ArrayList<>();
        int day = 0;
        int guests = 12;
        int purse = 0;

        Model copy() {
            Model c = new Model();
            for (Ruin r : ruins) {
                c.ruins.add(r.copy());
            }
            for (Ticket t : tickets) {
                c.tickets.add(t.copy());
            }
            c.day = day;
            c.guests = guests;
            c.purse = purse;
            return c;
        }

        static void demand(boolean holds, String otherwise) {
            if (holds) {
                return;
            }
            switch (otherwise) {
                case INDEX:
                    throw new IndexOutOfBoundsException();
                case ARGUMENT:
                    throw new IllegalArgumentException();
                default:
                    throw new IllegalStateException();
            }
        }

        Ruin ruin(int i) {
            demand(i >= 0 && i < ruins.size(), INDEX);
            return ruins.get(i);
        }

        Ticket ticket(int i) {
            demand(i >= 0 && i < tickets.size(), INDEX);
            return tickets.get(i);
        }

        int brightness() {
            return new int[] {0, 1, 2, 3, 4, 3, 2, 1}[day % 8];
        }

        int daysUntilFullMoon() {
            int days = 0;
            while ((day + days) % 8 != 4) {
                days++;
            }
            return days;
        }

        List<Ruin> ranking() {
            List<Ruin> ranking = new ArrayList<>();
            for (Ruin r : ruins) {
                if (!r.collapsed()) {
                    ranking.add(r);
                }
            }
            int light = brightness();
            ranking.sort(Comparator.comparingInt((Ruin r) -> -r.view(light))
                .thenComparingInt(r -> r.price).thenComparingInt(r -> r.number));
            return ranking;
        }

        int ruinAt(int rank) {
            List<Ruin> ranking = ranking();
            demand(rank >= 0 && rank < ranking.size(), INDEX);
            return ranking.get(rank).number;
        }

        int guestsOf(Ruin ruin) {
            int left = guests;
            for (Ruin r : ranking()) {
                int come = left / 2 + left % 2;
                if (r == ruin) {
                    return come;
                }
                left -= come;
            }
            return 0;
        }

        int addRuin(int walls, int ivy, int ghosts, int price) {
            demand(walls >= 1 && walls <= 20 && ivy >= 0 && ivy <= 12, ARGUMENT);
            demand(ghosts >= 0 && ghosts <= 5 && price >= 0 && price <= 9, ARGUMENT);
            demand(ruins.size() < 10, STATE);
            Ruin r = new Ruin();
            r.number = ruins.size();
            r.walls = walls;
            r.ivy = ivy;
            r.ghosts = ghosts;
            r.price = price;
            ruins.add(r);
            return r.number;
        }

        int cutIvy(int ruin, int ivy) {
            Ruin r = ruin(ruin);
            demand(ivy >= 1 && ivy <= 12, ARGUMENT);
            r.ivy = ivy > r.ivy ? 0 : r.ivy - ivy;
            return r.ivy;
        }

        int prop(int ruin) {
            Ruin r = ruin(ruin);
            demand(!r.collapsed() && r.walls < 20 && purse >= 5, STATE);
            purse -= 5;
            return ++r.walls;
        }

        int setPrice(int ruin, int price) {
            Ruin r = ruin(ruin);
            demand(price >= 0 && price <= 9, ARGUMENT);
            int before = r.price;
            r.price = price;
            return before;
        }

        int setGuests(int next) {
            demand(next >= 0 && next <= 40, ARGUMENT);
            int before = guests;
            guests = next;
            return before;
        }

        int sellTicket(int ruin, int days) {
            Ruin r = ruin(ruin);
            demand(days >= 0 && days <= 30, ARGUMENT);
            demand(!r.collapsed() && tickets.size() < 30, STATE);
            Ticket t = new Ticket();
            t.ruin = ruin;
            t.day = day + days;
            t.paid = r.price;
            purse += r.price;
            tickets.add(t);
            return tickets.size() - 1;
        }

        int pass(int days) {
            demand(days >= 1 && days <= 60, ARGUMENT);
            int before = purse;
            for (int i = 0; i < days; i++) {
                passDay();
            }
            return purse - before;
        }

        void passDay() {
            for (Ruin r : ruins) {
                purse += guestsOf(r) * r.price;
            }
            for (Ticket t : tickets) {
                if (t.open && t.day == day) {
                    t.open = false;
                    if (ruins.get(t.ruin).collapsed()) {
                        t.paidBack = true;
                        purse -= t.paid;
                    }
                }
            }
            for (Ruin r : ruins) {
                if (!r.collapsed()) {
                    r.ivy = Math.min(12, r.ivy + (day % 3 == 2 ? 1 : 0));
                    r.walls -= r.ivy >= 10 ? 1 : 0;
                }
            }
            for (Ruin r : ruins) {
                if (brightness() == 4 && !r.collapsed() && r.grade() == 3) {
                    r.ghosts = Math.min(5, r.ghosts + 1);
                }
                if (brightness() == 0 && r.ghosts > 0 && (r.grade() == 0 || r.collapsed())) {
                    r.ghosts--;
                }
            }
            day++;
        }

        int viewIn(int ruin, int days) {
            ruin(ruin);
            demand(days >= 1 && days <= 60, ARGUMENT);
            Model c = copy();
            c.pass(days);
            return c.ruin(ruin).view(c.brightness());
        }

        int daysUntilCollapse(int ruin) {
            ruin(ruin);
            Model c = copy();
            for (int days = 0; days <= 100; days++) {
                if (c.ruin(ruin).collapsed()) {
                    return days;
                }
                c.passDay();
            }
            return -1;
        }

        int daysUntilFirst(int ruin) {
            ruin(ruin);
            Model c = copy();
            for (int days = 0; days <= 100; days++) {
                List<Ruin> ranking = c.ranking();
                if (!ranking.isEmpty() && ranking.get(0).number == ruin) {
                    return days;
                }
                c.passDay();
            }
            return -1;
        }

        int bestCut(int ruin) {
            ruin(ruin);
            int best = -1;
            int bestWorth = -1;
            for (int cut = 0; cut <= 12; cut++) {
                Model c = copy();
                if (cut > 0) {
                    c.cutIvy(ruin, cut);
                }
                c.pass(40);
                int worth = c.ruin(ruin).walls * 1000 + c.ruin(ruin).view(c.brightness());
                if (worth > bestWorth) {
                    best = cut;
                    bestWorth = worth;
                }
            }
            return best;
        }

        int purseIn(int days) {
            demand(days >= 1 && days <= 60, ARGUMENT);
            Model c = copy();
            c.pass(days);
            return c.purse;
        }

        double meanView() {
            int sum = 0;
            for (Ruin r : ruins) {
                sum += r.view(brightness());
            }
            int standing = ranking().size();
            return standing == 0 ? 0.0 : (double) sum / standing;
        }

        long digest() {
            List<Ruin> ranking = ranking();
            List<Integer> numbers = new ArrayList<>();
            numbers.addAll(List.of(day, brightness(), ruins.size(), ranking.size(), purse, tickets.size()));
            for (Ruin r : ruins) {
                numbers.addAll(List.of(r.walls, r.ivy, r.ghosts, r.price, r.view(brightness()),
                    ranking.indexOf(r), guestsOf(r)));
            }
            for (Ticket t : tickets) {
                numbers.addAll(List.of(t.day, t.open ? 1 : 0, t.paidBack ? 1 : 0));
            }
            long d = 2029;
            for (int x : numbers) {
                d = d * 31 + x;
            }
            return d;
        }
    }
}
