import java.util.ArrayList;
import java.util.List;

/**
 * The document once more, in its plainest form: BOWL by BOWL, OWNER by OWNER.
 * It is slow, and shares nothing with OasisBooks but the document.
 */
final class PlainOasis {
    static final class Man {
        int number;
        int bowls;
        int coins;
        int palms;
        int males;
        int moist = 50;
        int salt;
        int dates;
        int pollinated;
        int bought;
        int sold;
        int today;
        int ever;
        int reaped;

        Man copy() {
            Man m = new Man();
            m.number = number;
            m.bowls = bowls;
            m.coins = coins;
            m.palms = palms;
            m.males = males;
            m.moist = moist;
            m.salt = salt;
            m.dates = dates;
            m.pollinated = pollinated;
            m.bought = bought;
            m.sold = sold;
            m.today = today;
            m.ever = ever;
            m.reaped = reaped;
            return m;
        }

        int pollen() {
            return 20 * males + bought - sold;
        }
    }

    int day;
    int table = 200;
    int length = 40;
    int mud;
    int draw;
    int ever;
    int letOut;
    int lost;
    int harvested;
    List<Man> row = new ArrayList<>();
    List<int[]> loans = new ArrayList<>();
    List<int[]> sales = new ArrayList<>();

    PlainOasis copy() {
        PlainOasis p = new PlainOasis();
        p.day = day;
        p.table = table;
        p.length = length;
        p.mud = mud;
        p.draw = draw;
        p.ever = ever;
        p.letOut = letOut;
        p.lost = lost;
        p.harvested = harvested;
        for (Man m : row) {
            p.row.add(m.copy());
        }
        for (int[] loan : loans) {
            p.loans.add(loan.clone());
        }
        for (int[] sale : sales) {
            p.sales.add(sale.clone());
        }
        return p;
    }

    Man man(int number) {
        for (Man m : row) {
            if (m.number == number) {
                return m;
            }
        }
        throw new IndexOutOfBoundsException();
    }

    static void argument(int value, int least, int most) {
        if (value < least || value > most) {
            throw new IllegalArgumentException();
        }
    }

    static void state(boolean good) {
        if (!good) {
            throw new IllegalStateException();
        }
    }

    static void differ(int one, int other) {
        if (one == other) {
            throw new IllegalArgumentException();
        }
    }

    int owned() {
        return row.stream().mapToInt(m -> m.bowls).sum();
    }

    /** For each BOWL of the CYCLE its OWNER in [0], its USER in [1]. */
    int[][] bowls() {
        int[][] all = new int[2][5040];
        java.util.Arrays.fill(all[0], -1);
        java.util.Arrays.fill(all[1], -1);
        int next = 0;
        for (Man m : row) {
            for (int i = 0; i < m.bowls; i++) {
                all[0][next] = m.number;
                all[1][next] = m.number;
                next++;
            }
            int last = next - 1;
            for (int[] loan : loans) {
                if (loan[0] == m.number) {
                    for (int i = 0; i < loan[2]; i++) {
                        all[1][last] = loan[1];
                        last--;
                    }
                }
            }
        }
        return all;
    }

    int unlent(Man m) {
        return m.bowls - loans.stream().filter(l -> l[0] == m.number).mapToInt(l -> l[2]).sum();
    }

    int flow() {
        int sum = table + length - 120 - 2 * mud;
        return sum < 0 ? 0 : sum / 10;
    }

    int owner(int bowls, int coins, int palms, int males) {
        argument(bowls, 0, 5040);
        argument(coins, 0, 9999);
        argument(palms, 0, 200);
        argument(males, 0, 20);
        state(ever < 10 && owned() + bowls <= 5040);
        Man m = new Man();
        m.number = ever++;
        m.bowls = bowls;
        m.coins = coins;
        m.palms = palms;
        m.males = males;
        row.add(m);
        return m.number;
    }

    int sell(int from, int to, int bowls, int coins) {
        Man seller = man(from);
        Man buyer = man(to);
        differ(from, to);
        argument(bowls, 1, 5040);
        argument(coins, 0, 9999);
        if (unlent(seller) < bowls) {
            return -2;
        }
        if (buyer.coins < coins) {
            return -3;
        }
        seller.bowls -= bowls;
        seller.coins += coins;
        buyer.coins -= coins;
        return buyer.bowls += bowls;
    }

    int lend(int from, int to, int bowls, int cycles) {
        Man lender = man(from);
        man(to);
        differ(from, to);
        argument(bowls, 1, 5040);
        argument(cycles, 1, 20);
        state(loans.size() < 8);
        if (unlent(lender) < bowls) {
            return -2;
        }
        loans.add(new int[] {from, to, bowls, cycles});
        return loans.size();
    }

    int die(int owner, int sons, int daughters) {
        Man dead = man(owner);
        argument(sons, 0, Integer.MAX_VALUE);
        argument(daughters, 0, Integer.MAX_VALUE);
        argument(Math.max(Math.max(sons, daughters), sons + daughters), 1, 4);
        state(ever + sons + daughters <= 10);
        int first = ever;
        int place = row.indexOf(dead);
        row.remove(place);
        for (int i = 0; i < sons + daughters; i++) {
            Man heir = new Man();
            heir.number = ever++;
            heir.moist = dead.moist;
            heir.salt = dead.salt;
            row.add(place + i, heir);
        }
        int heirs = sons + daughters;
        int[] goods = {dead.bowls, dead.coins, dead.palms, dead.males, dead.dates};
        int[][] parts = new int[5][heirs];
        for (int g = 0; g < 5; g++) {
            int left = goods[g];
            for (int i = 0; i < heirs; i++) {
                double exact = (double) goods[g] * (i < sons ? 2 : 1) / (2 * sons + daughters);
                parts[g][i] = (int) Math.floor(exact);
                left -= parts[g][i];
            }
            for (int i = 0; left > 0; i++, left--) {
                parts[g][i]++;
            }
        }
        for (int i = 0; i < heirs; i++) {
            Man heir = row.get(place + i);
            heir.bowls = parts[0][i];
            heir.coins = parts[1][i];
            heir.palms = parts[2][i];
            heir.males = parts[3][i];
            heir.dates = parts[4][i];
        }
        loans.removeIf(l -> l[0] == owner || l[1] == owner);
        for (int[] sale : sales) {
            for (int side = 0; side < 2; side++) {
                if (sale[side] == owner) {
                    sale[side] = first;
                }
            }
        }
        return first;
    }

    private void pay(int cost) {
        int all = owned();
        int paid = 0;
        for (Man m : row) {
            m.coins -= cost * m.bowls / all;
            paid += cost * m.bowls / all;
        }
        row.get(0).coins -= cost - paid;
    }

    int dig(int more) {
        argument(more, 1, 80);
        state(length + more <= 90 && owned() > 0);
        int cost = more * (5 + length / 10);
        pay(cost);
        length += more;
        return cost;
    }

    int clean(int less) {
        argument(less, 1, 30);
        state(mud >= less && owned() > 0);
        pay(3 * less);
        mud -= less;
        return 3 * less;
    }

    int fall(int more) {
        argument(more, 1, 30);
        mud = mud + more > 30 ? 30 : mud + more;
        return mud;
    }

    int pump(int takes) {
        argument(takes, 0, 20);
        int before = draw;
        draw = takes;
        return before;
    }

    int pollinate(int owner, int palms) {
        Man m = man(owner);
        argument(palms, 1, 200);
        if (day % 70 > 13) {
            return -2;
        }
        if (m.pollinated + palms > m.palms) {
            return -3;
        }
        if (m.pollinated + palms > m.pollen()) {
            return -4;
        }
        return m.pollinated += palms;
    }

    int pollen(int from, int to, int palms) {
        Man seller = man(from);
        Man buyer = man(to);
        differ(from, to);
        argument(palms, 1, 200);
        if (buyer.coins < palms) {
            return -3;
        }
        if (seller.pollen() - seller.pollinated < palms) {
            return -4;
        }
        buyer.coins -= palms;
        seller.coins += palms;
        buyer.bought += palms;
        seller.sold += palms;
        return buyer.pollen();
    }

    int ahead(int from, int to, int kilos, int coins) {
        Man seller = man(from);
        Man buyer = man(to);
        differ(from, to);
        argument(kilos, 1, 999);
        argument(coins, 0, 9999);
        state(sales.size() < 8);
        if (buyer.coins < coins) {
            return -3;
        }
        buyer.coins -= coins;
        seller.coins += coins;
        sales.add(new int[] {from, to, kilos});
        return sales.size();
    }

    int pass(int rain, int days) {
        argument(rain, 0, 99);
        argument(days, 1, 70);
        state(day + days <= 2000);
        return go(rain, days);
    }

    int go(int rain, int days) {
        int came = 0;
        for (int i = 0; i < days; i++) {
            came += goOne(rain);
        }
        return came;
    }

    private int goOne(int rain) {
        day++;
        int date = day % 70;
        table += rain / 3 - flow() - draw;
        table = table < 0 ? 0 : table > 400 ? 400 : table;
        if (date % 10 == 0 && mud < 30) {
            mud++;
        }
        int flow = flow();
        int[] users = bowls()[1];
        for (Man m : row) {
            m.today = 0;
        }
        for (int bowl = day % 7 * 720; bowl < day % 7 * 720 + 720; bowl++) {
            if (users[bowl] < 0) {
                letOut += flow;
            } else {
                man(users[bowl]).today += flow;
            }
        }
        int came = 0;
        for (int place = 0; place < row.size(); place++) {
            Man m = row.get(place);
            int all = m.today;
            m.today = all * (100 - 2 * place) / 100;
            lost += all - m.today;
            m.ever += m.today;
            came += m.today;
        }
        for (Man m : row) {
            if (m.palms > 0) {
                grow(m, date);
            }
        }
        if (date == 60) {
            harvest();
        }
        if (day % 7 == 0) {
            for (int[] loan : loans) {
                loan[3]--;
            }
            loans.removeIf(l -> l[3] == 0);
        }
        return came;
    }

    private static void grow(Man m, int date) {
        int need = m.palms * 20;
        int more = m.today * 30 / need;
        m.moist += more > 40 ? 40 : more;
        m.moist = m.moist > 99 ? 99 : m.moist;
        m.moist = m.moist < 6 ? 0 : m.moist - 6;
        if (m.today > 2 * need && m.salt < 99) {
            m.salt++;
        }
        if (date % 10 == 0 && m.moist < 15) {
            m.palms -= m.palms / 10 + 1;
            if (m.pollinated > m.palms) {
                m.pollinated = m.palms;
            }
        }
    }

    private void harvest() {
        for (Man m : row) {
            m.reaped = m.pollinated * m.moist * (100 - m.salt) / 1000;
            m.dates += m.reaped;
            harvested += m.reaped;
            m.pollinated = 0;
            m.bought = 0;
            m.sold = 0;
        }
        for (int[] sale : sales) {
            for (int kilo = 0; kilo < sale[2]; kilo++) {
                if (man(sale[0]).dates > 0) {
                    man(sale[0]).dates--;
                    man(sale[1]).dates++;
                } else {
                    man(sale[0]).coins -= 2;
                    man(sale[1]).coins += 2;
                }
            }
        }
        sales.clear();
    }

    int of(int owner, int what) {
        Man m = man(owner);
        argument(what, 0, 13);
        int[][] all = bowls();
        int first = -1;
        int used = 0;
        for (int bowl = 5039; bowl >= 0; bowl--) {
            first = all[0][bowl] == owner ? bowl : first;
            used += all[1][bowl] == owner ? 1 : 0;
        }
        int[] answers = {m.bowls, m.coins, m.palms, m.males, m.moist, m.salt, m.dates, row.indexOf(m), first,
            used, m.pollinated, m.pollen(), m.today, m.ever};
        return answers[what];
    }

    int ofBowl(int bowl, int what) {
        if (bowl < 0 || bowl > 5039) {
            throw new IndexOutOfBoundsException();
        }
        argument(what, 0, 1);
        return bowls()[what][bowl];
    }

    private static int ofDeal(List<int[]> deals, int deal, int what, int most) {
        if (deal < 0 || deal >= deals.size()) {
            throw new IndexOutOfBoundsException();
        }
        argument(what, 0, most);
        return deals.get(deal)[what];
    }

    int ofLoan(int loan, int what) {
        return ofDeal(loans, loan, what, 3);
    }

    int ofSale(int sale, int what) {
        return ofDeal(sales, sale, what, 2);
    }

    int many(int what) {
        argument(what, 0, 15);
        int[] answers = {day, day % 70, table, flow(), length, mud, draw, row.size(), ever, 5040 - owned(),
            loans.size(), sales.size(), letOut, lost, harvested, row.stream().mapToInt(m -> m.coins).sum()};
        return answers[what];
    }

    double meanMoist() {
        return row.stream().mapToInt(m -> m.moist).average().orElse(0);
    }

    int wouldCome(int owner, int rain, int days) {
        Man m = man(owner);
        argument(rain, 0, 99);
        argument(days, 1, 70);
        PlainOasis p = copy();
        p.go(rain, days);
        return p.man(owner).ever - m.ever;
    }

    int bestDig(int rain, int days) {
        argument(rain, 0, 99);
        argument(days, 1, 35);
        int best = 0;
        int most = copy().go(rain, days);
        for (int more = 1; more <= 20 && length + more <= 90; more++) {
            PlainOasis p = copy();
            p.length += more;
            int came = p.go(rain, days);
            if (came > most) {
                best = more;
                most = came;
            }
        }
        return best;
    }

    int pumpTakes(int takes, int rain, int days) {
        argument(takes, 0, 20);
        argument(rain, 0, 99);
        argument(days, 1, 70);
        PlainOasis p = copy();
        p.draw = takes;
        return copy().go(rain, days) - p.go(rain, days);
    }

    int wouldReap(int owner, int rain) {
        man(owner);
        argument(rain, 0, 99);
        PlainOasis p = copy();
        p.goOne(rain);
        while (p.day % 70 != 60) {
            p.goOne(rain);
        }
        return p.man(owner).reaped;
    }

    long digest() {
        List<Integer> all = new ArrayList<>();
        for (int what = 0; what <= 15; what++) {
            all.add(many(what));
        }
        for (int number = 0; number < ever; number++) {
            int owner = number;
            if (row.stream().anyMatch(m -> m.number == owner)) {
                for (int what = 0; what <= 13; what++) {
                    all.add(of(owner, what));
                }
                all.add(wouldCome(owner, 0, 7));
                all.add(wouldReap(owner, 3));
            }
        }
        for (int bowl : new int[] {0, 720, 1440, 2160, 2880, 3600, 4320}) {
            all.add(ofBowl(bowl, 0));
            all.add(ofBowl(bowl, 1));
        }
        for (int[] loan : loans) {
            all.addAll(List.of(loan[0], loan[1], loan[2], loan[3]));
        }
        for (int[] sale : sales) {
            all.addAll(List.of(sale[0], sale[1], sale[2]));
        }
        all.add(bestDig(0, 3));
        all.add(pumpTakes(5, 0, 9));
        long d = 7803;
        for (int v : all) {
            d = d * 31 + v;
        }
        return d;
    }
}
