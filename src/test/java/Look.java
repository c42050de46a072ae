/** All that one can ask of an oasis, as a text. */
final class Look {
    private static final int OWNERS_EVER = 8;
    private static final int LOANS = 10;
    private static final int SALES = 11;

    private Look() {
    }

    static String text(int... numbers) {
        StringBuilder text = new StringBuilder();
        for (int number : numbers) {
            text.append(number).append(' ');
        }
        return text.toString();
    }

    /** It asks some 240 times at most, so two looks are well below 512 calls. */
    static String at(OasisBooks x) {
        StringBuilder text = new StringBuilder("many ");
        text.append(many(x));
        for (int owner = 0; owner < x.many(OWNERS_EVER); owner++) {
            text.append("owner ").append(owner).append(": ").append(owner(x, owner));
        }
        text.append("bowls ");
        for (int bowl = 0; bowl < 5040; bowl += 720) {
            text.append(text(x.ofBowl(bowl, 0), x.ofBowl(bowl, 1)));
        }
        text.append("loans ").append(loans(x)).append("sales ").append(sales(x));
        return text.append(x.meanMoist()).append(' ').append(x.digest()).toString();
    }

    static String many(OasisBooks x) {
        int[] numbers = new int[16];
        for (int what = 0; what < numbers.length; what++) {
            numbers[what] = x.many(what);
        }
        return text(numbers);
    }

    static String owner(OasisBooks x, int owner) {
        int[] numbers = new int[14];
        try {
            for (int what = 0; what < numbers.length; what++) {
                numbers[what] = x.of(owner, what);
            }
        } catch (IndexOutOfBoundsException e) {
            return "dead ";
        }
        return text(numbers);
    }

    static String loans(OasisBooks x) {
        StringBuilder text = new StringBuilder();
        for (int loan = 0; loan < x.many(LOANS); loan++) {
            text.append(text(x.ofLoan(loan, 0), x.ofLoan(loan, 1), x.ofLoan(loan, 2), x.ofLoan(loan, 3)));
        }
        return text.toString();
    }

    static String sales(OasisBooks x) {
        StringBuilder text = new StringBuilder();
        for (int sale = 0; sale < x.many(SALES); sale++) {
            text.append(text(x.ofSale(sale, 0), x.ofSale(sale, 1), x.ofSale(sale, 2)));
        }
        return text.toString();
    }
}
