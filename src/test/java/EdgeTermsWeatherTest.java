/** "Terms", weather and movement, sentence by sentence. */
public final class EdgeTermsWeatherTest {
    private static final int OAK = DovetailRow.OAK;
    private static final int[] MOVES = {2, 3, 4, 5};

    public static void main(String[] args) {
        Sentence.holds("Months are numbered from 0, to 1200", EdgeTermsWeatherTest::months);
        Sentence.holds("the one that goes by next has the number that is asked for", EdgeTermsWeatherTest::next);
        Sentence.holds("The weather has a moisture for each remainder of a month by 12",
                EdgeTermsWeatherTest::remainders);
        Sentence.holds("100 at first", EdgeTermsWeatherTest::atFirst);
        Sentence.holds("what is wood becomes more or less moist by the difference to that of the month, divided by 4 "
                + "and the coats that it has, together", EdgeTermsWeatherTest::difference);
        Sentence.holds("by 1 at least, if there is a difference", EdgeTermsWeatherTest::byOneAtLeast);
        Sentence.holds("if there is a difference: none", EdgeTermsWeatherTest::noDifference);
        Sentence.holds("What is so wide moves by its width, times what its species moves (PINE 2, CHERRY 3, MAPLE 4, "
                + "OAK 5), times what it is moister now", EdgeTermsWeatherTest::movement);
        Sentence.holds("than when it was measured", EdgeTermsWeatherTest::measured);
        Sentence.holds("divided by 10000", EdgeTermsWeatherTest::dividedBy10000);
        Sentence.end();
    }

    private static void months() {
        DovetailRow shop = Shops.at(0);
        Check.due("at first", shop.month(), 0);
        for (int month = 0; month < 1200; month += 24) {
            Check.due("the month", shop.month(), month);
            shop.pass(24);
        }
        Check.due("the last", shop.month(), 1200);
        Check.refusedNow("none behind it", Check.STATE, shop, s -> s.pass(1));
        Check.due("the last still", shop.month(), 1200);
    }

    // Only the month that is asked for is damp: it is the one that goes by.
    private static void next() {
        for (int month = 0; month < 1200; month += 299) {
            DovetailRow shop = Shops.at(month);
            shop.weather(shop.month() % 12, 180);
            Check.due("before it goes by", shop.ofBoard(0, 0), 100);
            shop.pass(1);
            Check.due("as it has gone by", shop.ofBoard(0, 0), 120);
            Check.due("the next one", shop.month(), month + 1);
        }
    }

    private static DovetailRow damp(int remainder, int month) {
        DovetailRow shop = Shops.at(month);
        shop.weather(remainder, 180);
        return shop;
    }

    // Month 0, 12, 24 .. and 1188 have the remainder 0; 11, 23 .. and 1199 have 11.
    private static void remainders() {
        int[] years = {0, 1, 2, 50, 98, 99};
        for (int year : years) {
            for (int remainder = 0; remainder < 12; remainder++) {
                int month = 12 * year + remainder;
                int inMonth = remainder;
                int before = (remainder + 11) % 12;
                int behind = (remainder + 1) % 12;
                DovetailRow shop = damp(inMonth, month);
                shop.pass(1);
                Check.due("month " + month, shop.ofBoard(0, 0), 120);
                DovetailRow earlier = damp(before, month);
                earlier.pass(1);
                Check.due("month " + month + " by the one before", earlier.ofBoard(0, 0), 100);
                DovetailRow later = damp(behind, month);
                later.pass(1);
                Check.due("month " + month + " by the one behind", later.ofBoard(0, 0), 100);
            }
        }
    }

    private static void atFirst() {
        for (int month = 0; month < 12; month++) {
            int inMonth = month;
            Check.answers("month " + month, 100, Shops::empty, s -> s.weather(inMonth, 40));
        }
        DovetailRow shop = new DovetailRow();
        shop.board(OAK, 0, 0, 1000, 1000, 100);
        for (int month = 0; month < 24; month++) {
            shop.pass(1);
            Check.due("as moist as the air", shop.ofBoard(0, 0), 100);
        }
    }

    /** How moist a part with coats is, a month after it was 170. */
    private static int after(int coats, int air) {
        DovetailRow shop = Shops.in(air);
        shop.board(OAK, 0, 0, 1000, 1000, 170);
        shop.cut(0, 0, 100, 100, false);
        for (int i = 0; i < coats; i++) {
            shop.coat(0);
        }
        shop.pass(1);
        return shop.ofPart(0, 2);
    }

    // A change of 2 begins at a difference of twice what it is divided by: 8 without coats, 20 with all 6.
    private static void difference() {
        for (int coats = 0; coats <= 6; coats++) {
            int twice = 2 * (4 + coats);
            Check.due(coats + " coats, moister by less", after(coats, 170 + twice - 1), 171);
            Check.due(coats + " coats, moister by 2", after(coats, 170 + twice), 172);
            Check.due(coats + " coats, drier by less", after(coats, 170 - twice + 1), 169);
            Check.due(coats + " coats, drier by 2", after(coats, 170 - twice), 168);
        }
        int[] most = {202, 196, 191, 188, 186, 184, 183};
        int[] least = {138, 144, 149, 152, 154, 156, 157};
        for (int coats = 0; coats <= 6; coats++) {
            Check.due(coats + " coats, the most", after(coats, 300), most[coats]);
            Check.due(coats + " coats, the least", after(coats, 40), least[coats]);
        }
    }

    private static void byOneAtLeast() {
        for (int coats = 0; coats <= 6; coats++) {
            for (int apart = 1; apart <= 4 + coats; apart++) {
                Check.due(coats + " coats, " + apart + " moister", after(coats, 170 + apart), 171);
                Check.due(coats + " coats, " + apart + " drier", after(coats, 170 - apart), 169);
            }
        }
    }

    private static void noDifference() {
        for (int coats = 0; coats <= 6; coats++) {
            Check.due(coats + " coats", after(coats, 170), 170);
        }
        for (int air = 40; air <= 300; air += 260) {
            DovetailRow shop = Shops.in(air);
            shop.board(OAK, 0, 0, 1000, 1000, air);
            shop.pass(24);
            Check.due("at the end of the weather", shop.ofBoard(0, 0), air);
        }
    }

    /** How wide a board is, when it is moister by so much than when it came, at 170. */
    private static int width(int species, int width, int moister) {
        DovetailRow shop = Shops.in(170 + moister);
        shop.board(species, 0, 0, width, 1000, 170);
        shop.pass(24);
        shop.pass(24);
        Check.due("how moist", shop.ofBoard(0, 0), 170 + moister);
        return shop.ofBoard(0, 1);
    }

    // 6000 by 130: 6000 * 130 / 10000 is 78, times 2 to 5
    private static void movement() {
        for (int species = 0; species <= 3; species++) {
            int most = 78 * MOVES[species];
            Check.due("the most wider", width(species, 6000, 130), 6000 + most);
            Check.due("the most less wide", width(species, 6000, -130), 6000 - most);
            Check.due("no moister", width(species, 6000, 0), 6000);
        }
        Check.due("the narrowest", width(OAK, 100, 130), 106);
        Check.due("the narrowest, drier", width(OAK, 100, -130), 94);
    }

    // A part is measured as it is cut: from then on it moves by what is moister since.
    private static void measured() {
        DovetailRow shop = Shops.in(180);
        shop.board(OAK, 0, 0, 2000, 9000, 100);
        shop.pass(24);
        Check.due("the board", shop.ofBoard(0, 1), 2080);
        shop.cut(0, 0, 1000, 2080, false);
        Check.due("the part as it is cut", shop.ofPart(0, 1), 2080);
        shop.pass(1);
        Check.due("the part, no moister", shop.ofPart(0, 1), 2080);
        Shops.setAir(shop, 100);
        shop.pass(1);
        // by 20 less: 2080 * 5 * 20 / 10000 = 20, and the board by 60 more than when it came
        Check.due("the part then", shop.ofPart(0, 1), 2060);
        Check.due("the board then", shop.ofBoard(0, 1), 2060);
        shop.pass(24);
        Check.due("the board, as it came", shop.ofBoard(0, 1), 2000);
        // 2080 * 5 * 80 / 10000 = 83
        Check.due("the part at last", shop.ofPart(0, 1), 1997);
    }

    // The least width that moves by 1 when it is moister or drier by 1, and the one below it.
    private static void dividedBy10000() {
        int[] least = {5000, 3334, 2500, 2000};
        for (int species = 0; species <= 3; species++) {
            Check.due("wider by 1", width(species, least[species], 1), least[species] + 1);
            Check.due("less wide by 1", width(species, least[species], -1), least[species] - 1);
            Check.due("not wider", width(species, least[species] - 1, 1), least[species] - 1);
            Check.due("not less wide", width(species, least[species] - 1, -1), least[species] - 1);
        }
    }
}
