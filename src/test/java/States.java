/** Objects that tests begin with: each way of making one makes the same calls each time. */
final class States {
    interface Maker {
        CrossRounds make();
    }

    private States() {
    }

    static CrossRounds fresh() {
        return new CrossRounds();
    }

    static CrossRounds withNets(int nets) {
        CrossRounds x = new CrossRounds();
        for (int i = 0; i < nets; i++) {
            x.net(0, 10, 1000);
        }
        return x;
    }

    /** Seven nets of every kind; after the run, the last net came and a share became another one. */
    static CrossRounds some() {
        CrossRounds x = new CrossRounds();
        x.net(0, 100, 1000);
        x.net(50, 150, 2000);
        x.net(140, 200, 500);
        x.net(1000, 1200, 3000);
        x.net(0, 0, 0);
        x.net(10, 30, 700);
        x.couple(0, 1, 300);
        x.couple(0, 2, 200);
        x.couple(1, 2, 100);
        x.couple(2, 3, 50);
        x.couple(0, 5, 900);
        x.couple(1, 5, 20);
        x.exclude(0, 5);
        x.exclude(3, 4);
        x.stage(0, 3, 100);
        x.stage(1, 3, 50);
        x.stage(2, 4, 10);
        x.stage(3, 4, 20);
        x.row(100, 7);
        x.row(300, 40);
        x.row(500, 11);
        x.keep(2);
        x.run(3, false);
        x.net(5, 6, 7);
        x.couple(6, 0, 44);
        x.couple(0, 1, 310);
        x.row(600, 50);
        return x;
    }

    /** As many nets, couples, stages and rows as there can be: 264 calls. */
    static CrossRounds full() {
        CrossRounds x = new CrossRounds();
        for (int i = 0; i < 40; i++) {
            x.net(10 * i, 10 * i + 500, 100 * i);
        }
        for (int i = 0; i < 40; i++) {
            for (int apart = 1; apart <= 3; apart++) {
                x.couple(i, (i + apart) % 40, 20 * i + apart);
            }
        }
        for (int i = 0; i < 39; i++) {
            x.stage(i, i + 1, 7 * i);
        }
        for (int i = 0; i < 38; i++) {
            x.stage(i, i + 2, 9 * i);
        }
        for (int i = 0; i < 3; i++) {
            x.stage(i, i + 3, 100000);
        }
        for (int i = 0; i < 20; i++) {
            x.row(100 * i, 37 * i);
        }
        x.exclude(0, 1);
        x.exclude(20, 30);
        x.keep(8);
        x.run(5, true);
        return x;
    }

    static CrossRounds cleared() {
        CrossRounds x = some();
        x.clear();
        return x;
    }

    /**
     * From the widest, one couple after another comes apart, each by what the one before took away:
     * that many rounds in which two nets change, and one more. The nets stand 101 apart and lead
     * only as far as 100 for each couple that holds; groups of nets that are all coupled with one
     * another hang on to one another by their ends.
     */
    static CrossRounds unravelling(int... groups) {
        CrossRounds x = new CrossRounds();
        x.keep(8);
        int first = 0;
        for (int size : groups) {
            for (int i = first; i < first + size; i++) {
                x.net(101 * i, 101 * i, 1000);
                for (int earlier = first; earlier < i; earlier++) {
                    x.couple(earlier, i, 100);
                }
            }
            if (first > 0) {
                x.couple(first - 1, first, 100);
            }
            first += size;
        }
        return x;
    }
}
