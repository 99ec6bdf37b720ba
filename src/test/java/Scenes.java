/** Objects in the states that the boundary tests begin with. */
final class Scenes {
    private Scenes() {
    }

    /** One document in each list: 10, 11, 12 and 13. */
    static MonotonePostings oneEach() {
        MonotonePostings x = new MonotonePostings();
        for (int list = 0; list < 4; list++) {
            x.append(list, 10 + list);
        }
        return x;
    }

    /** Each list has four partitions: runs of 15 documents from 0, 100, 200 and 300 on. */
    static MonotonePostings fourRuns() {
        MonotonePostings x = new MonotonePostings();
        for (int list = 0; list < 4; list++) {
            for (int k = 0; k < 4; k++) {
                x.appendRange(list, 100 * k, 1, 15);
            }
        }
        return x;
    }

    /** A run in list 0, a bitmap in list 1, an Elias-Fano partition in list 2, and an empty list. */
    static MonotonePostings threeKinds() {
        MonotonePostings x = new MonotonePostings();
        x.appendRange(0, 0, 1, 20);
        x.appendRange(1, 3, 3, 30);
        x.appendRange(2, 100, 37, 6);
        return x;
    }

    /** Lists 0 and 1 are full, list 1 up to document 511; list 2 has room for one; 3 is empty. */
    static MonotonePostings full() {
        MonotonePostings x = new MonotonePostings();
        x.appendRange(0, 0, 2, 64);
        x.appendRange(1, 448, 1, 64);
        x.appendRange(2, 0, 1, 63);
        return x;
    }

    /** Ten runs of six documents each in list 1 and in list 2, from 0, 50, 100 .. 450 on. */
    static MonotonePostings tenRuns() {
        MonotonePostings x = new MonotonePostings();
        for (int k = 0; k < 10; k++) {
            x.appendRange(1, 50 * k, 1, 6);
            x.appendRange(2, 50 * k, 1, 6);
        }
        return x;
    }

    /** The same object without saved states: four calls without a change push them out. */
    static MonotonePostings withoutSaved(MonotonePostings x) {
        int capacity = x.setCapacity(0);
        x.undo();
        for (int i = 0; i < 4; i++) {
            x.setCapacity(capacity);
        }
        for (int i = 0; i < 4; i++) {
            x.undo();
        }
        return x;
    }
}
