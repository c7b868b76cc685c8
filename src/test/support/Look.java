/** All that can be seen of an object, as one text, so that two looks can be held against each other. */
final class Look {
    private Look() {
    }

    /** What WORK changes, the steps refused and the works to undo left aside. */
    static String keeping(CryGorge x) {
        StringBuilder seen = new StringBuilder();
        for (int what : new int[] {2, 4, 5, 6, 7, 10}) {
            seen.append(" told").append(what).append('=').append(x.told(what));
        }
        int bays = x.told(0);
        int cries = x.told(1);
        for (int bay = 0; bay < bays; bay++) {
            for (int what = 2; what <= 3; what++) {
                seen.append(" bay").append(bay).append('.').append(what).append('=').append(x.bay(bay, what));
            }
        }
        for (int cry = 0; cry < cries; cry++) {
            for (int what = 1; what <= 3; what++) {
                seen.append(" cry").append(cry).append('.').append(what).append('=').append(x.cry(cry, what));
            }
        }
        return seen.toString();
    }

    /** The gorge, its law, what is heard, what can be undone, the tape, the fault; not how many calls were refused. */
    static String all(CryGorge x) {
        StringBuilder seen = new StringBuilder(keeping(x));
        for (int what : new int[] {0, 1, 3, 8, 9}) {
            seen.append(" told").append(what).append('=').append(x.told(what));
        }
        int bays = x.told(0);
        int cries = x.told(1);
        for (int bay = 0; bay < bays; bay++) {
            for (int what : new int[] {0, 1, 4}) {
                seen.append(" bay").append(bay).append('.').append(what).append('=').append(x.bay(bay, what));
            }
        }
        for (int cry = 0; cry < cries; cry++) {
            for (int what : new int[] {0, 4, 5}) {
                seen.append(" cry").append(cry).append('.').append(what).append('=').append(x.cry(cry, what));
            }
        }
        for (int what = 0; what <= 2; what++) {
            seen.append(" count").append(what).append('=').append(x.count(what));
        }
        seen.append(" fault=").append(x.fault());
        seen.append(" would=").append(x.would(7, 1, 0, 30, 20, 3, 1, 2)).append(',').append(x.would(7, 1, 1, 30, 20, 3, 1, 2));
        seen.append(" whose=").append(x.whose(0)).append(',').append(x.whose(1));
        return seen.toString();
    }
}
