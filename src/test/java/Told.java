/** Texts of valleys, line by line. */
final class Told {
    private Told() {
    }

    static String head(int places, int hour) {
        return "valley places " + places + " hour " + hour + ";";
    }

    /** Two places and how long, for each road. */
    static String roads(int... all) {
        StringBuilder lines = new StringBuilder();
        for (int i = 0; i < all.length; i += 3) {
            lines.append("road " + all[i] + " " + all[i + 1] + " long " + all[i + 2] + ";");
        }
        return lines.toString();
    }

    /** A place and how strong, for each person. */
    static String people(int... all) {
        StringBuilder lines = new StringBuilder();
        for (int i = 0; i < all.length; i += 2) {
            lines.append("person at " + all[i] + " strong " + all[i + 1] + ";");
        }
        return lines.toString();
    }

    /** Place, weight, worth for each coin. */
    static String coins(int... all) {
        StringBuilder lines = new StringBuilder();
        for (int i = 0; i < all.length; i += 3) {
            lines.append("coin at " + all[i] + " weight " + all[i + 1] + " worth " + all[i + 2] + ";");
        }
        return lines.toString();
    }

    /** Two people, for each quarrel. */
    static String quarrels(int... all) {
        StringBuilder lines = new StringBuilder();
        for (int i = 0; i < all.length; i += 2) {
            lines.append("quarrel " + all[i] + " " + all[i + 1] + ";");
        }
        return lines.toString();
    }

    /** So many people at place 0, each so strong. */
    static String alike(int many, int strong) {
        return people(0, strong).repeat(many);
    }

    /** So many people who have all quarrelled but for those told, two by two. */
    static String friends(int many, int... all) {
        StringBuilder lines = new StringBuilder(alike(many, 1));
        for (int p = 0; p < many; p++) {
            for (int q = p + 1; q < many; q++) {
                boolean friends = false;
                for (int i = 0; i < all.length; i += 2) {
                    friends |= all[i] == p && all[i + 1] == q;
                }
                lines.append(friends ? "" : quarrels(p, q));
            }
        }
        return lines.toString();
    }
}
