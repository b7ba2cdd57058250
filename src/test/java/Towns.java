/** Texts that several tests tell. */
final class Towns {
    /** As many PEOPLE and MATTERS as there can be, of each MARK some. */
    static final String BIG = "well level 50 spring 9 frost 100;\n"
            + "person cups 9;person cups 8 stubborn;person cups 7;person cups 6;person cups 5;person cups 0;\n"
            + "matter 0 gains 99 1 loses 99;\n"
            + "matter 1 gains 1 2 gains 2 on 0;\n"
            + "matter 2 gains 3 3 loses 3 on 1 jug;\n"
            + "matter 3 gains 0 4 gains 0 dry;\n"
            + "matter 4 loses 5 5 gains 5 on 3;\n"
            + "matter 5 gains 6 0 loses 6 on 4 jug dry;\n"
            + "matter 0 gains 7 2 gains 7;\n"
            + "matter 4 gains 8 5 loses 8 on 0 1 2 3 4 5 6;\n";

    /** Eight like MATTERS of two, each with a jug: whoever has a cup CAN drink. */
    static final String JUGS = "well level 99 spring 0 frost 0;person cups 9;person cups 9;"
            + "matter 0 gains 1 1 gains 1 jug;".repeat(8);

    private Towns() {
    }

    /** Six PEOPLE, one of them stubborn (or none), and MATTER k, behind others of 0 and 1 by which nobody gains. */
    static String ofPair(int k, int stubborn, String matter) {
        StringBuilder b = new StringBuilder("well level 9 spring 0 frost 0;");
        for (int p = 0; p < 6; p++) {
            b.append(p == stubborn ? "person cups 1 stubborn;" : "person cups 1;");
        }
        return b.append("matter 0 gains 0 1 gains 0;".repeat(k)).append("matter ").append(matter).append(';').toString();
    }

    /** Two PEOPLE with a cup each, a level, and MATTERS. */
    static String ofTwo(int level, String... matters) {
        StringBuilder b = new StringBuilder("well level ").append(level).append(" spring 1 frost 0;");
        b.append("person cups 1;person cups 1;");
        for (String m : matters) {
            b.append("matter ").append(m).append(';');
        }
        return b.toString();
    }

    /** Three PEOPLE with three cups each and a level of 9, and MATTERS. */
    static String ofThree(String... matters) {
        StringBuilder b = new StringBuilder("well level 9 spring 1 frost 0;");
        b.append("person cups 3;person cups 3;person cups 3;");
        for (String m : matters) {
            b.append("matter ").append(m).append(';');
        }
        return b.toString();
    }
}
