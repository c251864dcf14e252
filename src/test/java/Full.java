/** A brigade with as many statements of each sort as there may be, in a text of nearly 1,000 bytes. */
final class Full {
    /**
     * Nodes a to l in a row, 5 minutes apart, but k and l 7 by the twentieth road. Stations m to r at a, c, e, g, i and l. Engines:
     * pumps s, t at m and u, v at n, ladder w at o, pumps x, y at p, ladder z and pump ea at q, rescue eb at r.
     */
    static final String TEXT = "slot10;hoses9dry2racks2;" + nodes() + roads()
            + "station m at a;station n at c;station o at e;station p at g;station q at i;station r at l;"
            + "engine s pump at m;engine t pump at m;engine u pump at n;engine v pump at n;engine w ladder at o;engine x pump at p;"
            + "engine y pump at p;engine z ladder at q;engine ea pump at q;engine eb rescue at r;" + streets()
            + "drill du at a lasts2needs2pump hose4;drill dv at c lasts1needs1pump after du;drill dw at k lasts1needs1ladder hose9;"
            + "drill dx at g lasts3needs2pump from2;drill dy at b lasts1needs1rescue after dv,dx;";

    private Full() {
    }

    /** The full brigade with some starts, a violation and more edits than can be undone. */
    static DrillPlanner busy() {
        DrillPlanner x = Bench.planner(TEXT);
        x.setStart(3, 23);
        x.setStart(0, 9);
        x.schedule(1);
        x.compact();
        x.setStart(0, 1);
        x.setStart(3, 2);
        x.setStart(4, 20);
        x.clearStarts();
        x.setStart(1, 5);
        x.setStart(0, 0);
        x.setStart(4, 12);
        x.setStart(2, 1);
        return x;
    }

    private static String nodes() {
        StringBuilder text = new StringBuilder();
        for (char node = 'a'; node <= 'l'; node++) {
            text.append("node ").append(node).append(';');
        }
        return text.toString();
    }

    private static String roads() {
        StringBuilder text = new StringBuilder();
        for (char node = 'b'; node <= 'k'; node++) {
            text.append("road ").append((char) (node - 1)).append(' ').append(node).append("5;");
        }
        return text + "road a b9;".repeat(9) + "road l k7;";
    }

    private static String streets() {
        StringBuilder text = new StringBuilder();
        for (char node = 'a'; node <= 'j'; node++) {
            text.append("street ").append(node).append(" within9;");
        }
        return text + "street k within9;street l within0;";
    }
}
