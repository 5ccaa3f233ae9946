import java.util.Arrays;

/** The least cost of giving slots, by the Hungarian method: each place of a slot is a column of its own. */
final class Assignment {
    static final int NEVER = 100000;

    private Assignment() {
    }

    /** By container, then slot (the last one is none, with room for all): what it costs. */
    static int leastCost(int[][] costs, int[] room) {
        int n = costs.length;
        int[][] table = new int[n][];
        for (int c = 0; c < n; c++) {
            table[c] = columns(costs[c], room, n);
        }
        return n == 0 ? 0 : solve(table);
    }

    private static int[] columns(int[] costs, int[] room, int all) {
        int[] columns = new int[0];
        for (int s = 0; s < costs.length; s++) {
            int places = s < room.length ? room[s] : all;
            int at = columns.length;
            columns = Arrays.copyOf(columns, at + places);
            Arrays.fill(columns, at, at + places, costs[s]);
        }
        return columns;
    }

    private static int solve(int[][] table) {
        int n = table.length;
        int m = table[0].length;
        int[] rowPrice = new int[n + 1];
        int[] columnPrice = new int[m + 1];
        int[] rowOf = new int[m + 1];
        int[] cameFrom = new int[m + 1];
        for (int row = 1; row <= n; row++) {
            rowOf[0] = row;
            int column = 0;
            int[] slack = new int[m + 1];
            Arrays.fill(slack, Integer.MAX_VALUE);
            boolean[] isUsed = new boolean[m + 1];
            do {
                isUsed[column] = true;
                int next = 0;
                int delta = Integer.MAX_VALUE;
                for (int j = 1; j <= m; j++) {
                    if (!isUsed[j]) {
                        int reduced = table[rowOf[column] - 1][j - 1] - rowPrice[rowOf[column]] - columnPrice[j];
                        if (reduced < slack[j]) {
                            slack[j] = reduced;
                            cameFrom[j] = column;
                        }
                        if (slack[j] < delta) {
                            delta = slack[j];
                            next = j;
                        }
                    }
                }
                for (int j = 0; j <= m; j++) {
                    if (isUsed[j]) {
                        rowPrice[rowOf[j]] += delta;
                        columnPrice[j] -= delta;
                    } else {
                        slack[j] -= delta;
                    }
                }
                column = next;
            } while (rowOf[column] != 0);
            while (column != 0) {
                rowOf[column] = rowOf[cameFrom[column]];
                column = cameFrom[column];
            }
        }
        int sum = 0;
        for (int j = 1; j <= m; j++) {
            sum += rowOf[j] == 0 ? 0 : table[rowOf[j] - 1][j - 1];
        }
        return sum;
    }
}
