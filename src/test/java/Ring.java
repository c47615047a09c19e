import java.math.BigInteger;
import java.util.ArrayList;
import java.util.Comparator;
import java.util.List;

/** The points of the policy HASH in the order of the document, gone through one by one. */
final class Ring {
    /** Each point is its position, its server and its number. */
    private final List<long[]> points = new ArrayList<>();

    /** The ring of servers with these weights. */
    Ring(int... weights) {
        for (int s = 0; s < weights.length; s++) {
            for (int k = 0; k < 4 * weights[s]; k++) {
                points.add(new long[] {Reference.position(1000 * s + k), s, k});
            }
        }
        points.sort(Comparator.<long[]>comparingLong(p -> p[0]).thenComparingLong(p -> p[1]).thenComparingLong(p -> p[2]));
    }

    int size() {
        return points.size();
    }

    /** The position of the point with this place in the order, as an int of the same bits. */
    int position(int place) {
        return (int) points.get(place)[0];
    }

    int server(int place) {
        return (int) points.get(place)[1];
    }

    /** The server of the first point from the client on that does not belong to the server without, or NONE. */
    int walk(int client, int without) {
        int start = 0;
        while (start < points.size() && points.get(start)[0] < Reference.position(client)) {
            start++;
        }
        for (int i = 0; i < points.size(); i++) {
            int server = server((start + i) % points.size());
            if (server != without) {
                return server;
            }
        }
        return LoadBalancer.NONE;
    }

    /** The client whose position is the given one: mix, backwards. */
    static int clientAt(int position) {
        int inverse = BigInteger.valueOf(73244475).modInverse(BigInteger.ONE.shiftLeft(32)).intValue();
        int x = position;
        x ^= x >>> 16;
        x *= inverse;
        x ^= x >>> 16;
        x *= inverse;
        x ^= x >>> 16;
        return x;
    }
}
