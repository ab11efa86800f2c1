/** All that can be seen of an array without changing it, as one text, so that two sights can be compared. */
final class Sight {
    private Sight() {
    }

    /** Costs disks * (stripes + 1) + 6 of the 512 calls that an object has. */
    static String of(DualParityArray x, int disks, int stripes) {
        StringBuilder text = new StringBuilder();
        text.append("mode ").append(x.mode());
        text.append(", logged ").append(x.logged());
        text.append(", spares ").append(x.spares());
        text.append(", reads ").append(x.reads());
        text.append(", writes ").append(x.writes());
        text.append(", faults ").append(x.faults());
        for (int d = 0; d < disks; d++) {
            text.append("; disk ").append(d).append(" at ").append(x.position(d)).append(':');
            for (int s = 0; s < stripes; s++) {
                text.append(' ').append(x.peek(d, s));
            }
        }
        return text.toString();
    }
}
