/** All that can be seen of an object without changing it, as a text to compare. */
final class Look {
    private Look() {
    }

    static String at(SettleLayers x) {
        StringBuilder seen = new StringBuilder();
        for (int what = 0; what <= 5; what++) {
            seen.append(x.count(what)).append(' ');
        }
        for (int layer = -1; layer < x.count(0); layer++) {
            seen.append(x.sunk(layer)).append(' ');
        }
        for (int cell = 0; cell < x.count(1); cell++) {
            for (int what = 0; what <= 2; what++) {
                seen.append(x.told(cell, what)).append(' ');
            }
        }
        seen.append(x.out()).append(' ').append(x.balance()).append(' ');
        seen.append(x.end()).append(' ').append(x.share()).append(' ');
        for (int rule = 0; rule <= 2; rule++) {
            seen.append(x.foretold(rule)).append(' ');
        }
        return seen.append(x.off(0)).toString();
    }
}
