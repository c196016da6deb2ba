/** A kind of boat, plain but for what a test says: an hour for 120 miles, a gallon a minute. */
final class Kind {
    private int empty = 10000;
    private int lift = 30000;
    private int speed = 120;
    private int burn = 60;
    private int tank = 1000;
    private int hold = 3000;
    private int crew = 3;

    Kind empty(int v) {
        empty = v;
        return this;
    }

    Kind lift(int v) {
        lift = v;
        return this;
    }

    Kind speed(int v) {
        speed = v;
        return this;
    }

    Kind burn(int v) {
        burn = v;
        return this;
    }

    Kind tank(int v) {
        tank = v;
        return this;
    }

    Kind hold(int v) {
        hold = v;
        return this;
    }

    Kind crew(int v) {
        crew = v;
        return this;
    }

    /** A boat of this kind comes to a stop. */
    int at(HullLine x, int stop) {
        return x.boat(stop, empty, lift, speed, burn, tank, hold, crew);
    }
}
