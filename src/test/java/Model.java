import java.util.ArrayList;
import java.util.List;

/**
 * The document once more, as plainly as can be and without a thought for rooms or speed:
 * ModelTest holds the class against it.
 */
final class Model {
    static final class Car {
        int place;
        boolean scraper;
        boolean runs = true;
        int came;
        int took;
        int stuck;

        Car(int place, boolean scraper) {
            this.place = place;
            this.scraper = scraper;
        }

        Car twin() {
            Car twin = new Car(place, scraper);
            twin.runs = runs;
            twin.came = came;
            twin.took = took;
            twin.stuck = stuck;
            return twin;
        }
    }

    int[] cold = new int[8];
    int[] swan = {-1, -1, -1, -1, -1, -1, -1, -1, -1, -1, -1, -1};
    int day = 2;
    int night = 3;
    int[] worn = new int[24];
    int[] frost = new int[24];
    boolean[] down = new boolean[24];
    List<Car> cars = new ArrayList<>();
    List<Integer> orders = new ArrayList<>();
    int gangAt;
    int works;
    int allWorks;
    int putUp;
    int coins;
    int hour;

    Model twin() {
        Model twin = new Model();
        twin.cold = cold.clone();
        twin.swan = swan.clone();
        twin.day = day;
        twin.night = night;
        twin.worn = worn.clone();
        twin.frost = frost.clone();
        twin.down = down.clone();
        for (Car car : cars) {
            twin.cars.add(car.twin());
        }
        twin.orders.addAll(orders);
        twin.gangAt = gangAt;
        twin.works = works;
        twin.allWorks = allWorks;
        twin.putUp = putUp;
        twin.coins = coins;
        twin.hour = hour;
        return twin;
    }

    private static void index(boolean is) {
        if (!is) {
            throw new IndexOutOfBoundsException();
        }
    }

    private static void argument(boolean is) {
        if (!is) {
            throw new IllegalArgumentException();
        }
    }

    private static void state(boolean is) {
        if (!is) {
            throw new IllegalStateException();
        }
    }

    private static boolean from(int least, int number, int most) {
        return least <= number && number <= most;
    }

    boolean isNight() {
        return from(0, hour % 24, 5) || from(20, hour % 24, 23);
    }

    void wear(int span, int by) {
        worn[span] += by;
        if (worn[span] >= 100) {
            worn[span] = 100;
            down[span] = true;
        }
    }

    void oneHour() {
        for (int s = 0; s < 24; s++) {
            int f = isNight() ? frost[s] + cold[hour % 8] : frost[s] - 2;
            frost[s] = f > 9 ? 9 : f < 0 ? 0 : f;
        }
        int hit = swan[hour % 12];
        if (hit >= 0 && !down[hit]) {
            wear(hit, 25);
        }
        for (Car car : cars) {
            int left = car.runs ? 3 : 0;
            while (left > 0) {
                left--;
                int next = car.place == 23 ? 0 : car.place + 1;
                if (down[next]) {
                    car.stuck++;
                    left = 0;
                } else {
                    car.place = next;
                    car.came++;
                    int fare = isNight() ? night : day;
                    car.took += fare;
                    coins += fare;
                    if (car.scraper) {
                        frost[next] = 0;
                        wear(next, 2);
                    } else {
                        wear(next, 1 + frost[next] / 2);
                    }
                    if (down[next]) {
                        left = 0;
                    }
                }
            }
        }
        if (!orders.isEmpty()) {
            gangsHour(orders.get(0));
        }
        hour++;
    }

    private int upwards(int target) {
        int steps = 0;
        for (int s = gangAt; s != target; s = s == 23 ? 0 : s + 1) {
            steps++;
        }
        return steps;
    }

    private void gangsHour(int target) {
        boolean goesUp = upwards(target) <= 12;
        for (int k = 0; k < 4 && gangAt != target; k++) {
            if (goesUp) {
                gangAt = gangAt == 23 ? 0 : gangAt + 1;
            } else {
                gangAt = gangAt == 0 ? 23 : gangAt - 1;
            }
        }
        if (gangAt != target) {
            return;
        }
        coins -= 2;
        works++;
        allWorks++;
        boolean isDone;
        if (down[target]) {
            isDone = works >= 2;
            if (isDone) {
                down[target] = false;
                worn[target] = 50;
                putUp++;
            }
        } else {
            worn[target] = Math.max(worn[target] - 30, 0);
            isDone = worn[target] < 30;
        }
        if (isDone) {
            orders.remove(0);
            works = 0;
        }
    }

    int setCold(int h, int c) {
        index(from(0, h, 7));
        argument(from(0, c, 3));
        int was = cold[h];
        cold[h] = c;
        return was;
    }

    int setSwan(int h, int s) {
        index(from(0, h, 11));
        argument(from(-1, s, 23));
        int was = swan[h];
        swan[h] = s;
        return was;
    }

    int setFare(boolean isNight, int c) {
        argument(from(0, c, 9));
        int was = isNight ? night : day;
        night = isNight ? c : night;
        day = isNight ? day : c;
        return was;
    }

    int bus(int s, boolean scraper) {
        index(from(0, s, 23));
        state(cars.size() < 6);
        cars.add(new Car(s, scraper));
        return cars.size() - 1;
    }

    int fit(int a, int b) {
        index(from(0, a, cars.size() - 1) && from(0, b, cars.size() - 1));
        state(cars.get(a).scraper && !cars.get(b).scraper);
        cars.get(a).scraper = false;
        cars.get(b).scraper = true;
        return cars.get(b).place;
    }

    boolean park(int b) {
        index(from(0, b, cars.size() - 1));
        cars.get(b).runs = !cars.get(b).runs;
        return cars.get(b).runs;
    }

    int told(int b, int what) {
        index(from(0, b, cars.size() - 1) && from(0, what, 6));
        Car car = cars.get(b);
        int up = 0;
        for (int k = 1; k <= 24 && !down[(car.place + k) % 24]; k++) {
            up = k;
        }
        return new int[] {car.place, car.scraper ? 1 : 0, car.runs ? 1 : 0, car.came, car.took, car.stuck, up}[what];
    }

    int span(int s, int what) {
        index(from(0, s, 23) && from(0, what, 4));
        int there = (int) cars.stream().filter(car -> car.place == s).count();
        return new int[] {worn[s], frost[s], down[s] ? 1 : 0, there, orders.indexOf(s)}[what];
    }

    int order(int s) {
        index(from(0, s, 23));
        state(orders.size() < 6 && !orders.contains(s));
        orders.add(s);
        return orders.size();
    }

    int cancel(int s) {
        index(from(0, s, 23));
        int place = orders.indexOf(s);
        state(place >= 0);
        orders.remove(place);
        works = place == 0 ? 0 : works;
        return place;
    }

    int gang(int what) {
        index(from(0, what, 6));
        boolean has = !orders.isEmpty();
        int away = 0;
        if (has) {
            int up = upwards(orders.get(0));
            for (int left = Math.min(up, 24 - up); left > 0; left -= 4) {
                away++;
            }
        }
        return new int[] {gangAt, has ? orders.get(0) : -1, orders.size(), works, allWorks, putUp, has ? away : -1}[what];
    }

    int count(int what) {
        index(from(0, what, 8));
        int downs = 0;
        int wear = 0;
        int ice = 0;
        for (int s = 0; s < 24; s++) {
            downs += down[s] ? 1 : 0;
            wear += worn[s];
            ice += frost[s];
        }
        int running = 0;
        int stuck = 0;
        for (Car car : cars) {
            running += car.runs ? 1 : 0;
            stuck += car.stuck;
        }
        return new int[] {hour, isNight() ? 1 : 0, coins, cars.size(), running, downs, wear, ice, stuck}[what];
    }

    int pass(int hours) {
        argument(from(1, hours, 72));
        int was = coins;
        for (int k = 0; k < hours; k++) {
            oneHour();
        }
        return coins - was;
    }

    int falls(int s) {
        index(from(0, s, 23));
        Model twin = twin();
        for (int k = 0; k <= 96; k++) {
            if (twin.down[s]) {
                return k;
            }
            twin.oneHour();
        }
        return -1;
    }

    int foresee(int hours, int what) {
        argument(from(1, hours, 72));
        index(List.of(2, 5, 6, 7, 8).contains(what));
        Model twin = twin();
        twin.pass(hours);
        return twin.count(what);
    }

    int advise(int hours) {
        argument(from(1, hours, 48));
        Model none = twin();
        none.orders.clear();
        none.works = 0;
        int[] coinsBy = new int[24];
        for (int s = 0; s < 24; s++) {
            Model twin = none.twin();
            twin.order(s);
            twin.pass(hours);
            coinsBy[s] = twin.coins;
        }
        none.pass(hours);
        int best = -1;
        for (int s = 23; s >= 0; s--) {
            if (coinsBy[s] > none.coins && (best < 0 || coinsBy[s] >= coinsBy[best])) {
                best = s;
            }
        }
        return best;
    }

    double mean() {
        double sum = 0;
        for (int w : worn) {
            sum += w;
        }
        return sum / 24;
    }

    long digest() {
        List<Integer> all = new ArrayList<>();
        for (int what = 0; what < 9; what++) {
            all.add(count(what));
        }
        for (int c : cold) {
            all.add(c);
        }
        for (int s : swan) {
            all.add(s);
        }
        all.add(day);
        all.add(night);
        for (int what = 0; what < 7; what++) {
            all.add(gang(what));
        }
        for (int s = 0; s < 24; s++) {
            for (int what = 0; what < 5; what++) {
                all.add(span(s, what));
            }
        }
        for (int b = 0; b < cars.size(); b++) {
            for (int what = 0; what < 7; what++) {
                all.add(told(b, what));
            }
        }
        long d = 1301;
        for (int x : all) {
            d = d * 31 + x;
        }
        return d;
    }
}
