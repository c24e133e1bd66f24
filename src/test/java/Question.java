import java.util.EnumMap;
import java.util.Map;

/**
 * Questions which together tell all that can be told of a land. None takes more than 400 calls, so that a scene and
 * one of them stay within the 512 calls of an object; those that tell something come upon a land of their own.
 */
enum Question {
    CELLS {
        @Override
        void ask(IceLand x, Told told) {
            for (int cell = 0; cell < 12; cell++) {
                for (int what = 0; what <= 9; what++) {
                    told.is(x.cellIs(cell, what));
                }
            }
            for (int what = 0; what <= 5; what++) {
                told.is(x.total(what));
            }
            told.is(x.iceAnew());
        }
    },
    UPPER_LAYERS {
        @Override
        void ask(IceLand x, Told told) {
            layers(x, told, 0, 6);
        }
    },
    LOWER_LAYERS {
        @Override
        void ask(IceLand x, Told told) {
            layers(x, told, 6, 12);
        }
    },
    CORES {
        @Override
        void ask(IceLand x, Told told) {
            for (int cell = 0; cell < 12; cell++) {
                for (int other = 0; other < 12; other++) {
                    told.is(x.common(cell, other));
                }
                for (int depth = 0; depth < 14; depth++) {
                    told.is(x.yearAt(cell, depth * depth * depth));
                }
            }
        }
    },
    ANNALS {
        @Override
        void ask(IceLand x, Told told) {
            told.is(x.floods());
            for (int flood = 0; flood < x.floods() && flood < 40; flood++) {
                for (int what = 0; what <= 2; what++) {
                    told.is(x.flood(flood, what));
                }
            }
            for (int year = 0; year <= 60; year++) {
                int asked = year;
                told.isOrThrows(() -> x.front(asked));
            }
            for (int forecast = 0; forecast <= 10; forecast++) {
                int asked = forecast;
                told.isOrThrows(() -> x.miss(asked));
            }
        }
    },
    WHAT_WOULD_BE {
        @Override
        void ask(IceLand x, Told told) {
            for (int years = 1; years <= 20; years += 9) {
                for (int i = 0; i < 120; i++) {
                    int asked = years;
                    int cell = i / 10;
                    int what = i % 10;
                    told.isOrThrows(() -> x.would(asked, cell, what));
                }
            }
        }
    },
    YEARS_TO_COME {
        @Override
        void ask(IceLand x, Told told) {
            for (int i = 0; i < 60; i++) {
                told.isOrThrows(() -> x.pass(1));
                for (int what = 0; what <= 3; what++) {
                    told.is(x.total(what));
                }
            }
            for (int forecast = 0; forecast <= 10; forecast++) {
                int asked = forecast;
                told.isOrThrows(() -> x.miss(asked));
            }
        }
    },
    WHAT_IS_TOLD_NEXT {
        @Override
        void ask(IceLand x, Told told) {
            told.is(x.ash() ? 1 : 0);
            for (int i = 0; i < 11; i++) {
                told.isOrThrows(() -> x.forecast(1));
            }
            for (int cell = 0; cell < 12; cell++) {
                int asked = cell;
                told.isOrThrows(() -> x.land(asked, 77));
                told.isOrThrows(() -> x.ice(asked, 9));
            }
            told.is(x.sea(120));
            told.isOrThrows(() -> x.pass(1));
            CELLS.ask(x, told);
        }
    };

    private final Map<Scene, String> atFirst = new EnumMap<>(Scene.class);

    abstract void ask(IceLand x, Told told);

    String askedOf(IceLand x) {
        Told told = new Told();
        ask(x, told);
        return told.text.toString();
    }

    /** What the question answers in a scene where nothing was refused. */
    String askedAtFirst(Scene scene) {
        return atFirst.computeIfAbsent(scene, s -> askedOf(s.make()));
    }

    private static void layers(IceLand x, Told told, int from, int to) {
        for (int cell = from; cell < to; cell++) {
            for (int year = 0; year <= 60; year++) {
                told.is(x.layer(cell, year));
            }
        }
    }

    interface Asked {
        int now();
    }

    /** The answers one behind the other, an exception by its name. */
    static final class Told {
        private final StringBuilder text = new StringBuilder();

        void is(int answer) {
            text.append(answer).append(' ');
        }

        void isOrThrows(Asked asked) {
            try {
                is(asked.now());
            } catch (RuntimeException e) {
                text.append(e.getClass().getSimpleName()).append(' ');
            }
        }
    }
}
