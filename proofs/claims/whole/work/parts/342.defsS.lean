/-! the String constants of ScheduleText, by their places: nodes, repeat, star, none, full, path, ring -/
def lenS : List Nat := [5, 6, 4, 4, 4, 4, 4]
def bytS : List (List Int32) := [[110, 111, 100, 101, 115], [114, 101, 112, 101, 97, 116], [115, 116, 97, 114], [110, 111, 110, 101], [102, 117, 108, 108], [112, 97, 116, 104], [114, 105, 110, 103]]
/-- the char at k of constant i -/
def schr (i k : Nat) : Int32 := (((bytS.getD i []).getD k 0 &&& 255).toUInt32 % 65536).toInt32
def SE (adK adV : Nat → Nat) (A : Nat → Prop) (U : State) : Prop :=
  vk_S 7 lenS bytS adK adV A U U.heap ∧ va_Z "java/lang/String" "COMPACT_STRINGS" "Z" (.int 1) A U U.heap ∧ va_Zq "jdk/internal/util/Preconditions" "SIOOBE_FORMATTER" "Ljava/util/function/BiFunction;" A U U.heap ∧ vk_R RX8 49 "nodes" (adK 0) U ∧ vk_R RX8 58 "repeat" (adK 1) U ∧ vk_R RX8 68 "star" (adK 2) U ∧ vk_R RX8 97 "none" (adK 3) U ∧ vk_R RX8 99 "full" (adK 4) U ∧ vk_R RX8 109 "path" (adK 5) U ∧ vk_R RX8 113 "ring" (adK 6) U
