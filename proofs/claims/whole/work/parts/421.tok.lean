/-! ===== tokens of a text ===== -/
def TX (c : Nat → Nat) (n : Nat) (cs tx : Nat → Int32) : Prop := n ≤ 120 ∧ ∀ i, i < n → c i < 256 ∧ cs i = nI (c i) ∧ tx i = nI (c i)
def kd (c : Nat → Nat) (n i : Nat) : Nat := if n ≤ i then 0 else if 97 ≤ c i ∧ c i ≤ 122 then 1 else if 48 ≤ c i ∧ c i ≤ 57 then 2 else if c i = 59 then 3 else 4
theorem kd_le (c : Nat → Nat) (n i : Nat) : kd c n i < 5 := by
  unfold kd
  split
  · omega
  · split
    · omega
    · split
      · omega
      · split <;> omega
theorem kd_0 {c : Nat → Nat} {n i : Nat} : kd c n i = 0 ↔ n ≤ i := by
  unfold kd
  by_cases q : n ≤ i
  · rw [if_pos q]; exact ⟨fun _ => q, fun _ => rfl⟩
  · rw [if_neg q]
    refine ⟨fun z => ?_, fun z => absurd z q⟩
    split at z
    · omega
    · split at z
      · omega
      · split at z <;> omega
theorem kd_1 {c : Nat → Nat} {n i : Nat} : kd c n i = 1 ↔ i < n ∧ 97 ≤ c i ∧ c i ≤ 122 := by
  unfold kd
  by_cases q : n ≤ i
  · rw [if_pos q]; omega
  · rw [if_neg q]
    by_cases q1 : 97 ≤ c i ∧ c i ≤ 122
    · rw [if_pos q1]; omega
    · rw [if_neg q1]
      by_cases q2 : 48 ≤ c i ∧ c i ≤ 57
      · rw [if_pos q2]; omega
      · rw [if_neg q2]
        by_cases q3 : c i = 59
        · rw [if_pos q3]; omega
        · rw [if_neg q3]; omega
theorem kd_2 {c : Nat → Nat} {n i : Nat} : kd c n i = 2 ↔ i < n ∧ 48 ≤ c i ∧ c i ≤ 57 := by
  unfold kd
  by_cases q : n ≤ i
  · rw [if_pos q]; omega
  · rw [if_neg q]
    by_cases q1 : 97 ≤ c i ∧ c i ≤ 122
    · rw [if_pos q1]; omega
    · rw [if_neg q1]
      by_cases q2 : 48 ≤ c i ∧ c i ≤ 57
      · rw [if_pos q2]; omega
      · rw [if_neg q2]
        by_cases q3 : c i = 59
        · rw [if_pos q3]; omega
        · rw [if_neg q3]; omega
theorem kd_3 {c : Nat → Nat} {n i : Nat} : kd c n i = 3 ↔ i < n ∧ c i = 59 := by
  unfold kd
  by_cases q : n ≤ i
  · rw [if_pos q]; omega
  · rw [if_neg q]
    by_cases q1 : 97 ≤ c i ∧ c i ≤ 122
    · rw [if_pos q1]; omega
    · rw [if_neg q1]
      by_cases q2 : 48 ≤ c i ∧ c i ≤ 57
      · rw [if_pos q2]; omega
      · rw [if_neg q2]
        by_cases q3 : c i = 59
        · rw [if_pos q3]; omega
        · rw [if_neg q3]; omega
theorem isc_c : ∀ x, x < 256 → isc (nI x) = true := by decide +kernel
section TOK
variable {c : Nat → Nat} {n : Nat} {cs tx : Nat → Int32}
theorem charAt_eq (hX : TX c n cs tx) {i : Nat} (hi : i < n) : fX8_characterAt (nI i) cs (nI n) = some (nI (c i)) := by
  have hn := hX.1
  obtain ⟨h1, h2, h3⟩ := hX.2 i hi
  unfold fX8_characterAt
  rw [if_neg (nI_pos (by omega)), if_neg (nI_ge hi (by omega)), ck_t (inb_t (by omega) (by decide)), nI_clamp (by omega), h2, ck_t (isc_c _ h1)]
theorem kindAt_eq (hX : TX c n cs tx) {i : Nat} (hi : i ≤ n) : fX8_kindAt (nI i) cs (nI n) = some (nI (kd c n i)) := by
  have hn := hX.1
  unfold fX8_kindAt
  rcases Nat.lt_or_ge i n with q | q
  · obtain ⟨h1, h2, h3⟩ := hX.2 i q
    rw [if_pos (nI_lt q (by omega)), charAt_eq hX q, bd_s]
    unfold fX8_kindAt_b30 fX8_kindAt_b44 kd
    rw [if_neg (show ¬ n ≤ i by omega)]
    have l1 : nI (c i) < (97 : Int32) ↔ c i < 97 := nI_ltI (b := 97) (by omega) (by decide)
    have l2 : (122 : Int32) < nI (c i) ↔ 122 < c i := nI_ltI (a := 122) (by decide) (by omega)
    have l3 : nI (c i) < (48 : Int32) ↔ c i < 48 := nI_ltI (b := 48) (by omega) (by decide)
    have l4 : (57 : Int32) < nI (c i) ↔ 57 < c i := nI_ltI (a := 57) (by decide) (by omega)
    have l5 : nI (c i) = (59 : Int32) ↔ c i = 59 := nI_eq (b := 59) (by omega) (by decide)
    have tail : (if nI (c i) < (48 : Int32) then (if nI (c i) = (59 : Int32) then some (3 : Int32) else some 4) else if (57 : Int32) < nI (c i) then (if nI (c i) = (59 : Int32) then some (3 : Int32) else some 4) else some 2) = some (nI (if 48 ≤ c i ∧ c i ≤ 57 then 2 else if c i = 59 then 3 else 4)) := by
      by_cases q2 : 48 ≤ c i ∧ c i ≤ 57
      · rw [if_pos q2, if_neg (fun z => by have := l3.mp z; omega), if_neg (fun z => by have := l4.mp z; omega)]; rfl
      · rw [if_neg q2]
        have e59 : (if nI (c i) = (59 : Int32) then some (3 : Int32) else some 4) = some (nI (if c i = 59 then 3 else 4)) := by
          by_cases q3 : c i = 59
          · rw [if_pos q3, if_pos (l5.mpr q3)]; rfl
          · rw [if_neg q3, if_neg (fun z => q3 (l5.mp z))]; rfl
        rw [e59]
        by_cases q4 : c i < 48
        · rw [if_pos (l3.mpr q4)]
        · rw [if_neg (fun z => q4 (l3.mp z)), if_pos (l4.mpr (by omega))]
    rw [tail]
    by_cases q1 : 97 ≤ c i ∧ c i ≤ 122
    · rw [if_pos q1, if_neg (fun z => by have := l1.mp z; omega), if_neg (fun z => by have := l2.mp z; omega)]; rfl
    · rw [if_neg q1]
      by_cases q4 : c i < 97
      · rw [if_pos (l1.mpr q4)]
      · rw [if_neg (fun z => q4 (l1.mp z)), if_pos (l2.mpr (by omega))]
  · rw [if_neg (nI_nlt q (by omega)), show kd c n i = 0 from kd_0.mpr q]; rfl
theorem here_eq (hX : TX c n cs tx) {i a b : Nat} (hi : i ≤ n) (ha : a < 1000) (hb : b < 1000) : fX10_isHere (nI a) (nI b) tx (nI n) (nI i) = some (decide (i < n ∧ a ≤ c i ∧ c i ≤ b)) := by
  have hn := hX.1
  unfold fX10_isHere
  rcases Nat.lt_or_ge i n with q | q
  · obtain ⟨h1, h2, h3⟩ := hX.2 i q
    rw [if_neg (nI_ge q (by omega)), ck_t (inb_t (by omega) (by decide)), nI_clamp (by omega), h3, in_rng _ hb ha, if_b]
    have e : (nI (c i)).toInt = (c i : Int) := nI_toInt (by omega)
    rw [e]
    by_cases z : a ≤ c i ∧ c i ≤ b
    · rw [if_pos (decide_eq_true (show (a : Int) ≤ (c i : Int) ∧ (c i : Int) ≤ (b : Int) by omega)), decide_eq_true (show i < n ∧ a ≤ c i ∧ c i ≤ b from ⟨q, z⟩)]
    · rw [if_neg (fun w => z (by have := of_decide_eq_true w; omega)), decide_eq_false (fun w => z w.2)]
  · rw [if_pos (nI_le q (by omega)), decide_eq_false (fun w => by omega)]
theorem hereW (hX : TX c n cs tx) {i : Nat} (hi : i ≤ n) : fX10_isHere 97 122 tx (nI n) (nI i) = some (decide (kd c n i = 1)) := by
  have h1 : fX10_isHere 97 122 tx (nI n) (nI i) = some (decide (i < n ∧ 97 ≤ c i ∧ c i ≤ 122)) := here_eq (a := 97) (b := 122) hX hi (by decide) (by decide)
  rw [h1, decide_eq_decide.mpr kd_1]
theorem hereN (hX : TX c n cs tx) {i : Nat} (hi : i ≤ n) : fX10_isHere 48 57 tx (nI n) (nI i) = some (decide (kd c n i = 2)) := by
  have h1 : fX10_isHere 48 57 tx (nI n) (nI i) = some (decide (i < n ∧ 48 ≤ c i ∧ c i ≤ 57)) := here_eq (a := 48) (b := 57) hX hi (by decide) (by decide)
  rw [h1, decide_eq_decide.mpr kd_2]
theorem hereS (hX : TX c n cs tx) {i : Nat} (hi : i ≤ n) : fX10_isHere 59 59 tx (nI n) (nI i) = some (decide (kd c n i = 3)) := by
  have h1 : fX10_isHere 59 59 tx (nI n) (nI i) = some (decide (i < n ∧ 59 ≤ c i ∧ c i ≤ 59)) := here_eq (a := 59) (b := 59) hX hi (by decide) (by decide)
  have h2 : (i < n ∧ 59 ≤ c i ∧ c i ≤ 59) ↔ kd c n i = 3 := by rw [kd_3]; omega
  rw [h1, decide_eq_decide.mpr h2]
theorem hereB (hX : TX c n cs tx) {i : Nat} (hi : i ≤ n) : fX10_isHere 32 32 tx (nI n) (nI i) = some (decide (i < n ∧ c i = 32)) := by
  have h1 : fX10_isHere 32 32 tx (nI n) (nI i) = some (decide (i < n ∧ 32 ≤ c i ∧ c i ≤ 32)) := here_eq (a := 32) (b := 32) hX hi (by decide) (by decide)
  have h2 : (i < n ∧ 32 ≤ c i ∧ c i ≤ 32) ↔ (i < n ∧ c i = 32) := by omega
  rw [h1, decide_eq_decide.mpr h2]
def pkc (c : Nat → Nat) (s : Nat) : Nat → Nat
  | 0 => 0
  | m + 1 => pkc c s m * 256 + c (s + m)
def pkn (c : Nat → Nat) (s : Nat) : Nat → Nat
  | 0 => 0
  | m + 1 => 10 * pkn c s m + (c (s + m) - 48)
def TK (c : Nat → Nat) (n k s e : Nat) (L : Int64) (M : Int32) : Prop := s ≤ e ∧ e ≤ n ∧ k < 5 ∧ (k ≠ 0 → s < e) ∧ (k = 1 → e - s ≤ 6 → L = lN (pkc c s (e - s))) ∧ (k = 2 → (∀ i, s ≤ i → i < e → 48 ≤ c i ∧ c i ≤ 57) ∧ (e - s ≤ 2 → M = nI (pkn c s (e - s))))
theorem letter_step {p x : Nat} (hx : x < 256) : (lN p <<< ((8 : Int32).toInt64 &&& 63)) ||| (nI x).toInt64 = lN (p * 256 + x) := by
  have h1 : lN p <<< ((8 : Int32).toInt64 &&& 63) = lN (p * 2 ^ 8) := wb_shl p (k := 8) (by decide)
  rw [h1, nI_l (by omega), Nat.mul_comm, fb_or_sumL (k := 8) p (by omega), Nat.mul_comm]
theorem number_step {p x : Nat} (hp : p < 1000) (hx : 48 ≤ x) (hx2 : x ≤ 57) : ((((10 : Int32) * nI p) + nI x) - (48 : Int32)) - (((((10 : Int32) * nI p) + nI x) - (48 : Int32)) / (1000000 : Int32)) * (1000000 : Int32) = nI (10 * p + (x - 48)) := by
  have h1 : (10 : Int32) * nI p = nI (10 * p) := pk_mul 10 p
  have h2 : nI (10 * p + x) - (48 : Int32) = nI (10 * p + x - 48) := pk_sub (b := 48) (by omega)
  have h3 : nI (10 * p + x - 48) - nI (10 * p + x - 48) / (1000000 : Int32) * (1000000 : Int32) = nI ((10 * p + x - 48) % 1000000) := pk_rem (d := 1000000) (by omega) (by decide) (by decide)
  rw [h1, nI_add, h2, h3, Nat.mod_eq_of_lt (by omega)]
  congr 1
  omega
theorem run_word (hX : TX c n cs tx) {s : Nat} (T_many : Int32) (M : Int32) : ∀ (f e : Nat) (L : Int64), s ≤ e → e ≤ n → n < f + e → (e - s ≤ 6 → L = lN (pkc c s (e - s))) → ∃ e' L', e ≤ e' ∧ e' ≤ n ∧ (kd c n e = 1 → e < e') ∧ fX8_nextToken_l81 cs (nI n) 1 (nI s) f (nI e) = some (1, nI s, nI e') ∧ fX10_reads_l107 tx (nI n) (nI s) 1 T_many M f (nI e) L = fX10_reads_l161 tx (nI n) (nI s) 1 T_many L' fuel (nI e') M ∧ (e' - s ≤ 6 → L' = lN (pkc c s (e' - s))) := by
  have hn := hX.1
  intro f
  induction f with
  | zero => intro e L h1 h2 h3; omega
  | succ f ih =>
    intro e L h1 h2 h3 hL
    rw [fX8_nextToken_l81, fX10_reads_l107, if_pos (show (1 : Int32) = 1 from rfl), hereW hX h2, bd_s, if_b]
    rcases Nat.lt_or_ge e n with q | q
    · obtain ⟨x1, x2, x3⟩ := hX.2 e q
      rw [if_neg (nI_ge q (by omega)), kindAt_eq hX h2, bd_s, ck_t (inb_t (by omega) (by decide)), nI_clamp (by omega), nI_1, x3]
      by_cases z : kd c n e = 1
      · rw [if_pos (by rw [z]; rfl), if_pos (decide_eq_true z)]
        obtain ⟨e', L', g1, g2, g3, g4, g5, g6⟩ := ih (e + 1) ((L <<< ((8 : Int32).toInt64 &&& 63)) ||| (nI (c e)).toInt64) (by omega) (by omega) (by omega) (fun w => by
          rw [hL (by omega), letter_step x1, show e + 1 - s = (e - s) + 1 by omega]
          show _ = lN (pkc c s (e - s) * 256 + c (s + (e - s)))
          rw [show s + (e - s) = e by omega])
        exact ⟨e', L', by omega, g2, fun _ => by omega, g4, g5, g6⟩
      · have hk := kd_le c n e
        rw [if_neg (show ¬ nI (kd c n e) = (1 : Int32) from fun w => z ((nI_eq (a := kd c n e) (b := 1) (by omega) (by omega)).mp w)), if_neg (fun w => z (of_decide_eq_true w))]
        exact ⟨e, L, Nat.le_refl _, h2, fun w => absurd w z, rfl, rfl, hL⟩
    · have z : ¬ kd c n e = 1 := fun w => by have : kd c n e = 0 := kd_0.mpr q; omega
      rw [if_pos (nI_le q (by omega)), if_neg (fun w => z (of_decide_eq_true w))]
      exact ⟨e, L, Nat.le_refl _, h2, fun w => absurd w z, rfl, rfl, hL⟩
theorem run_num (hX : TX c n cs tx) {s : Nat} (T_many : Int32) (L : Int64) : ∀ (f e : Nat) (M : Int32), s ≤ e → e ≤ n → n < f + e → (∀ i, s ≤ i → i < e → 48 ≤ c i ∧ c i ≤ 57) → (e - s ≤ 2 → M = nI (pkn c s (e - s))) → ∃ e' M', e ≤ e' ∧ e' ≤ n ∧ (kd c n e = 2 → e < e') ∧ fX8_nextToken_l81 cs (nI n) 2 (nI s) f (nI e) = some (2, nI s, nI e') ∧ fX10_reads_l161 tx (nI n) (nI s) 2 T_many L f (nI e) M = fX10_reads_b220 (nI e') (nI s) 2 T_many L M' ∧ (∀ i, s ≤ i → i < e' → 48 ≤ c i ∧ c i ≤ 57) ∧ (e' - s ≤ 2 → M' = nI (pkn c s (e' - s))) := by
  have hn := hX.1
  intro f
  induction f with
  | zero => intro e M h1 h2 h3; omega
  | succ f ih =>
    intro e M h1 h2 h3 hD hM
    rw [fX8_nextToken_l81, fX10_reads_l161, if_pos (show (2 : Int32) = 2 from rfl), hereN hX h2, bd_s, if_b]
    rcases Nat.lt_or_ge e n with q | q
    · obtain ⟨x1, x2, x3⟩ := hX.2 e q
      rw [if_neg (nI_ge q (by omega)), kindAt_eq hX h2, bd_s, ck_t (inb_t (by omega) (by decide)), nI_clamp (by omega), nI_1, x3]
      by_cases z : kd c n e = 2
      · have z2 := kd_2.mp z
        rw [if_pos (by rw [z]; rfl), if_pos (decide_eq_true z)]
        have hD' : ∀ i, s ≤ i → i < e + 1 → 48 ≤ c i ∧ c i ≤ 57 := fun i i1 i2 => by
          by_cases w : i = e
          · subst w; exact z2.2
          · exact hD i i1 (by omega)
        obtain ⟨e', M', g1, g2, g3, g4, g5, g6, g7⟩ := ih (e + 1) (((((10 : Int32) * M) + nI (c e)) - (48 : Int32)) - (((((10 : Int32) * M) + nI (c e)) - (48 : Int32)) / (1000000 : Int32)) * (1000000 : Int32)) (by omega) (by omega) (by omega) hD' (fun w => by
          have hp : pkn c s (e - s) < 1000 := by
            by_cases y : e - s = 0
            · rw [y]; unfold pkn; omega
            · have y1 : e - s = 1 := by omega
              rw [y1]
              unfold pkn pkn
              have := hD (s + 0) (by omega) (by omega)
              omega
          rw [hM (by omega), number_step hp z2.2.1 z2.2.2, show e + 1 - s = (e - s) + 1 by omega]
          show _ = nI (10 * pkn c s (e - s) + (c (s + (e - s)) - 48))
          rw [show s + (e - s) = e by omega])
        exact ⟨e', M', by omega, g2, fun _ => by omega, g4, g5, g6, g7⟩
      · have hk := kd_le c n e
        rw [if_neg (show ¬ nI (kd c n e) = (2 : Int32) from fun w => z ((nI_eq (a := kd c n e) (b := 2) (by omega) (by omega)).mp w)), if_neg (fun w => z (of_decide_eq_true w))]
        exact ⟨e, M, Nat.le_refl _, h2, fun w => absurd w z, rfl, rfl, hD, hM⟩
    · have z : ¬ kd c n e = 2 := fun w => by have : kd c n e = 0 := kd_0.mpr q; omega
      rw [if_pos (nI_le q (by omega)), if_neg (fun w => z (of_decide_eq_true w))]
      exact ⟨e, M, Nat.le_refl _, h2, fun w => absurd w z, rfl, rfl, hD, hM⟩
theorem reads_low {a s k : Nat} (hk : k ≤ 2) (hsa : s ≤ a) (U : Int32) (L : Int64) (M : Int32) : fX10_reads_b220 (nI a) (nI s) (nI k) U L M = some (nI a, nI s, nI k, nI (a - s), L, M) := by
  unfold fX10_reads_b220 fX10_reads_b238
  have e0 : nI a + (0 : Int32) = nI a := nI_add a 0
  rw [if_pos (show nI k ≤ (2 : Int32) from nI_le (b := 2) hk (by decide)), e0, pk_sub hsa]
theorem reads_high {a s k : Nat} (hk : 2 < k) (hk2 : k < 5) (hsa : s ≤ a) (U : Int32) (L : Int64) (M : Int32) : fX10_reads_b220 (nI a) (nI s) (nI k) U L M = some (nI (a + 1), nI s, nI k, nI (a + 1 - s), L, M) := by
  unfold fX10_reads_b220 fX10_reads_b238
  have e0 : nI a + (1 : Int32) = nI (a + 1) := nI_1 a
  rw [if_neg (show ¬ nI k ≤ (2 : Int32) from nI_ge (a := 2) hk (by omega)), e0, pk_sub (by omega)]
theorem reads_skip {k : Nat} (hk : k < 5) (h1 : k ≠ 1) (h2 : k ≠ 2) (tx : Nat → Int32) (ty F U : Int32) (L : Int64) (M a : Int32) : fX10_reads_l107 tx ty F (nI k) U M fuel a L = fX10_reads_b220 a F (nI k) U L M := by
  have e1 : ¬ nI k = (1 : Int32) := fun z => h1 ((nI_eq (a := k) (b := 1) (by omega) (by decide)).mp z)
  have e2 : ¬ nI k = (2 : Int32) := fun z => h2 ((nI_eq (a := k) (b := 2) (by omega) (by decide)).mp z)
  have ef : fuel = 199 + 1 := rfl
  rw [ef, fX10_reads_l107, if_neg e1, ef, fX10_reads_l161, if_neg e2]
theorem next_both (hX : TX c n cs tx) {e0 : Nat} (he : e0 ≤ n) (K S F T U : Int32) (L0 : Int64) (M0 : Int32) : ∃ k s e L M, fX8_nextToken cs (nI n) K S (nI e0) = some (nI k, nI s, nI e) ∧ fX10_reads tx (nI n) (nI e0) F T U L0 M0 = some (nI e, nI s, nI k, nI (e - s), L, M) ∧ TK c n k s e L M ∧ e0 ≤ s := by
  have hn := hX.1
  unfold fX8_nextToken fX10_reads
  -- behind the blanks
  have tok : ∀ s, s ≤ n → ¬ (s < n ∧ c s = 32) → ∃ k e L M, fX8_nextToken_b45 cs (nI n) K (nI s) (nI e0) = some (nI k, nI s, nI e) ∧ (if nI s = nI n then (fX10_reads_l107 tx (nI n) (nI s) 0 U 0 fuel (nI s) (0 : Int64)) else ((fX10_isHere 97 122 tx (nI n) (nI s)).bind (fun o11 => if (b2i o11) = 0 then ((fX10_isHere 48 57 tx (nI n) (nI s)).bind (fun o13 => if (b2i o13) = 0 then ((fX10_isHere 59 59 tx (nI n) (nI s)).bind (fun o15 => if (b2i o15) = 0 then (fX10_reads_l107 tx (nI n) (nI s) 4 U 0 fuel (nI s) (0 : Int64)) else (fX10_reads_l107 tx (nI n) (nI s) 3 U 0 fuel (nI s) (0 : Int64)))) else (fX10_reads_l107 tx (nI n) (nI s) 2 U 0 fuel (nI s) (0 : Int64)))) else (fX10_reads_l107 tx (nI n) (nI s) 1 U 0 fuel (nI s) (0 : Int64))))) = some (nI e, nI s, nI k, nI (e - s), L, M) ∧ TK c n k s e L M := by
    intro s hs hb
    unfold fX8_nextToken_b45
    rw [kindAt_eq hX hs, bd_s, hereW hX hs, bd_s, hereN hX hs, bd_s, hereS hX hs, bd_s, if_b, if_b, if_b]
    have hk := kd_le c n s
    have i1 : nI (kd c n s) = (1 : Int32) ↔ kd c n s = 1 := nI_eq (b := 1) (by omega) (by decide)
    have i2 : nI (kd c n s) = (2 : Int32) ↔ kd c n s = 2 := nI_eq (b := 2) (by omega) (by decide)
    have i0 : nI (kd c n s) = (0 : Int32) ↔ kd c n s = 0 := nI_eq (b := 0) (by omega) (by decide)
    by_cases q0 : kd c n s = 0
    · have hsn : s = n := by have := kd_0.mp q0; omega
      rw [if_neg (fun z => by have := i1.mp z; omega), if_neg (fun z => by have := i2.mp z; omega), if_pos (i0.mpr q0), if_pos (by rw [hsn])]
      have e1 : fX10_reads_l107 tx (nI n) (nI s) 0 U 0 fuel (nI s) (0 : Int64) = fX10_reads_b220 (nI s) (nI s) (nI 0) U 0 0 := reads_skip (k := 0) (by decide) (by decide) (by decide) _ _ _ _ _ _ _
      rw [e1, reads_low (by decide) (Nat.le_refl s), q0]
      exact ⟨0, s, 0, 0, rfl, rfl, Nat.le_refl s, hs, by decide, fun z => absurd rfl z, fun z => absurd z (by decide), fun z => absurd z (by decide)⟩
    · have hsn : s < n := by
        rcases Nat.lt_or_ge s n with w | w
        · exact w
        · exact absurd (show kd c n s = 0 from kd_0.mpr w) q0
      rw [if_neg (show ¬ nI s = nI n from fun z => by have := (nI_eq (by omega) (by omega)).mp z; omega)]
      by_cases q1 : kd c n s = 1
      · rw [if_pos (i1.mpr q1), if_pos (decide_eq_true q1), q1]
        obtain ⟨e', L', g1, g2, g3, g4, g5, g6⟩ := run_word hX (s := s) U 0 fuel s 0 (Nat.le_refl s) hs (by have : fuel = 200 := rfl; omega) (fun _ => by rw [Nat.sub_self]; rfl)
        have e2 : fX10_reads_l161 tx (nI n) (nI s) 1 U L' fuel (nI e') 0 = fX10_reads_b220 (nI e') (nI s) (nI 1) U L' 0 := by
          have ef : fuel = 199 + 1 := rfl
          rw [ef, fX10_reads_l161, if_neg (show ¬ (1 : Int32) = 2 by decide)]
          rfl
        change ∃ k e L M, fX8_nextToken_l81 cs (nI n) 1 (nI s) fuel (nI s) = _ ∧ _
        rw [g4, g5, e2, reads_low (by decide) g1]
        have := g3 q1
        exact ⟨1, e', L', 0, rfl, rfl, g1, g2, by decide, fun _ => this, fun _ => g6, fun z => absurd z (by decide)⟩
      · rw [if_neg (fun z => q1 (i1.mp z)), if_neg (fun z => q1 (of_decide_eq_true z))]
        by_cases q2 : kd c n s = 2
        · rw [if_pos (i2.mpr q2), if_pos (decide_eq_true q2), q2]
          obtain ⟨e', M', g1, g2, g3, g4, g5, g6, g7⟩ := run_num hX (s := s) U 0 fuel s 0 (Nat.le_refl s) hs (by have : fuel = 200 := rfl; omega) (fun i w1 w2 => by omega) (fun _ => by rw [Nat.sub_self]; rfl)
          have e2 : fX10_reads_l107 tx (nI n) (nI s) 2 U 0 fuel (nI s) (0 : Int64) = fX10_reads_l161 tx (nI n) (nI s) 2 U 0 fuel (nI s) 0 := by
            show fX10_reads_l107 tx (nI n) (nI s) 2 U 0 (199 + 1) (nI s) (0 : Int64) = _
            rw [fX10_reads_l107, if_neg (show ¬ (2 : Int32) = 1 by decide)]
          have e3 : fX10_reads_b220 (nI e') (nI s) 2 U 0 M' = some (nI e', nI s, nI 2, nI (e' - s), 0, M') := reads_low (k := 2) (by decide) g1 _ _ _
          change ∃ k e L M, fX8_nextToken_l81 cs (nI n) 2 (nI s) fuel (nI s) = _ ∧ _
          rw [g4, e2, g5, e3]
          have := g3 q2
          exact ⟨2, e', 0, M', rfl, rfl, g1, g2, by decide, fun _ => this, fun z => absurd z (by decide), fun _ => ⟨g6, g7⟩⟩
        · rw [if_neg (fun z => q2 (i2.mp z)), if_neg (fun z => q2 (of_decide_eq_true z)), if_neg (fun z => q0 (i0.mp z)), nI_1]
          by_cases q3 : kd c n s = 3
          · have e1 : fX10_reads_l107 tx (nI n) (nI s) 3 U 0 fuel (nI s) (0 : Int64) = fX10_reads_b220 (nI s) (nI s) (nI 3) U 0 0 := reads_skip (k := 3) (by decide) (by decide) (by decide) _ _ _ _ _ _ _
            rw [if_pos (decide_eq_true q3), e1, reads_high (by decide) (by decide) (Nat.le_refl s), q3]
            exact ⟨3, s + 1, 0, 0, rfl, rfl, by omega, by omega, by decide, fun _ => by omega, fun z => absurd z (by decide), fun z => absurd z (by decide)⟩
          · have q4 : kd c n s = 4 := by omega
            have e1 : fX10_reads_l107 tx (nI n) (nI s) 4 U 0 fuel (nI s) (0 : Int64) = fX10_reads_b220 (nI s) (nI s) (nI 4) U 0 0 := reads_skip (k := 4) (by decide) (by decide) (by decide) _ _ _ _ _ _ _
            rw [if_neg (fun z => q3 (of_decide_eq_true z)), e1, reads_high (by decide) (by decide) (Nat.le_refl s), q4]
            exact ⟨4, s + 1, 0, 0, rfl, rfl, by omega, by omega, by decide, fun _ => by omega, fun z => absurd z (by decide), fun z => absurd z (by decide)⟩
  have key : ∀ (f s : Nat), e0 ≤ s → s ≤ n → n < f + s → ∃ k s' e L M, fX8_nextToken_l8 cs (nI n) K (nI e0) f (nI s) = some (nI k, nI s', nI e) ∧ fX10_reads_l0 tx (nI n) F T U L0 M0 f (nI s) = some (nI e, nI s', nI k, nI (e - s'), L, M) ∧ TK c n k s' e L M ∧ e0 ≤ s' := by
    intro f
    induction f with
    | zero => intro s h1 h2 h3; omega
    | succ f ih =>
      intro s h1 h2 h3
      rw [fX8_nextToken_l8, fX10_reads_l0, hereB hX h2, bd_s, if_b, nI_1]
      by_cases z : s < n ∧ c s = 32
      · rw [if_neg (nI_ge z.1 (by omega)), charAt_eq hX z.1, bd_s, if_pos (show nI (c s) = (32 : Int32) by rw [z.2]; rfl), if_pos (decide_eq_true z)]
        exact ih (s + 1) (by omega) (by omega) (by omega)
      · obtain ⟨k, e, L, M, t1, t2, t3⟩ := tok s h2 z
        rw [if_neg (show ¬ decide (s < n ∧ c s = 32) = true from fun w => z (of_decide_eq_true w)), t2]
        have e1 : (if nI n ≤ nI s then fX8_nextToken_b45 cs (nI n) K (nI s) (nI e0) else (fX8_characterAt (nI s) cs (nI n)).bind (fun o9 => if o9 = 32 then fX8_nextToken_l8 cs (nI n) K (nI e0) f (nI (s + 1)) else fX8_nextToken_b45 cs (nI n) K (nI s) (nI e0))) = fX8_nextToken_b45 cs (nI n) K (nI s) (nI e0) := by
          rcases Nat.lt_or_ge s n with w | w
          · have hc := (hX.2 s w).1
            rw [if_neg (nI_ge w (by omega)), charAt_eq hX w, bd_s, if_neg (show ¬ nI (c s) = (32 : Int32) from fun y => z ⟨w, (nI_eq (a := c s) (b := 32) (by omega) (by decide)).mp y⟩)]
          · rw [if_pos (nI_le w (by omega))]
        rw [e1, t1]
        exact ⟨k, s, e, L, M, rfl, rfl, t3, h1⟩
  exact key fuel e0 (Nat.le_refl _) he (by have : fuel = 200 := rfl; omega)
end TOK
