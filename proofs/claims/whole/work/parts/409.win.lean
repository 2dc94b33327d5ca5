/-! ===== windows ===== -/
def sty (re : Nat → Int32) (f l : Nat) : Int32 := itr (fun k R => R &&& re (f + k)) 0 l 268435455
theorem E28_ones : E28 268435455 := fun k hk => by
  rcases Nat.lt_or_ge k 32 with h | h
  · exact (by decide +kernel : ∀ k, k < 32 → 28 ≤ k → bt 268435455 k = false) k h hk
  · exact b_big h
theorem ones_bit : ∀ k, k < 28 → bt 268435455 k = true := by decide +kernel
theorem ones_and {e : Int32} (h : E28 e) : (268435455 : Int32) &&& e = e := b_ext fun k hk => by
  rw [b_and]
  rcases Nat.lt_or_ge k 28 with q | q
  · rw [ones_bit k q, Bool.true_and]
  · rw [h k q, Bool.and_false]
theorem sty_E28 (re : Nat → Int32) (f l : Nat) : E28 (sty re f l) := by
  have := itr_inv (fun k R => R &&& re (f + k)) (fun _ R => E28 R) l (fun i s _ hI => E28.and hI) l 0 268435455 (by omega) E28_ones
  exact this
theorem stay_eq {N r : Nat} {re va : Nat → Int32} {no ro : Int32} {t : Nat → Int32} (h : SRn N r re va no ro t) {f l : Nat} (hf : f + l ≤ r) : fX10_stay (nI f) (nI l) t = some (sty re f l) := by
  obtain ⟨a1, a2, a3, a4, a5, a6, a7, a8, a9⟩ := id h
  unfold fX10_stay
  have := cdet (fun n k R => fX10_stay_l6 (nI f) (nI l) t n R (nI k)) l (fun k R => R &&& re (f + k)) some (fun n k R hk => ?_) (fun n R => ?_) fuel 0 268435455 (Nat.zero_le _) (by have : fuel = 200 := rfl; omega)
  · exact this
  · show fX10_stay_l6 (nI f) (nI l) t (n + 1) R (nI k) = _
    have e1 : (2 : Int32) + nI f + nI k = nI (2 + (f + k)) := by rw [show (2 : Int32) = nI 2 from rfl, nI_add, nI_add, Nat.add_assoc]
    rw [fX10_stay_l6, if_neg (nI_ge hk (by omega)), e1, ck_t (inb_t (by omega) (by decide)), nI_clamp (by omega), nI_1, (a8 (f + k) (by omega)).1]
  · show fX10_stay_l6 (nI f) (nI l) t (n + 1) R (nI l) = _
    rw [fX10_stay_l6, if_pos (nI_le (Nat.le_refl l) (by omega))]
theorem that_eq {N r : Nat} {re va : Nat → Int32} {no ro : Int32} {t : Nat → Int32} (h : SRn N r re va no ro t) {f l : Nat} (hl : 1 ≤ l) (hf : f + l ≤ r) : fX7_edgesThatStay (nI f) (nI l) re ro = some (sty re f l) := by
  obtain ⟨a1, a2, a3, a4, a5, a6, a7, a8, a9⟩ := id h
  unfold fX7_edgesThatStay
  rw [edgesOf_eq h (by omega), bd_s]
  have := cdet (fun n k R => fX7_edgesThatStay_l9 (nI f) (nI l) re ro n R (nI k)) l (fun k R => R &&& re (f + k)) some (fun n k R hk => ?_) (fun n R => ?_) fuel 1 (re f) hl (by have : fuel = 200 := rfl; omega)
  · have e2 : sty re f l = itr (fun k R => R &&& re (f + k)) 1 (l - 1) (re f) := by
      unfold sty
      rw [show l = l - 1 + 1 by omega]
      show itr _ 1 (l - 1) ((268435455 : Int32) &&& re (f + 0)) = itr _ 1 (l - 1 + 1 - 1) (re f)
      rw [Nat.add_zero, ones_and (a8 f (by omega)).2, Nat.add_sub_cancel]
    rw [e2]
    exact this
  · show fX7_edgesThatStay_l9 (nI f) (nI l) re ro (n + 1) R (nI k) = _
    have e1 : nI f + nI k = nI (f + k) := nI_add f k
    rw [fX7_edgesThatStay_l9, if_neg (nI_ge hk (by omega)), e1, edgesOf_eq h (by omega), bd_s, nI_1]
  · show fX7_edgesThatStay_l9 (nI f) (nI l) re ro (n + 1) R (nI l) = _
    rw [fX7_edgesThatStay_l9, if_pos (nI_le (Nat.le_refl l) (by omega))]
theorem oneIf_eq (b : Bool) : fX9_oneIf (b2i b) = b2i b := by cases b <;> rfl
theorem if_some01 (b : Bool) : (if b2i b = 0 then some (0 : Int32) else some (1 : Int32)) = some (b2i b) := by cases b <;> rfl
/-- the schedule is l-stable -/
def stab (re : Nat → Int32) (N r l : Nat) : Bool := itr (fun f b => b && conn (sty re f l) N) 0 (r + 1 - l) true
theorem itr_false (g : Nat → Bool) : ∀ d i, itr (fun f b => b && g f) i d false = false
  | 0, _ => rfl
  | d + 1, i => itr_false g d (i + 1)
theorem areStable_eq {N r : Nat} {re va : Nat → Int32} {no ro : Int32} {t : Nat → Int32} (h : SRn N r re va no ro t) {l : Nat} (h1 : 1 ≤ l) (hl : l ≤ r) : fX10_areStable (nI l) t = some (stab re N r l) := by
  obtain ⟨a1, a2, a3, a4, a5, a6, a7, a8, a9⟩ := id h
  unfold fX10_areStable
  have := cdet (fun n f b => fX10_areStable_l4 (nI l) t n (b2i b) (nI f)) (r + 1 - l) (fun f b => b && conn (sty re f l) N) some (fun n f b hf => ?_) (fun n b => ?_) fuel 0 true (Nat.zero_le _) (by have : fuel = 200 := rfl; omega)
  · exact this
  · show fX10_areStable_l4 (nI l) t (n + 1) (b2i b) (nI f) = _
    have e1 : nI f + nI l = nI (f + l) := nI_add f l
    rw [fX10_areStable_l4, a7, e1, if_neg (nI_nlt (by omega) (by omega)), nI_1]
    cases b
    · rfl
    · rw [if_neg (by decide), stay_eq h (by omega), bd_s, isConnected_eq h, bd_s]
      cases conn (sty re f l) N <;> rfl
  · show fX10_areStable_l4 (nI l) t (n + 1) (b2i b) (nI (r + 1 - l)) = _
    have e1 : nI (r + 1 - l) + nI l = nI (r + 1) := by rw [nI_add]; congr 1; omega
    rw [fX10_areStable_l4, a7, e1, if_pos (nI_lt (by omega) (by omega))]
    cases b <;> rfl
theorem staysConnected_eq {N r : Nat} {re va : Nat → Int32} {no ro : Int32} {t : Nat → Int32} (h : SRn N r re va no ro t) {l : Nat} (h1 : 1 ≤ l) (hl : l ≤ r) : fX7_staysConnected (nI l) re no ro = some (stab re N r l) := by
  obtain ⟨a1, a2, a3, a4, a5, a6, a7, a8, a9⟩ := id h
  unfold fX7_staysConnected
  have key : ∀ (n f : Nat), f ≤ r + 1 - l → r + 1 - l < n + f → fX7_staysConnected_l2 (nI l) re no ro n (nI f) = some (itr (fun f b => b && conn (sty re f l) N) f (r + 1 - l - f) true) := by
    intro n
    induction n with
    | zero => intro f q1 q2; omega
    | succ n ih =>
      intro f q1 q2
      have e1 : nI f + nI l = nI (f + l) := nI_add f l
      rw [fX7_staysConnected_l2, e1, a5]
      rcases Nat.lt_or_ge f (r + 1 - l) with q | q
      · rw [if_neg (nI_nlt (by omega) (by omega)), ← a5, that_eq h h1 (by omega), bd_s, a4, areConnected_eq (by omega) a2, bd_s, ← a4, nI_1]
        rw [show r + 1 - l - f = r + 1 - l - (f + 1) + 1 by omega]
        show _ = some (itr _ (f + 1) (r + 1 - l - (f + 1)) (true && conn (sty re f l) N))
        cases conn (sty re f l) N
        · rw [if_pos b2i_f, Bool.and_false, itr_false]
        · rw [if_neg (by decide), ih (f + 1) (by omega) (by omega), Bool.and_true]
      · have e2 : f = r + 1 - l := by omega
        subst e2
        rw [if_pos (nI_lt (by omega) (by omega)), Nat.sub_self]
        rfl
  exact key fuel 0 (Nat.zero_le _) (by have : fuel = 200 := rfl; omega)
section SIM
variable {sre sva : Nat → Int32} {sno sro : Int32} {t : Nat → Int32}
theorem sim_staying (hS : SR sre sva sno sro t) (x y : Int32) : ∃ o9 o10, fX9_staying x y sre sro = some o9 ∧ fX10_staying x y t = some o10 ∧ o9 = o10 := by
  obtain ⟨N, r, h⟩ := id hS
  obtain ⟨a1, a2, a3, a4, a5, a6, a7, a8, a9⟩ := id h
  unfold fX9_staying fX10_staying fX7_rounds
  rw [hasRound_eq h, isRound_eq h, if_b, if_b]
  by_cases q : ndx r x = true
  · rw [if_pos q, if_pos q]
    obtain ⟨f, hf, rfl⟩ := ndx_of q (by omega)
    have e1 : nI r - nI f = nI (r - f) := pk_sub (by omega)
    rw [a7, e1]
    by_cases q1 : y < (1 : Int32)
    · rw [if_pos q1, if_pos q1]; exact ⟨_, _, rfl, rfl, rfl⟩
    · rw [if_neg q1, if_neg q1]
      have e2 : sro - nI f = nI (r - f) := by rw [a5]; exact e1
      rw [e2]
      by_cases q2 : y ≤ nI (r - f)
      · rw [if_pos q2, if_pos q2]
        have z1 : (1 : Int32).toInt = 1 := rfl
        rw [fa_lt, z1] at q1
        rw [fa_le, nI_toInt (by omega)] at q2
        obtain ⟨l, hl1, hl2, rfl⟩ := rng_of (x := y) (a := 1) (b := r - f) (by omega) q2 (by omega)
        rw [that_eq h hl1 (by omega), stay_eq h (by omega)]
        simp only [bd_s]
        rw [count_eq (sty_E28 sre f l)]
        exact ⟨_, _, rfl, rfl, rfl⟩
      · rw [if_neg q2, if_neg q2]; exact ⟨_, _, rfl, rfl, rfl⟩
  · rw [if_neg q, if_neg q]; exact ⟨_, _, rfl, rfl, rfl⟩
theorem sim_isStable (hS : SR sre sva sno sro t) (x : Int32) : ∃ o9 o10, fX9_isStable x sre sno sro = some o9 ∧ fX10_isStable x t = some o10 ∧ o9 = o10 := by
  obtain ⟨N, r, h⟩ := id hS
  obtain ⟨a1, a2, a3, a4, a5, a6, a7, a8, a9⟩ := id h
  unfold fX9_isStable fX10_isStable fX7_rounds
  have e0 : fX10_in x (1 : Int32) (t 1) = decide ((1 : Int) ≤ x.toInt ∧ x.toInt ≤ (r : Int)) := by rw [a7]; exact in_rng (a := 1) (b := r) x (by omega) (by omega)
  rw [e0, if_b]
  have z1 : (1 : Int32).toInt = 1 := rfl
  by_cases q : (1 : Int) ≤ x.toInt ∧ x.toInt ≤ (r : Int)
  · obtain ⟨l, h1, h2, rfl⟩ := rng_of (a := 1) (b := r) q.1 q.2 (by omega)
    rw [if_pos (decide_eq_true q), if_neg (show ¬ nI l < (1 : Int32) from nI_nlt (b := 1) h1 (by omega)), areStable_eq h h1 h2, staysConnected_eq h h1 h2, a5, if_pos (nI_le h2 (by omega))]
    simp only [bd_s]
    rw [oneIf_eq, if_some01]
    exact ⟨_, _, rfl, rfl, rfl⟩
  · rw [if_neg (show ¬ decide ((1 : Int) ≤ x.toInt ∧ x.toInt ≤ (r : Int)) = true from fun z => q (of_decide_eq_true z))]
    by_cases q1 : x < (1 : Int32)
    · rw [if_pos q1]; exact ⟨_, _, rfl, rfl, rfl⟩
    · have q2 : ¬ x ≤ sro := fun z => q ⟨by rw [fa_lt, z1] at q1; omega, by rw [fa_le, a5, nI_toInt (by omega)] at z; exact z⟩
      rw [if_neg q1, if_neg q2]; exact ⟨_, _, rfl, rfl, rfl⟩
theorem sim_greatestStable (hS : SR sre sva sno sro t) : ∃ o9 o10, fX9_greatestStable sre sno sro = some o9 ∧ fX10_greatestStable t = some o10 ∧ o9 = o10 := by
  obtain ⟨N, r, h⟩ := id hS
  obtain ⟨a1, a2, a3, a4, a5, a6, a7, a8, a9⟩ := id h
  unfold fX9_greatestStable fX10_greatestStable fX7_rounds
  have key : ∀ (n j : Nat), j ≤ r → j < n → ∃ o, fX9_greatestStable_l8 sre sno sro n (nI j) = some o ∧ fX10_greatestStable_l7 t n (nI j) = some o := by
    intro n
    induction n with
    | zero => intro j q1 q2; omega
    | succ n ih =>
      intro j q1 q2
      rw [fX9_greatestStable_l8, fX10_greatestStable_l7]
      cases j with
      | zero => exact ⟨0, rfl, rfl⟩
      | succ j =>
        have e : nI (j + 1) + (-1) = nI j := pk_m1 j
        rw [if_neg (show ¬ nI (j + 1) < (1 : Int32) from nI_nlt (b := 1) (by omega) (by omega)), if_neg (nI_nle (by omega) (by omega)), areStable_eq h (by omega) q1, staysConnected_eq h (by omega) q1, bd_s, bd_s, e]
        cases stab sre N r (j + 1)
        · exact ih j (by omega) (by omega)
        · exact ⟨_, rfl, rfl⟩
  rw [a7, a5]
  obtain ⟨o, q1, q2⟩ := key fuel r (Nat.le_refl _) (by have : fuel = 200 := rfl; omega)
  rw [← a5] at q1 ⊢
  rw [a5] at q1 ⊢
  exact ⟨o, o, q1, q2, rfl⟩
theorem sim_window (hS : SR sre sva sno sro t) (x : Int32) : ∃ o9 o10, fX9_window x sre sno sro = some o9 ∧ fX10_window x t = some o10 ∧ o9 = o10 := by
  obtain ⟨N, r, h⟩ := id hS
  obtain ⟨a1, a2, a3, a4, a5, a6, a7, a8, a9⟩ := id h
  unfold fX9_window fX10_window fX7_longestWindow
  rw [hasRound_eq h, isRound_eq h, if_b, if_b]
  by_cases q : ndx r x = true
  · rw [if_pos q, if_pos q]
    obtain ⟨f, hf, rfl⟩ := ndx_of q (by omega)
    have key : ∀ (n j : Nat), f + j ≤ r → r < n + (f + j) → ∃ o, fX7_longestWindow_l2 (nI f) sre sno sro n (nI j) = some o ∧ fX10_window_l12 (nI f) t n (nI j) = some o := by
      intro n
      induction n with
      | zero => intro j q1 q2; omega
      | succ n ih =>
        intro j q1 q2
        have e1 : nI f + nI j = nI (f + j) := nI_add f j
        rw [fX7_longestWindow_l2, fX10_window_l12, e1, a7]
        rcases Nat.lt_or_ge (f + j) r with z | z
        · have e3 : ¬ sro ≤ nI (f + j) := by rw [a5]; exact nI_ge z (by omega)
          have e4 : nI j + (1 : Int32) = nI (j + 1) := nI_1 j
          rw [if_neg e3, if_neg (nI_ge z (by omega)), e4, that_eq h (by omega) (by omega), stay_eq h (by omega), bd_s, bd_s, isConnected_eq h, bd_s]
          have e5 : fX2_areConnected (sty sre f (j + 1)) sno = some (conn (sty sre f (j + 1)) N) := by rw [a4]; exact areConnected_eq (by omega) a2 _
          rw [e5, bd_s]
          cases conn (sty sre f (j + 1)) N
          · exact ⟨_, rfl, rfl⟩
          · rw [if_neg (by decide), if_neg (by decide)]
            exact ih (j + 1) (by omega) (by omega)
        · have e3 : sro ≤ nI (f + j) := by rw [a5]; exact nI_le z (by omega)
          rw [if_pos e3, if_pos (nI_le z (by omega))]
          exact ⟨_, rfl, rfl⟩
    obtain ⟨o, q1, q2⟩ := key fuel 0 (by omega) (by have : fuel = 200 := rfl; omega)
    have q1' : fX7_longestWindow_l2 (nI f) sre sno sro fuel 0 = some o := q1
    have q2' : fX10_window_l12 (nI f) t fuel 0 = some o := q2
    rw [q1', q2', bd_s]
    exact ⟨_, _, rfl, rfl, rfl⟩
  · rw [if_neg q, if_neg q]; exact ⟨_, _, rfl, rfl, rfl⟩
end SIM
