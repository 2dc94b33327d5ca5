/-! ===== base of the pure side ===== -/
theorem b2i_eq0 (b : Bool) : (b2i b = 0) = (b = false) := by cases b <;> simp [b2i]
theorem b2i_t : b2i true = 1 := rfl
theorem b2i_f : b2i false = 0 := rfl
theorem b2i_inj {a b : Bool} (h : b2i a = b2i b) : a = b := by cases a <;> cases b <;> first | rfl | (exact absurd h (by decide))
theorem if_b {α : Type} (b : Bool) (x y : α) : (if b2i b = 0 then x else y) = (if b = true then y else x) := by cases b <;> rfl
theorem bd_s {α β : Type} (a : α) (f : α → Option β) : (some a).bind f = f a := rfl
theorem inb_t {i n : Nat} (h : i < n) (hn : n < 2 ^ 31) : inb (nI i) n = true := by
  unfold inb
  rw [if_neg (nI_pos (by omega)), nI_clamp (by omega)]
  exact decide_eq_true h
theorem nz_t {d : Nat} (h : 0 < d) (hd : d < 2 ^ 31) : nz (nI d) = true := decide_eq_true (nI_ne0 h hd)
/-- x is one of 0 .. n - 1 -/
def ndx (n : Nat) (x : Int32) : Bool := decide (0 ≤ x.toInt ∧ x.toInt < (n : Int))
theorem ndx_of {n : Nat} {x : Int32} (h : ndx n x = true) (hn : n < 2 ^ 31) : ∃ j, j < n ∧ x = nI j := vp_in_of (vp_in_iff.mpr (of_decide_eq_true h)) hn
theorem ndx_t {n j : Nat} (h : j < n) (hn : n < 2 ^ 31) : ndx n (nI j) = true := decide_eq_true (by rw [nI_toInt (by omega)]; omega)
theorem in_ndx {n : Nat} (x : Int32) (hn : n < 1000) : fX10_in x (0 : Int32) (nI n - (1 : Int32)) = ndx n x := by
  have e : (nI n - (1 : Int32)).toInt = (n : Int) - 1 := pk_sub_toInt (b := 1) (by omega) (by decide)
  have e0 : (0 : Int32).toInt = 0 := rfl
  unfold fX10_in ndx
  by_cases h0 : x < 0
  · rw [if_pos h0]
    rw [fa_lt, e0] at h0
    exact (decide_eq_false (by omega)).symm
  · rw [if_neg h0]
    rw [fa_lt, e0] at h0
    by_cases h1 : nI n - (1 : Int32) < x
    · rw [if_pos h1]
      rw [fa_lt, e] at h1
      exact (decide_eq_false (by omega)).symm
    · rw [if_neg h1]
      rw [fa_lt, e] at h1
      exact (decide_eq_true (by omega)).symm
theorem has_ndx {n : Nat} (x : Int32) (hn : n < 1000) : fX7_hasNode x (nI n) = ndx n x := by
  have e : (nI n).toInt = (n : Int) := nI_toInt (by omega)
  have e0 : (0 : Int32).toInt = 0 := rfl
  unfold fX7_hasNode ndx
  by_cases h0 : x < 0
  · rw [if_pos h0]
    rw [fa_lt, e0] at h0
    exact (decide_eq_false (by omega)).symm
  · rw [if_neg h0]
    rw [fa_lt, e0] at h0
    by_cases h1 : nI n ≤ x
    · rw [if_pos h1]
      rw [fa_le, e] at h1
      exact (decide_eq_false (by omega)).symm
    · rw [if_neg h1]
      rw [fa_le, e] at h1
      exact (decide_eq_true (by omega)).symm
theorem hasR_ndx {n : Nat} (x : Int32) (hn : n < 1000) : fX7_hasRound x (nI n) = ndx n x := has_ndx x hn
theorem in_rng {a b : Nat} (x : Int32) (hb : b < 1000) (ha : a < 1000) : fX10_in x (nI a) (nI b) = decide ((a : Int) ≤ x.toInt ∧ x.toInt ≤ (b : Int)) := by
  unfold fX10_in
  by_cases h0 : x < nI a
  · rw [if_pos h0]
    rw [fa_lt, nI_toInt (by omega)] at h0
    exact (decide_eq_false (by omega)).symm
  · rw [if_neg h0]
    rw [fa_lt, nI_toInt (by omega)] at h0
    by_cases h1 : nI b < x
    · rw [if_pos h1]
      rw [fa_lt, nI_toInt (by omega)] at h1
      exact (decide_eq_false (by omega)).symm
    · rw [if_neg h1]
      rw [fa_lt, nI_toInt (by omega)] at h1
      exact (decide_eq_true (by omega)).symm
/-- an int between two numbers is a number -/
theorem rng_of {x : Int32} {a b : Nat} (h1 : (a : Int) ≤ x.toInt) (h2 : x.toInt ≤ (b : Int)) (hb : b < 1000) : ∃ j, a ≤ j ∧ j ≤ b ∧ x = nI j := by
  obtain ⟨j, hj, e⟩ := vp_in_of (x := x) (n := b + 1) (vp_in_iff.mpr ⟨by omega, by omega⟩) (by omega)
  subst e
  rw [nI_toInt (by omega)] at h1
  exact ⟨j, by omega, by omega, rfl⟩
/-- a counted loop with an invariant -/
theorem cinv {σ β : Type} (F : Nat → Nat → σ → Option β) (N : Nat) (I : Nat → σ → Prop) (K : σ → Option β)
    (h0 : ∀ n i s, i < N → I i s → ∃ s', I (i + 1) s' ∧ F (n + 1) i s = F n (i + 1) s')
    (h1 : ∀ n s, I N s → F (n + 1) N s = K s) :
    ∀ n i s, i ≤ N → N < n + i → I i s → ∃ s', I N s' ∧ F n i s = K s' := by
  intro n
  induction n with
  | zero => intro i s hi hn; omega
  | succ n ih =>
    intro i s hi hn hI
    rcases Nat.lt_or_ge i N with h | h
    · obtain ⟨s', hI', e⟩ := h0 n i s h hI
      rw [e]
      exact ih (i + 1) s' h (by omega) hI'
    · have e : i = N := by omega
      subst e
      exact ⟨s, hI, h1 n s hI⟩
/-- a row written from place a on by g (i), i from i0 to N - 1 -/
theorem lput {β : Type} (F : Nat → Nat → (Nat → Int32) → Option β) (N a : Nat) (g : Nat → Int32) (K : (Nat → Int32) → Option β)
    (h0 : ∀ n i f, i < N → F (n + 1) i f = F n (i + 1) (upd f (a + i) (g i)))
    (h1 : ∀ n f, F (n + 1) N f = K f) :
    ∀ n f, N < n → F n 0 f = K (fb_put f g a N) := by
  intro n f hn
  obtain ⟨s', hs, e⟩ := cinv F N (fun i s => s = fb_put f g a i) K (fun n i s hi hs => ⟨_, by rw [hs, fb_put_succ], h0 n i s hi⟩) (fun n s _ => h1 n s) n 0 f (Nat.zero_le _) (by omega) (fb_put_0 f g a).symm
  rw [e, hs]
theorem upd_same (f : Nat → Int32) (k : Nat) (x : Int32) : upd f k x k = x := pk_us
theorem upd_ne (f : Nat → Int32) {k j : Nat} (x : Int32) (h : j ≠ k) : upd f k x j = f j := pk_un h
/-! ===== rows that are begun, held, restored ===== -/
theorem begins_eq (x : Int32) (t : Nat → Int32) : fX10_begins x t = some (fb_put (upd (upd t 0 x) 1 0) nI 18 8) := by
  unfold fX10_begins
  refine lput (fun n i f => fX10_begins_l16 n (nI i) f) 8 18 nI some (fun n i f hi => ?_) (fun n f => ?_) fuel _ (by decide)
  · show fX10_begins_l16 (n + 1) (nI i) f = _
    rw [fX10_begins_l16, if_neg (show ¬ (8 : Int32) ≤ nI i from nI_ge (b := 8) hi (by decide))]
    have e : (18 : Int32) + nI i = nI (18 + i) := nI_add 18 i
    rw [e, ck_t (inb_t (by omega) (by decide)), nI_clamp (by omega)]
    show fX10_begins_l16 n (nI i + 1) _ = _
    rw [nI_1]
  · show fX10_begins_l16 (n + 1) (nI 8) f = _
    rw [fX10_begins_l16, if_pos (show (8 : Int32) ≤ nI 8 by decide)]
theorem hold_eq (t a : Nat → Int32) : fX10_hold t a = some (fb_put a t 0 26) := by
  unfold fX10_hold
  refine lput (fun n i f => fX10_hold_l2 t n (nI i) f) 26 0 t some (fun n i f hi => ?_) (fun n f => ?_) fuel _ (by decide)
  · show fX10_hold_l2 t (n + 1) (nI i) f = _
    rw [fX10_hold_l2, if_neg (show ¬ (26 : Int32) ≤ nI i from nI_ge (b := 26) hi (by decide)), ck_t (inb_t hi (by decide)), ck_t (inb_t hi (by decide)), nI_clamp (by omega), nI_1, Nat.zero_add]
  · show fX10_hold_l2 t (n + 1) (nI 26) f = _
    rw [fX10_hold_l2, if_pos (show (26 : Int32) ≤ nI 26 by decide)]
theorem restore_eq (t a : Nat → Int32) : fX10_restore t a = some (fb_put t a 0 26) := by
  unfold fX10_restore
  refine lput (fun n i f => fX10_restore_l2 a n (nI i) f) 26 0 a some (fun n i f hi => ?_) (fun n f => ?_) fuel _ (by decide)
  · show fX10_restore_l2 a (n + 1) (nI i) f = _
    rw [fX10_restore_l2, if_neg (show ¬ (26 : Int32) ≤ nI i from nI_ge (b := 26) hi (by decide)), ck_t (inb_t hi (by decide)), ck_t (inb_t hi (by decide)), nI_clamp (by omega), nI_1, Nat.zero_add]
  · show fX10_restore_l2 a (n + 1) (nI 26) f = _
    rw [fX10_restore_l2, if_pos (show (26 : Int32) ≤ nI 26 by decide)]
theorem beginAnew_eq (x : Int32) (v : Nat → Int32) (n r : Int32) : fX7_beginAnew x v n r = some (fb_put v nI 0 8, x, 0) := by
  unfold fX7_beginAnew
  refine lput (fun n i f => fX7_beginAnew_l12 x 0 n (nI i) f) 8 0 nI (fun f => some (f, x, 0)) (fun n i f hi => ?_) (fun n f => ?_) fuel _ (by decide)
  · show fX7_beginAnew_l12 x 0 (n + 1) (nI i) f = _
    rw [fX7_beginAnew_l12, if_neg (show ¬ (8 : Int32) ≤ nI i from nI_ge (b := 8) hi (by decide)), ck_t (inb_t hi (by decide)), nI_clamp (by omega), nI_1, Nat.zero_add]
  · show fX7_beginAnew_l12 x 0 (n + 1) (nI 8) f = _
    rw [fX7_beginAnew_l12, if_pos (show (8 : Int32) ≤ nI 8 by decide)]
theorem become_eq (re va : Nat → Int32) (n r : Int32) (re2 va2 : Nat → Int32) (n2 r2 : Int32) : fX7_become re va n r re2 va2 n2 r2 = some (fb_put re re2 0 16, fb_put va va2 0 8, n2, r2) := by
  unfold fX7_become
  have h2 : ∀ R : Nat → Int32, fX7_become_l44 R n2 r2 va2 fuel 0 va = some (R, fb_put va va2 0 8, n2, r2) := by
    intro R
    refine lput (fun n i f => fX7_become_l44 R n2 r2 va2 n (nI i) f) 8 0 va2 (fun f => some (R, f, n2, r2)) (fun n i f hi => ?_) (fun n f => ?_) fuel _ (by decide)
    · show fX7_become_l44 R n2 r2 va2 (n + 1) (nI i) f = _
      rw [fX7_become_l44, if_neg (show ¬ (8 : Int32) ≤ nI i from nI_ge (b := 8) hi (by decide)), ck_t (inb_t hi (by decide)), ck_t (inb_t hi (by decide)), nI_clamp (by omega), nI_1, Nat.zero_add]
    · show fX7_become_l44 R n2 r2 va2 (n + 1) (nI 8) f = _
      rw [fX7_become_l44, if_pos (show (8 : Int32) ≤ nI 8 by decide)]
  refine (lput (fun n i f => fX7_become_l18 va n2 r2 re2 va2 n (nI i) f) 16 0 re2 (fun f => some (f, fb_put va va2 0 8, n2, r2)) (fun n i f hi => ?_) (fun n f => ?_) fuel _ (by decide))
  · show fX7_become_l18 va n2 r2 re2 va2 (n + 1) (nI i) f = _
    rw [fX7_become_l18, if_neg (show ¬ (16 : Int32) ≤ nI i from nI_ge (b := 16) hi (by decide)), ck_t (inb_t hi (by decide)), ck_t (inb_t hi (by decide)), nI_clamp (by omega), nI_1, Nat.zero_add]
  · show fX7_become_l18 va n2 r2 re2 va2 (n + 1) (nI 16) f = _
    rw [fX7_become_l18, if_pos (show (16 : Int32) ≤ nI 16 by decide)]
    exact h2 f
