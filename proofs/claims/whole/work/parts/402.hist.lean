/-! ===== schedules of both sides; saved states ===== -/
def E28 (e : Int32) : Prop := ∀ k, 28 ≤ k → bt e k = false
def SRn (N r : Nat) (re va : Nat → Int32) (no ro : Int32) (t : Nat → Int32) : Prop := 2 ≤ N ∧ N ≤ 8 ∧ r ≤ 16 ∧ no = nI N ∧ ro = nI r ∧ t 0 = nI N ∧ t 1 = nI r ∧ (∀ i, i < r → re i = t (2 + i) ∧ E28 (re i)) ∧ (∀ i, i < 8 → va i = t (18 + i) ∧ ∃ v, v < 100 ∧ va i = nI v)
def SR (re va : Nat → Int32) (no ro : Int32) (t : Nat → Int32) : Prop := ∃ N r, SRn N r re va no ro t
def HR (size : Int32) (re va : Nat → Nat → Int32) (no ro : Nat → Int32) (P : Nat → Int32) (p : Int32) : Prop := ∃ k, k ≤ 6 ∧ size = nI k ∧ p = nI k ∧ ∀ j, j < k → SR (re j) (va j) (no j) (ro j) (fun i => P (26 * j + i))
theorem SR.congr {re va re' va' : Nat → Int32} {no ro : Int32} {t t' : Nat → Int32} (h : SR re va no ro t) (h1 : ∀ i, i < 16 → re' i = re i) (h2 : ∀ i, i < 8 → va' i = va i) (h3 : ∀ i, i < 26 → t' i = t i) : SR re' va' no ro t' := by
  obtain ⟨N, r, a1, a2, a3, a4, a5, a6, a7, a8, a9⟩ := h
  refine ⟨N, r, a1, a2, a3, a4, a5, by rw [h3 0 (by omega)]; exact a6, by rw [h3 1 (by omega)]; exact a7, fun i hi => ?_, fun i hi => ?_⟩
  · rw [h1 i (by omega), h3 (2 + i) (by omega)]
    exact a8 i hi
  · rw [h2 i hi, h3 (18 + i) (by omega)]
    exact a9 i hi
theorem ends51_eq (x : Int32) (P a : Nat → Int32) {k : Nat} (hk : k < 6) : fX10_ends_l51 x a (nI k) fuel 0 P = some (x, fb_put P a (26 * k) 26, nI (k + 1)) := by
  refine lput (fun n i f => fX10_ends_l51 x a (nI k) n (nI i) f) 26 (26 * k) a (fun f => some (x, f, nI (k + 1))) (fun n i f hi => ?_) (fun n f => ?_) fuel _ (by decide)
  · show fX10_ends_l51 x a (nI k) (n + 1) (nI i) f = _
    have e : (26 : Int32) * nI k + nI i = nI (26 * k + i) := by rw [show (26 : Int32) = nI 26 from rfl, pk_mul, nI_add]
    rw [fX10_ends_l51, if_neg (show ¬ (26 : Int32) ≤ nI i from nI_ge (b := 26) hi (by decide)), e, ck_t (inb_t hi (by decide)), ck_t (inb_t (by omega) (by decide)), nI_clamp (by omega), nI_clamp (by omega), nI_1]
  · show fX10_ends_l51 x a (nI k) (n + 1) (nI 26) f = _
    rw [fX10_ends_l51, if_pos (show (26 : Int32) ≤ nI 26 by decide)]
    show some (x, f, nI k + 1) = _
    rw [nI_1]
theorem ends_lt (x : Int32) (P a : Nat → Int32) {k : Nat} (hk : k < 6) : fX10_ends x P a (nI k) = some (x, fb_put P a (26 * k) 26, nI (k + 1)) := by
  unfold fX10_ends
  rw [if_neg (show ¬ nI k = (6 : Int32) from fun e => by have := (nI_eq (a := k) (b := 6) (by omega) (by decide)).mp e; omega)]
  exact ends51_eq x P a hk
theorem ends_6 (x : Int32) (P a : Nat → Int32) : fX10_ends x P a (nI 6) = some (x, fb_put (fb_put P (fun j => P (j + 26)) 0 130) a 130 26, nI 6) := by
  unfold fX10_ends
  rw [if_pos (show nI 6 = (6 : Int32) from rfl)]
  have h0 : ∀ (n i : Nat) (s : Nat → Int32), i < 130 → s = fb_put P (fun j => P (j + 26)) 0 i → ∃ s', s' = fb_put P (fun j => P (j + 26)) 0 (i + 1) ∧ fX10_ends_l11 x a (nI 6) (n + 1) (nI i) s = fX10_ends_l11 x a (nI 6) n (nI (i + 1)) s' := by
    intro n i s hi hs
    refine ⟨upd s i (P (i + 26)), ?_, ?_⟩
    · rw [hs, ← fb_put_succ, Nat.zero_add]
    · have e : nI i + (26 : Int32) = nI (i + 26) := nI_add i 26
      rw [fX10_ends_l11, if_neg (show ¬ (130 : Int32) ≤ nI i from nI_ge (b := 130) hi (by decide)), e, ck_t (inb_t (by omega) (by decide)), ck_t (inb_t (by omega) (by decide)), nI_clamp (by omega), nI_clamp (by omega), nI_1]
      have e2 : s (i + 26) = P (i + 26) := by rw [hs]; exact fb_put_out (Or.inr (by omega))
      rw [e2]
  have h1 : ∀ (n : Nat) (s : Nat → Int32), s = fb_put P (fun j => P (j + 26)) 0 130 → fX10_ends_l11 x a (nI 6) (n + 1) (nI 130) s = fX10_ends_l51 x a (nI 5) fuel 0 s := by
    intro n s _
    rw [fX10_ends_l11, if_pos (show (130 : Int32) ≤ nI 130 by decide)]
    rfl
  obtain ⟨s', hs, e⟩ := cinv (fun n i f => fX10_ends_l11 x a (nI 6) n (nI i) f) 130 (fun i s => s = fb_put P (fun j => P (j + 26)) 0 i) (fun f => fX10_ends_l51 x a (nI 5) fuel 0 f) h0 h1 fuel 0 P (Nat.zero_le _) (by decide) (fb_put_0 _ _ _).symm
  show fX10_ends_l11 x a (nI 6) fuel (nI 0) P = _
  rw [e, hs]
  exact ends51_eq x _ a (k := 5) (by decide)
theorem save_b (k : Nat) (hk : k < 6) (b e v : Nat → Nat) (re va : Nat → Nat → Int32) (no ro : Nat → Int32) (sre sva : Nat → Int32) (sno sro : Int32) :
    fX5_save_b13 (nI k) b e v re va no ro sre sva sno sro = some (nI (k + 1), b, e, v, va_up re k (fb_put (re k) sre 0 16), va_up va k (fb_put (va k) sva 0 8), va_up no k sno, va_up ro k sro) := by
  unfold fX5_save_b13
  rw [ck_t (inb_t hk (by decide)), nI_clamp (by omega), become_eq, bd_s]
  show some (nI k + 1, _) = _
  rw [nI_1]
theorem SR_put {k : Nat} {re va : Nat → Nat → Int32} {no ro : Nat → Int32} {P a : Nat → Int32} {sre sva : Nat → Int32} {sno sro : Int32} {t : Nat → Int32} (hS : SR sre sva sno sro t) (ha : ∀ i, i < 26 → a i = t i) (h : ∀ j, j < k → SR (re j) (va j) (no j) (ro j) (fun i => P (26 * j + i))) :
    ∀ j, j < k + 1 → SR (va_up re k (fb_put (re k) sre 0 16) j) (va_up va k (fb_put (va k) sva 0 8) j) (va_up no k sno j) (va_up ro k sro j) (fun i => fb_put P a (26 * k) 26 (26 * j + i)) := by
  intro j hj
  by_cases e : j = k
  · subst e
    rw [va_up_self, va_up_self, va_up_self, va_up_self]
    refine hS.congr (fun i hi => fb_put_in (Nat.zero_le _) (by omega)) (fun i hi => fb_put_in (Nat.zero_le _) (by omega)) (fun i hi => ?_)
    show fb_put P a (26 * j) 26 (26 * j + i) = t i
    rw [fb_put_in (by omega) (by omega), show 26 * j + i - 26 * j = i by omega, ha i hi]
  · rw [va_up_ne _ _ e, va_up_ne _ _ e, va_up_ne _ _ e, va_up_ne _ _ e]
    refine (h j (by omega)).congr (fun _ _ => rfl) (fun _ _ => rfl) (fun i hi => ?_)
    show fb_put P a (26 * k) 26 (26 * j + i) = P (26 * j + i)
    exact fb_put_out (Or.inl (by omega))
theorem rot_lt {α : Type} (f : Nat → α) {j : Nat} (h : j < 5) : rot f j = f (j + 1) := if_neg (by omega)
/-- a state is saved on both sides -/
theorem save_ends {size : Int32} {b e v : Nat → Nat} {re va : Nat → Nat → Int32} {no ro : Nat → Int32} {P a : Nat → Int32} {p : Int32} {sre sva : Nat → Int32} {sno sro : Int32} {t : Nat → Int32} (hH : HR size re va no ro P p) (hS : SR sre sva sno sro t) (ha : ∀ i, i < 26 → a i = t i) (x : Int32) :
    ∃ oH P' p', fX5_save size b e v re va no ro sre sva sno sro = some oH ∧ fX10_ends x P a p = some (x, P', p') ∧ HR oH.1 oH.2.2.2.2.1 oH.2.2.2.2.2.1 oH.2.2.2.2.2.2.1 oH.2.2.2.2.2.2.2 P' p' := by
  obtain ⟨k, hk, rfl, rfl, h⟩ := hH
  rcases Nat.lt_or_ge k 6 with h6 | h6
  · refine ⟨(nI (k + 1), b, e, v, va_up re k (fb_put (re k) sre 0 16), va_up va k (fb_put (va k) sva 0 8), va_up no k sno, va_up ro k sro), _, _, ?_, ends_lt x P a h6, k + 1, by omega, rfl, rfl, SR_put hS ha h⟩
    unfold fX5_save
    rw [if_pos (show nI k < (6 : Int32) from nI_lt (b := 6) h6 (by decide))]
    exact save_b k h6 b e v re va no ro sre sva sno sro
  · have e6 : k = 6 := by omega
    subst e6
    refine ⟨(nI 6, rot b, rot e, rot v, va_up (rot re) 5 (fb_put (rot re 5) sre 0 16), va_up (rot va) 5 (fb_put (rot va 5) sva 0 8), va_up (rot no) 5 sno, va_up (rot ro) 5 sro), _, _, ?_, ends_6 x P a, 6, by omega, rfl, rfl, SR_put (k := 5) hS ha (fun j hj => ?_)⟩
    · unfold fX5_save
      rw [if_neg (show ¬ nI 6 < (6 : Int32) by decide)]
      exact save_b 5 (by omega) (rot b) (rot e) (rot v) (rot re) (rot va) (rot no) (rot ro) sre sva sno sro
    · rw [rot_lt _ hj, rot_lt _ hj, rot_lt _ hj, rot_lt _ hj]
      refine (h (j + 1) (by omega)).congr (fun _ _ => rfl) (fun _ _ => rfl) (fun i hi => ?_)
      show fb_put P (fun j => P (j + 26)) 0 130 (26 * j + i) = P (26 * (j + 1) + i)
      rw [fb_put_in (by omega) (by omega)]
      show P (26 * j + i - 0 + 26) = _
      rw [show 26 * j + i - 0 + 26 = 26 * (j + 1) + i by omega]
theorem hold_at (t a : Nat → Int32) : ∀ i, i < 26 → fb_put a t 0 26 i = t i := fun i hi => fb_put_in (Nat.zero_le _) (by omega)
theorem fb_at {f g : Nat → Int32} {a n i : Nat} (h : i < n) : fb_put f g a n (a + i) = g i := by
  rw [fb_put_in (by omega) (by omega), show a + i - a = i by omega]
/-- both begin anew with N nodes -/
theorem SR_begin {N : Nat} (h2 : 2 ≤ N) (h8 : N ≤ 8) (re v : Nat → Int32) (t : Nat → Int32) : SR re (fb_put v nI 0 8) (nI N) 0 (fb_put (upd (upd t 0 (nI N)) 1 0) nI 18 8) := by
  refine ⟨N, 0, h2, h8, by omega, rfl, rfl, ?_, ?_, fun i hi => by omega, fun i hi => ⟨?_, i, by omega, ?_⟩⟩
  · rw [fb_put_out (by omega), upd_ne _ _ (by omega), upd_same]
  · rw [fb_put_out (by omega), upd_same]; rfl
  · rw [fb_at hi, fb_put_in (Nat.zero_le _) (by omega)]; rfl
  · rw [fb_put_in (Nat.zero_le _) (by omega)]; rfl
theorem sim_setNodes {sre sva : Nat → Int32} {sno sro : Int32} {t : Nat → Int32} {size : Int32} {b e v : Nat → Nat} {re va : Nat → Nat → Int32} {no ro : Nat → Int32} {P : Nat → Int32} {p : Int32} (hS : SR sre sva sno sro t) (hH : HR size re va no ro P p) (a : Nat → Int32) (x : Int32) :
    ∃ o9 o10, fX9_setNodes x sre sva sno sro size b e v re va no ro = some o9 ∧ fX10_setNodes x t P a p = some o10 ∧ o9.1 = o10.1 ∧ SR sre o9.2.1 o9.2.2.1 o9.2.2.2.1 o10.2.1 ∧ HR o9.2.2.2.2.1 o9.2.2.2.2.2.2.2.2.1 o9.2.2.2.2.2.2.2.2.2.1 o9.2.2.2.2.2.2.2.2.2.2.1 o9.2.2.2.2.2.2.2.2.2.2.2 o10.2.2.1 o10.2.2.2.2 := by
  unfold fX9_setNodes fX10_setNodes
  have e0 : fX10_in x (2 : Int32) (8 : Int32) = decide ((2 : Int) ≤ x.toInt ∧ x.toInt ≤ (8 : Int)) := in_rng (a := 2) (b := 8) x (by omega) (by omega)
  rw [e0, if_b]
  by_cases h1 : (2 : Int) ≤ x.toInt ∧ x.toInt ≤ (8 : Int)
  · obtain ⟨N, hN2, hN8, rfl⟩ := rng_of (a := 2) (b := 8) h1.1 h1.2 (by omega)
    rw [if_pos (decide_eq_true h1), if_neg (show ¬ nI N < (2 : Int32) from nI_nlt (b := 2) hN2 (by omega)), if_pos (show nI N ≤ (8 : Int32) from nI_le (b := 8) hN8 (by decide)), hold_eq, begins_eq, beginAnew_eq]
    simp only [bd_s]
    obtain ⟨oH, P', p', q1, q2, q3⟩ := save_ends (b := b) (e := e) (v := v) hH hS (hold_at t a) (t 0)
    rw [q1, q2]
    simp only [bd_s]
    refine ⟨_, _, rfl, rfl, ?_, SR_begin hN2 hN8 sre sva t, q3⟩
    obtain ⟨N', r', a1, a2, a3, a4, a5, a6, a7, a8, a9⟩ := hS
    show fX7_nodes sno = t 0
    unfold fX7_nodes
    rw [a4, a6]
  · rw [if_neg (show ¬ decide ((2 : Int) ≤ x.toInt ∧ x.toInt ≤ (8 : Int)) = true from fun h => h1 (of_decide_eq_true h))]
    by_cases h2 : x < (2 : Int32)
    · rw [if_pos h2]
      exact ⟨_, _, rfl, rfl, rfl, hS, hH⟩
    · have h3 : ¬ x ≤ (8 : Int32) := fun h => h1 ⟨by rw [fa_lt] at h2; have : (2 : Int32).toInt = 2 := rfl; omega, by rw [fa_le] at h; exact h⟩
      rw [if_neg h2, if_neg h3]
      exact ⟨_, _, rfl, rfl, rfl, hS, hH⟩
theorem sim_undo {sre sva : Nat → Int32} {sno sro : Int32} {t : Nat → Int32} {size : Int32} {b e v : Nat → Nat} {re va : Nat → Nat → Int32} {no ro : Nat → Int32} {P : Nat → Int32} {p : Int32} (hS : SR sre sva sno sro t) (hH : HR size re va no ro P p) :
    ∃ o9 o10, fX9_undo sre sva sno sro size b e v re va no ro = some o9 ∧ fX10_undo t P p = some o10 ∧ o9.1 = o10.1 ∧ SR o9.2.1 o9.2.2.1 o9.2.2.2.1 o9.2.2.2.2.1 o10.2.1 ∧ HR o9.2.2.2.2.2 re va no ro P o10.2.2 := by
  obtain ⟨k, hk, rfl, rfl, h⟩ := id hH
  unfold fX9_undo fX10_undo fX5_size
  cases k with
  | zero =>
    rw [if_pos (show nI 0 = 0 from rfl), if_pos (show nI 0 = 0 from rfl)]
    exact ⟨_, _, rfl, rfl, rfl, hS, hH⟩
  | succ k =>
    have hne : ¬ nI (k + 1) = 0 := nI_ne0 (by omega) (by omega)
    have e1 : nI (k + 1) - (1 : Int32) = nI k := nI_pred k
    rw [if_neg hne, if_neg hne, e1]
    unfold fX5_restore
    rw [if_neg (show ¬ nI (k + 1) ≤ 0 from nI_nle (by omega) (by omega)), e1, ck_t (inb_t (by omega) (by decide)), nI_clamp (by omega), become_eq]
    simp only [bd_s]
    have e2 : fX10_undo_l22 P (nI k) fuel 0 t = some (nI k, fb_put t (fun i => P (26 * k + i)) 0 26, nI k) := by
      refine lput (fun n i f => fX10_undo_l22 P (nI k) n (nI i) f) 26 0 (fun i => P (26 * k + i)) (fun f => some (nI k, f, nI k)) (fun n i f hi => ?_) (fun n f => ?_) fuel _ (by decide)
      · show fX10_undo_l22 P (nI k) (n + 1) (nI i) f = _
        have e : (26 : Int32) * nI k + nI i = nI (26 * k + i) := by rw [show (26 : Int32) = nI 26 from rfl, pk_mul, nI_add]
        rw [fX10_undo_l22, if_neg (show ¬ (26 : Int32) ≤ nI i from nI_ge (b := 26) hi (by decide)), e, ck_t (inb_t (by omega) (by decide)), ck_t (inb_t hi (by decide)), nI_clamp (by omega), nI_clamp (by omega), nI_1, Nat.zero_add]
      · show fX10_undo_l22 P (nI k) (n + 1) (nI 26) f = _
        rw [fX10_undo_l22, if_pos (show (26 : Int32) ≤ nI 26 by decide)]
    rw [e2]
    refine ⟨_, _, rfl, rfl, rfl, ?_, k, by omega, rfl, rfl, fun j hj => h j (by omega)⟩
    exact (h k (by omega)).congr (fun i hi => fb_put_in (Nat.zero_le _) (by omega)) (fun i hi => fb_put_in (Nat.zero_le _) (by omega)) (fun i hi => by
      show fb_put t (fun i => P (26 * k + i)) 0 26 i = P (26 * k + i)
      rw [fb_put_in (Nat.zero_le _) (by omega)]
      rfl)
