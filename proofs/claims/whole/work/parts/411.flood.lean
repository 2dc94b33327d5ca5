/-! ===== flooding: one step, many steps ===== -/
def kst (N : Nat) (e : Int32) (K : Nat → Int32) (a : Nat) : Int32 := if a < N then itr (fun b R => if b ≠ a ∧ bt e (pix a b) = true then R ||| K b else R) 0 N (K a) else K a
theorem kst_bits {N : Nat} (hN : N ≤ 8) (e : Int32) (K : Nat → Int32) (a : Nat) {t : Nat} : bt (kst N e K a) t = true ↔ bt (K a) t = true ∨ (a < N ∧ ∃ b, b < N ∧ b ≠ a ∧ adj e a b ∧ bt (K b) t = true) := by
  unfold kst
  by_cases ha : a < N
  · rw [if_pos ha]
    have := itr_inv (fun b R => if b ≠ a ∧ bt e (pix a b) = true then R ||| K b else R) (fun i R => bt R t = true ↔ bt (K a) t = true ∨ ∃ b, b < i ∧ b ≠ a ∧ adj e a b ∧ bt (K b) t = true) N (fun i R hi hI => ?_) N 0 (K a) (by omega) (by simp)
    · rw [Nat.zero_add] at this
      rw [this]
      constructor
      · rintro (q | ⟨b, q1, q2⟩)
        · exact Or.inl q
        · exact Or.inr ⟨ha, b, q1, q2⟩
      · rintro (q | ⟨_, b, q1, q2⟩)
        · exact Or.inl q
        · exact Or.inr ⟨b, q1, q2⟩
    · by_cases hc : i ≠ a ∧ bt e (pix a i) = true
      · show bt (if i ≠ a ∧ bt e (pix a i) = true then R ||| K i else R) t = true ↔ _
        rw [if_pos hc, b_or, Bool.or_eq_true, hI]
        constructor
        · rintro ((q | ⟨b, q1, q2⟩) | q)
          · exact Or.inl q
          · exact Or.inr ⟨b, by omega, q2⟩
          · exact Or.inr ⟨i, by omega, hc.1, hc.2, q⟩
        · rintro (q | ⟨b, q1, q2⟩)
          · exact Or.inl (Or.inl q)
          · by_cases z : b = i
            · subst z; exact Or.inr q2.2.2
            · exact Or.inl (Or.inr ⟨b, by omega, q2⟩)
      · show bt (if i ≠ a ∧ bt e (pix a i) = true then R ||| K i else R) t = true ↔ _
        rw [if_neg hc, hI]
        constructor
        · rintro (q | ⟨b, q1, q2⟩)
          · exact Or.inl q
          · exact Or.inr ⟨b, by omega, q2⟩
        · rintro (q | ⟨b, q1, q2, q3, q4⟩)
          · exact Or.inl q
          · by_cases z : b = i
            · subst z; exact absurd ⟨q2, q3⟩ hc
            · exact Or.inr ⟨b, by omega, q2, q3, q4⟩
  · rw [if_neg ha]
    constructor
    · exact Or.inl
    · rintro (q | ⟨q, _⟩)
      · exact q
      · exact absurd q ha
theorem bt_ext {x y : Int32} (h : ∀ t, t < 32 → (bt x t = true ↔ bt y t = true)) : x = y := b_ext fun t ht => by
  have h1 := h t ht
  cases hx : bt x t <;> cases hy : bt y t <;> simp_all
theorem kst_congr {N : Nat} (hN : N ≤ 8) (e : Int32) {K K' : Nat → Int32} (h : ∀ a, a < 8 → K a = K' a) : ∀ a, a < 8 → kst N e K a = kst N e K' a := by
  intro a ha
  refine bt_ext fun t ht => ?_
  rw [kst_bits hN, kst_bits hN, h a ha]
  constructor
  · rintro (q | ⟨q0, b, q1, q2, q3, q4⟩)
    · exact Or.inl q
    · exact Or.inr ⟨q0, b, q1, q2, q3, by rw [← h b (by omega)]; exact q4⟩
  · rintro (q | ⟨q0, b, q1, q2, q3, q4⟩)
    · exact Or.inl q
    · exact Or.inr ⟨q0, b, q1, q2, q3, by rw [h b (by omega)]; exact q4⟩
/-- the edges of a step -/
def eAt (re : Nat → Int32) (r s : Nat) : Int32 := if r = 0 then 0 else re (s % r)
section FL
variable {N r : Nat} {re va : Nat → Int32} {no ro : Int32} {t : Nat → Int32}
theorem edgesAt_eq (h : SRn N r re va no ro t) {s : Nat} (hs : s < 10000) : fX10_edgesAt (nI s) t = some (eAt re r s) := by
  obtain ⟨a1, a2, a3, a4, a5, a6, a7, a8, a9⟩ := id h
  unfold fX10_edgesAt eAt
  rw [a7]
  by_cases q : r = 0
  · subst q; rw [if_pos (show nI 0 = 0 from rfl), if_pos rfl]
  · have hm : s % r < r := Nat.mod_lt _ (by omega)
    rw [if_neg (nI_ne0 (by omega) (by omega)), if_neg q, ck_t (nz_t (by omega) (by omega)), pk_rem (by omega) (by omega) (by omega)]
    have e1 : (2 : Int32) + nI (s % r) = nI (2 + s % r) := nI_add 2 _
    rw [e1, ck_t (inb_t (by omega) (by decide)), nI_clamp (by omega), (a8 _ hm).1]
theorem edgesAtStep_eq (h : SRn N r re va no ro t) {s : Nat} (hs : s < 10000) : fX7_edgesAtStep (nI s) re ro = some (eAt re r s) := by
  obtain ⟨a1, a2, a3, a4, a5, a6, a7, a8, a9⟩ := id h
  unfold fX7_edgesAtStep eAt
  by_cases q : r = 0
  · have e0 : ro ≤ 0 := by rw [a5, q]; decide
    rw [if_pos e0, if_pos q]
  · have hm : s % r < r := Nat.mod_lt _ (by omega)
    have e0 : ¬ ro ≤ 0 := by rw [a5]; exact nI_nle (by omega) (by omega)
    have e1 : nI s - nI s / ro * ro = nI (s % r) := by rw [a5]; exact pk_rem (by omega) (by omega) (by omega)
    have e2 : nz ro = true := by rw [a5]; exact nz_t (by omega) (by omega)
    have e3 : ¬ nI s < 0 := nI_pos (by omega)
    rw [if_neg e0, if_neg e3, if_neg q, ck_t e2, e1, ck_t (inb_t (by omega) (by decide)), nI_clamp (by omega)]
theorem alone_eq (K : Nat → Int32) : fX10_alone K = some (fb_put K bit 0 8) := by
  unfold fX10_alone
  refine lput (fun n i f => fX10_alone_l2 n (nI i) f) 8 0 bit some (fun n i f hi => ?_) (fun n f => ?_) fuel _ (by decide)
  · show fX10_alone_l2 (n + 1) (nI i) f = _
    rw [fX10_alone_l2, if_neg (show ¬ (8 : Int32) ≤ nI i from nI_ge (b := 8) hi (by decide)), ck_t (inb_t hi (by decide)), nI_clamp (by omega), nI_1, Nat.zero_add]
    rfl
  · show fX10_alone_l2 (n + 1) (nI 8) f = _
    rw [fX10_alone_l2, if_pos (show (8 : Int32) ≤ nI 8 by decide)]
theorem begin_eq (x : Int32) (K : Nat → Int32) (st : Int32) : fX3_begin x K st = some (fb_put K bit 0 8, x) := by
  unfold fX3_begin
  refine lput (fun n i f => fX3_begin_l7 x n (nI i) f) 8 0 bit (fun f => some (f, x)) (fun n i f hi => ?_) (fun n f => ?_) fuel _ (by decide)
  · show fX3_begin_l7 x (n + 1) (nI i) f = _
    rw [fX3_begin_l7, if_neg (show ¬ (8 : Int32) ≤ nI i from nI_ge (b := 8) hi (by decide)), ck_t (inb_t hi (by decide)), nI_clamp (by omega), nI_1, Nat.zero_add, of_eq]
  · show fX3_begin_l7 x (n + 1) (nI 8) f = _
    rw [fX3_begin_l7, if_pos (show (8 : Int32) ≤ nI 8 by decide)]
theorem upd_upd (f : Nat → Int32) (k : Nat) (x y : Int32) : upd (upd f k x) k y = upd f k y := funext fun j => by
  by_cases q : j = k
  · subst q; rw [upd_same, upd_same]
  · rw [upd_ne _ _ q, upd_ne _ _ q, upd_ne _ _ q]
theorem or_zero32 (x : Int32) : x ||| 0 = x := b_ext fun i _ => by rw [b_or, b_0, Bool.or_false]
theorem spreads_eq (h : SRn N r re va no ro t) {s : Nat} (hs : s < 10000) (K Th : Nat → Int32) : ∃ K' Th', fX10_spreads (nI s) t K Th = some (K', Th') ∧ ∀ a, a < 8 → K' a = kst N (eAt re r s) K a := by
  obtain ⟨a1, a2, a3, a4, a5, a6, a7, a8, a9⟩ := id h
  unfold fX10_spreads
  rw [edgesAt_eq h hs, bd_s]
  generalize eAt re r s = e
  have hin : ∀ (k : Int32 → (Nat → Int32) → Option ((Nat → Int32) × (Nat → Int32))) (a : Nat) (T0 : Nat → Int32), a < N → fX10_spreads_l33 k e (nI a) t K fuel 0 (upd T0 a (K a)) = k (nI (a + 1)) (upd T0 a (kst N e K a)) := by
    intro k a T0 ha
    have := cdet (fun n b R => fX10_spreads_l33 k e (nI a) t K n (nI b) (upd T0 a R)) N (fun b R => if b ≠ a ∧ bt e (pix a b) = true then R ||| K b else R) (fun R => k (nI (a + 1)) (upd T0 a R)) (fun n b R hb => ?_) (fun n R => ?_) fuel 0 (K a) (Nat.zero_le _) (by have : fuel = 200 := rfl; omega)
    · unfold kst
      rw [if_pos ha]
      exact this
    · show fX10_spreads_l33 k e (nI a) t K (n + 1) (nI b) (upd T0 a R) = _
      rw [fX10_spreads_l33, a6, if_neg (nI_ge hb (by omega)), ck_t (inb_t (by omega) (by decide)), ck_t (inb_t (by omega) (by decide)), ck_t (inb_t (by omega) (by decide)), ck_t (inb_t (by omega) (by decide)), nI_clamp (by omega), nI_clamp (by omega), nI_1, upd_upd, upd_upd, upd_same, or_zero32]
      by_cases q : a = b
      · subst q
        rw [if_pos rfl, if_neg (fun z => z.1 rfl)]
      · rw [if_neg (fun z => q ((nI_eq (by omega) (by omega)).mp z))]
        have hp := pand_eq e (a := a) (b := b) (by omega) (by omega)
        cases hc : bt e (pix a b)
        · rw [if_pos (hp.mpr hc), if_neg (fun z => by cases z.2)]
        · rw [if_neg (fun z => by have := hp.mp z; rw [hc] at this; cases this), if_pos ⟨fun z => q z.symm, rfl⟩]
    · show fX10_spreads_l33 k e (nI a) t K (n + 1) (nI N) (upd T0 a R) = _
      rw [fX10_spreads_l33, a6, if_pos (nI_le (Nat.le_refl N) (by omega)), nI_1]
  have g0 : ∀ (n i : Nat) (T : Nat → Int32), i < N → (∀ c, c < i → T c = kst N e K c) → ∃ T' : Nat → Int32, (∀ c, c < i + 1 → T' c = kst N e K c) ∧ fX10_spreads_l8 e t K (n + 1) (nI i) T = fX10_spreads_l8 e t K n (nI (i + 1)) T' := by
    intro n i T hi hT
    refine ⟨upd T i (kst N e K i), fun c hc => ?_, ?_⟩
    · by_cases q : c = i
      · subst q; rw [upd_same]
      · rw [upd_ne _ _ q]; exact hT c (by omega)
    · rw [fX10_spreads_l8, a6, if_neg (nI_ge hi (by omega)), ck_t (inb_t (by omega) (by decide)), ck_t (inb_t (by omega) (by decide)), nI_clamp (by omega), hin _ i T hi]
  have g1 : ∀ (n : Nat) (T : Nat → Int32), (∀ c, c < N → T c = kst N e K c) → fX10_spreads_l8 e t K (n + 1) (nI N) T = some (fb_put K T 0 N, T) := by
    intro n T _
    rw [fX10_spreads_l8, a6, if_pos (nI_le (Nat.le_refl N) (by omega))]
    refine lput (fun n i f => fX10_spreads_l95 t T n (nI i) f) N 0 T (fun f => some (f, T)) (fun n i f hi => ?_) (fun n f => ?_) fuel _ (by have : fuel = 200 := rfl; omega)
    · show fX10_spreads_l95 t T (n + 1) (nI i) f = _
      rw [fX10_spreads_l95, a6, if_neg (nI_ge hi (by omega)), ck_t (inb_t (by omega) (by decide)), ck_t (inb_t (by omega) (by decide)), nI_clamp (by omega), nI_1, Nat.zero_add]
    · show fX10_spreads_l95 t T (n + 1) (nI N) f = _
      rw [fX10_spreads_l95, a6, if_pos (nI_le (Nat.le_refl N) (by omega))]
  obtain ⟨T', hT', q⟩ := cinv (fun n i T => fX10_spreads_l8 e t K n (nI i) T) N (fun i T => ∀ c, c < i → T c = kst N e K c) (fun T => some (fb_put K T 0 N, T)) g0 g1 fuel 0 Th (Nat.zero_le _) (by have : fuel = 200 := rfl; omega) (fun c hc => by omega)
  refine ⟨_, _, q, fun a ha => ?_⟩
  by_cases z : a < N
  · rw [fb_put_in (Nat.zero_le _) (by omega)]
    exact hT' a z
  · rw [fb_put_out (by omega)]
    unfold kst
    rw [if_neg z]
theorem advance_eq (h : SRn N r re va no ro t) {s : Nat} (hs : s < 10000) (K Kb : Nat → Int32) : ∃ K' Kb', fX3_advance K Kb (nI s) re no ro = some (K', Kb', nI (s + 1)) ∧ ∀ a, a < 8 → K' a = kst N (eAt re r s) K a := by
  obtain ⟨a1, a2, a3, a4, a5, a6, a7, a8, a9⟩ := id h
  unfold fX3_advance
  rw [edgesAtStep_eq h hs, bd_s]
  generalize eAt re r s = e
  have e1 : fX3_advance_l14 e K (nI s) no fuel 0 Kb = fX3_advance_l40 e (fb_put Kb K 0 8) (nI s) no fuel 1 K := by
    refine lput (fun n i f => fX3_advance_l14 e K (nI s) no n (nI i) f) 8 0 K (fun f => fX3_advance_l40 e f (nI s) no fuel 1 K) (fun n i f hi => ?_) (fun n f => ?_) fuel _ (by decide)
    · show fX3_advance_l14 e K (nI s) no (n + 1) (nI i) f = _
      rw [fX3_advance_l14, if_neg (show ¬ (8 : Int32) ≤ nI i from nI_ge (b := 8) hi (by decide)), ck_t (inb_t hi (by decide)), ck_t (inb_t hi (by decide)), nI_clamp (by omega), nI_1, Nat.zero_add]
    · show fX3_advance_l14 e K (nI s) no (n + 1) (nI 8) f = _
      rw [fX3_advance_l14, if_pos (show (8 : Int32) ≤ nI 8 by decide)]
  rw [e1]
  have hB : ∀ a, a < 8 → fb_put Kb K 0 8 a = K a := fun a ha => fb_put_in (Nat.zero_le _) (by omega)
  generalize fb_put Kb K 0 8 = B at hB
  -- what holds when the pairs before (b, a) are done
  let J : Nat → Nat → (Nat → Int32) → Prop := fun b a f => ∀ c, c < 8 → ∀ u, u < 32 → (bt (f c) u = true ↔ bt (K c) u = true ∨ ∃ x y, x < y ∧ (y < b ∨ (y = b ∧ x < a)) ∧ bt e (pix x y) = true ∧ ((c = x ∧ bt (K y) u = true) ∨ (c = y ∧ bt (K x) u = true)))
  have hin : ∀ (k : Int32 → (Nat → Int32) → Option ((Nat → Int32) × (Nat → Int32) × Int32)) (b : Nat) (f : Nat → Int32), b < N → J b 0 f → ∃ f', J b b f' ∧ fX3_advance_l53 k e (nI b) B (nI s) no fuel 0 f = k (nI (b + 1)) f' := by
    intro k b f hb hf
    refine cinv (fun n a f => fX3_advance_l53 k e (nI b) B (nI s) no n (nI a) f) b (fun a f => J b a f) (fun f => k (nI (b + 1)) f) (fun n a f ha hf => ?_) (fun n f _ => ?_) fuel 0 f (Nat.zero_le _) (by have : fuel = 200 := rfl; omega) hf
    · show ∃ f', J b (a + 1) f' ∧ fX3_advance_l53 k e (nI b) B (nI s) no (n + 1) (nI a) f = _
      rw [fX3_advance_l53, if_neg (nI_ge ha (by omega)), connects_eq e (by omega) (by omega), if_b, nI_1]
      cases hc : bt e (pix a b)
      · rw [if_neg (by simp)]
        refine ⟨f, fun c hc8 u hu => ?_, rfl⟩
        rw [hf c hc8 u hu]
        constructor
        · rintro (q | ⟨x, y, q1, q2, q3⟩)
          · exact Or.inl q
          · exact Or.inr ⟨x, y, q1, by omega, q3⟩
        · rintro (q | ⟨x, y, q1, q2, q3, q4⟩)
          · exact Or.inl q
          · refine Or.inr ⟨x, y, q1, ?_, q3, q4⟩
            by_cases z : y = b ∧ x = a
            · obtain ⟨rfl, rfl⟩ := z
              rw [hc] at q3; cases q3
            · omega
      · rw [if_pos rfl, ck_t (inb_t (by omega) (by decide)), ck_t (inb_t (by omega) (by decide)), ck_t (inb_t (by omega) (by decide)), ck_t (inb_t (by omega) (by decide)), ck_t (inb_t (by omega) (by decide)), ck_t (inb_t (by omega) (by decide)), nI_clamp (by omega), nI_clamp (by omega), hB b (by omega), hB a (by omega), upd_ne _ _ (show b ≠ a by omega)]
        refine ⟨_, fun c hc8 u hu => ?_, rfl⟩
        have hstep : bt (upd (upd f a (f a ||| K b)) b (f b ||| K a) c) u = true ↔ bt (f c) u = true ∨ ((c = a ∧ bt (K b) u = true) ∨ (c = b ∧ bt (K a) u = true)) := by
          by_cases z1 : c = b
          · subst z1
            rw [upd_same, b_or, Bool.or_eq_true]
            constructor
            · rintro (q | q)
              · exact Or.inl q
              · exact Or.inr (Or.inr ⟨rfl, q⟩)
            · rintro (q | (⟨q, _⟩ | ⟨_, q⟩))
              · exact Or.inl q
              · omega
              · exact Or.inr q
          · rw [upd_ne _ _ z1]
            by_cases z2 : c = a
            · subst z2
              rw [upd_same, b_or, Bool.or_eq_true]
              constructor
              · rintro (q | q)
                · exact Or.inl q
                · exact Or.inr (Or.inl ⟨rfl, q⟩)
              · rintro (q | (⟨_, q⟩ | ⟨q, _⟩))
                · exact Or.inl q
                · exact Or.inr q
                · omega
            · rw [upd_ne _ _ z2]
              constructor
              · exact Or.inl
              · rintro (q | (⟨q, _⟩ | ⟨q, _⟩))
                · exact q
                · exact absurd q z2
                · exact absurd q z1
        rw [hstep, hf c hc8 u hu]
        constructor
        · rintro ((q | ⟨x, y, q1, q2, q3⟩) | q)
          · exact Or.inl q
          · exact Or.inr ⟨x, y, q1, by omega, q3⟩
          · exact Or.inr ⟨a, b, ha, by omega, hc, q⟩
        · rintro (q | ⟨x, y, q1, q2, q3, q4⟩)
          · exact Or.inl (Or.inl q)
          · by_cases z : y = b ∧ x = a
            · obtain ⟨rfl, rfl⟩ := z
              exact Or.inr q4
            · exact Or.inl (Or.inr ⟨x, y, q1, by omega, q3, q4⟩)
    · show fX3_advance_l53 k e (nI b) B (nI s) no (n + 1) (nI b) f = _
      rw [fX3_advance_l53, if_pos (nI_le (Nat.le_refl b) (by omega)), nI_1]
  have g0 : ∀ (n b : Nat) (f : Nat → Int32), b < N → J b 0 f → ∃ f', J (b + 1) 0 f' ∧ fX3_advance_l40 e B (nI s) no (n + 1) (nI b) f = fX3_advance_l40 e B (nI s) no n (nI (b + 1)) f' := by
    intro n b f hb hf
    have e2 : ¬ fX7_nodes no ≤ nI b := by unfold fX7_nodes; rw [a4]; exact nI_ge hb (by omega)
    rw [fX3_advance_l40, if_neg e2]
    obtain ⟨f', q1, q2⟩ := hin (fX3_advance_l40 e B (nI s) no n) b f hb hf
    rw [q2]
    refine ⟨f', fun c hc8 u hu => ?_, rfl⟩
    rw [q1 c hc8 u hu]
    constructor
    · rintro (q | ⟨x, y, q1, q2, q3⟩)
      · exact Or.inl q
      · exact Or.inr ⟨x, y, q1, by omega, q3⟩
    · rintro (q | ⟨x, y, q1, q2, q3⟩)
      · exact Or.inl q
      · exact Or.inr ⟨x, y, q1, by omega, q3⟩
  have g1 : ∀ (n : Nat) (f : Nat → Int32), J N 0 f → fX3_advance_l40 e B (nI s) no (n + 1) (nI N) f = some (f, B, nI (s + 1)) := by
    intro n f _
    have e2 : fX7_nodes no ≤ nI N := by unfold fX7_nodes; rw [a4]; exact nI_le (Nat.le_refl N) (by omega)
    rw [fX3_advance_l40, if_pos e2]
    show some (f, B, nI s + 1) = _
    rw [nI_1]
  obtain ⟨f', hf', q⟩ := cinv (fun n b f => fX3_advance_l40 e B (nI s) no n (nI b) f) N (fun b f => J b 0 f) (fun f => some (f, B, nI (s + 1))) g0 g1 fuel 1 K (by omega) (by have : fuel = 200 := rfl; omega) (fun c hc u hu => by
    constructor
    · exact Or.inl
    · rintro (q | ⟨x, y, q1, q2, q3⟩)
      · exact q
      · omega)
  refine ⟨f', B, q, fun a ha => bt_ext fun u hu => ?_⟩
  rw [hf' a ha u hu, kst_bits a2]
  constructor
  · rintro (q | ⟨x, y, q1, q2, q3, (⟨rfl, q4⟩ | ⟨rfl, q4⟩)⟩)
    · exact Or.inl q
    · exact Or.inr ⟨by omega, y, by omega, by omega, q3, q4⟩
    · exact Or.inr ⟨by omega, x, by omega, by omega, (adj_comm (by omega) (by omega) (by omega)).mp q3, q4⟩
  · rintro (q | ⟨q0, b, q1, q2, q3, q4⟩)
    · exact Or.inl q
    · rcases Nat.lt_or_ge a b with z | z
      · exact Or.inr ⟨a, b, z, by omega, q3, Or.inl ⟨rfl, q4⟩⟩
      · exact Or.inr ⟨b, a, by omega, by omega, (adj_comm (by omega) (by omega) (by omega)).mp q3, Or.inr ⟨rfl, q4⟩⟩
end FL
