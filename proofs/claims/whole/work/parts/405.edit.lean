/-! ===== changes of a schedule ===== -/
theorem isNode_eq {N r : Nat} {re va : Nat → Int32} {no ro : Int32} {t : Nat → Int32} (h : SRn N r re va no ro t) (x : Int32) : fX10_isNode x t = ndx N x := by
  obtain ⟨a1, a2, a3, a4, a5, a6, a7, a8, a9⟩ := h
  unfold fX10_isNode; rw [a6]; exact in_ndx x (by omega)
theorem isRound_eq {N r : Nat} {re va : Nat → Int32} {no ro : Int32} {t : Nat → Int32} (h : SRn N r re va no ro t) (x : Int32) : fX10_isRound x t = ndx r x := by
  obtain ⟨a1, a2, a3, a4, a5, a6, a7, a8, a9⟩ := h
  unfold fX10_isRound; rw [a7]; exact in_ndx x (by omega)
theorem hasNode_eq {N r : Nat} {re va : Nat → Int32} {no ro : Int32} {t : Nat → Int32} (h : SRn N r re va no ro t) (x : Int32) : fX7_hasNode x no = ndx N x := by
  obtain ⟨a1, a2, a3, a4, a5, a6, a7, a8, a9⟩ := h
  rw [a4]; exact has_ndx x (by omega)
theorem hasRound_eq {N r : Nat} {re va : Nat → Int32} {no ro : Int32} {t : Nat → Int32} (h : SRn N r re va no ro t) (x : Int32) : fX7_hasRound x ro = ndx r x := by
  obtain ⟨a1, a2, a3, a4, a5, a6, a7, a8, a9⟩ := h
  rw [a5]; exact hasR_ndx x (by omega)
theorem edgesOf_eq {N r : Nat} {re va : Nat → Int32} {no ro : Int32} {t : Nat → Int32} (h : SRn N r re va no ro t) {i : Nat} (hi : i < r) : fX7_edgesOf (nI i) re ro = some (re i) := by
  unfold fX7_edgesOf
  rw [hasRound_eq h, if_b]
  obtain ⟨a1, a2, a3, a4, a5, a6, a7, a8, a9⟩ := h
  rw [if_pos (ndx_t hi (by omega)), ck_t (inb_t (by omega) (by decide)), nI_clamp (by omega)]
theorem hasPlace_eq {N r : Nat} {re va : Nat → Int32} {no ro : Int32} {t : Nat → Int32} (h : SRn N r re va no ro t) (x y z : Int32) : fX7_hasPlace x y z no ro = (ndx r x && fX10_isPair y z t) := by
  unfold fX7_hasPlace fX10_isPair
  rw [hasRound_eq h, hasNode_eq h, hasNode_eq h, isNode_eq h, isNode_eq h]
  cases ndx r x <;> simp [b2i]
theorem isPair_of {N r : Nat} {re va : Nat → Int32} {no ro : Int32} {t : Nat → Int32} (h : SRn N r re va no ro t) {y z : Int32} (hp : fX10_isPair y z t = true) : ∃ a c, a < N ∧ c < N ∧ a ≠ c ∧ y = nI a ∧ z = nI c := by
  unfold fX10_isPair at hp
  rw [isNode_eq h, isNode_eq h, if_b, if_b] at hp
  have hN := h.2.1
  by_cases h1 : ndx N y = true
  · rw [if_pos h1] at hp
    by_cases h2 : ndx N z = true
    · rw [if_pos h2] at hp
      obtain ⟨a, ha, rfl⟩ := ndx_of h1 (by omega)
      obtain ⟨c, hc, rfl⟩ := ndx_of h2 (by omega)
      refine ⟨a, c, ha, hc, fun e => ?_, rfl, rfl⟩
      subst e
      rw [if_pos rfl] at hp
      cases hp
    · rw [if_neg h2] at hp; cases hp
  · rw [if_neg h1] at hp; cases hp
theorem SRn.set {N r : Nat} {re va : Nat → Int32} {no ro : Int32} {t : Nat → Int32} (h : SRn N r re va no ro t) {i : Nat} (hi : i < r) {e : Int32} (he : E28 e) : SRn N r (upd re i e) va no ro (upd t (2 + i) e) := by
  obtain ⟨a1, a2, a3, a4, a5, a6, a7, a8, a9⟩ := h
  refine ⟨a1, a2, a3, a4, a5, by rw [upd_ne _ _ (by omega)]; exact a6, by rw [upd_ne _ _ (by omega)]; exact a7, fun j hj => ?_, fun j hj => by rw [upd_ne _ _ (by omega)]; exact a9 j hj⟩
  by_cases q : j = i
  · subst q; rw [upd_same, upd_same]; exact ⟨rfl, he⟩
  · rw [upd_ne _ _ q, upd_ne _ _ (by omega)]; exact a8 j hj
theorem SRn.val {N r : Nat} {re va : Nat → Int32} {no ro : Int32} {t : Nat → Int32} (h : SRn N r re va no ro t) {i v : Nat} (hi : i < 8) (hv : v < 100) : SRn N r re (upd va i (nI v)) no ro (upd t (18 + i) (nI v)) := by
  obtain ⟨a1, a2, a3, a4, a5, a6, a7, a8, a9⟩ := h
  refine ⟨a1, a2, a3, a4, a5, by rw [upd_ne _ _ (by omega)]; exact a6, by rw [upd_ne _ _ (by omega)]; exact a7, fun j hj => by rw [upd_ne _ _ (by omega)]; exact a8 j hj, fun j hj => ?_⟩
  by_cases q : j = i
  · subst q; rw [upd_same, upd_same]; exact ⟨rfl, v, hv, rfl⟩
  · rw [upd_ne _ _ q, upd_ne _ _ (by omega)]; exact a9 j hj
theorem E28_0 : E28 0 := fun k _ => b_0 k
theorem E28.xor {a b : Int32} (ha : E28 a) (hb : E28 b) : E28 (a ^^^ b) := fun k hk => by rw [b_xor, ha k hk, hb k hk]; rfl
theorem E28.or {a b : Int32} (ha : E28 a) (hb : E28 b) : E28 (a ||| b) := fun k hk => by rw [b_or, ha k hk, hb k hk]; rfl
theorem E28.and {a b : Int32} (ha : E28 a) : E28 (a &&& b) := fun k hk => by rw [b_and, ha k hk]; rfl
theorem E28_pair {a c : Nat} (ha : a < 8) (hc : c < 8) (hac : a ≠ c) : E28 (fX10_pair (nI a) (nI c)) := fun k hk => by
  rcases Nat.lt_or_ge k 32 with h | h
  · rw [bt_pair a ha c hc k h, decide_eq_false]
    have := pix_lt a ha c hc hac
    omega
  · exact b_big h
/-- one round more -/
theorem SRn.add {N r : Nat} {re va : Nat → Int32} {no ro : Int32} {t : Nat → Int32} (h : SRn N r re va no ro t) (hr : r < 16) {e : Int32} (he : E28 e) : SRn N (r + 1) (upd re r e) va no (nI (r + 1)) (upd (upd t (2 + r) e) 1 (nI (r + 1))) := by
  obtain ⟨a1, a2, a3, a4, a5, a6, a7, a8, a9⟩ := h
  refine ⟨a1, a2, by omega, a4, rfl, by rw [upd_ne _ _ (by omega), upd_ne _ _ (by omega)]; exact a6, upd_same _ _ _, fun j hj => ?_, fun j hj => by rw [upd_ne _ _ (by omega), upd_ne _ _ (by omega)]; exact a9 j hj⟩
  rw [upd_ne _ _ (show 2 + j ≠ 1 by omega)]
  by_cases q : j = r
  · subst q; rw [upd_same, upd_same]; exact ⟨rfl, he⟩
  · rw [upd_ne _ _ q, upd_ne _ _ (by omega)]; exact a8 j (by omega)
theorem adds_eq {N r : Nat} {re va : Nat → Int32} {no ro : Int32} {t : Nat → Int32} (h : SRn N r re va no ro t) (hr : r < 16) (e : Int32) : fX10_adds e t = some (upd (upd t (2 + r) e) 1 (nI (r + 1))) := by
  obtain ⟨a1, a2, a3, a4, a5, a6, a7, a8, a9⟩ := h
  unfold fX10_adds
  have e1 : (2 : Int32) + t 1 = nI (2 + r) := by rw [a7]; exact nI_add 2 r
  rw [e1, ck_t (inb_t (by omega) (by decide)), nI_clamp (by omega), upd_ne _ _ (show (1 : Nat) ≠ 2 + r by omega), a7]
  show some (upd _ 1 (nI r + 1)) = _
  rw [nI_1]
theorem append_eq {r : Nat} (re : Nat → Int32) (hr : r < 16) (e : Int32) : fX7_append e re (nI r) = some (upd re r e, nI (r + 1)) := by
  unfold fX7_append fX7_isFull
  rw [if_pos (show nI r < (16 : Int32) from nI_lt (b := 16) hr (by decide)), if_pos b2i_f, ck_t (inb_t hr (by decide)), nI_clamp (by omega)]
  show some (_, nI r + 1) = _
  rw [nI_1]
theorem isFull_eq {r : Nat} (hr : r ≤ 16) : fX7_isFull (nI r) = decide (r = 16) := by
  unfold fX7_isFull
  by_cases q : r = 16
  · subst q; rfl
  · rw [if_pos (show nI r < (16 : Int32) from nI_lt (b := 16) (by omega) (by decide)), decide_eq_false q]
theorem full_eq {r : Nat} (hr : r ≤ 16) : (nI r = (16 : Int32)) ↔ r = 16 := nI_eq (b := 16) (by omega) (by decide)
theorem ts_nt' {x : Bool} (h : ¬ x = true) : x = false := by cases x <;> simp_all
section SIM
variable {sre sva : Nat → Int32} {sno sro : Int32} {t : Nat → Int32} {size : Int32} {b e v : Nat → Nat} {re va : Nat → Nat → Int32} {no ro : Nat → Int32} {P : Nat → Int32} {p : Int32}
theorem sim_addRound (hS : SR sre sva sno sro t) (hH : HR size re va no ro P p) (a : Nat → Int32) :
    ∃ o9 o10, fX9_addRound sre sva sno sro size b e v re va no ro = some o9 ∧ fX10_addRound t P a p = some o10 ∧ o9.1 = o10.1 ∧ SR o9.2.1 sva sno o9.2.2.1 o10.2.1 ∧ HR o9.2.2.2.1 o9.2.2.2.2.2.2.2.1 o9.2.2.2.2.2.2.2.2.1 o9.2.2.2.2.2.2.2.2.2.1 o9.2.2.2.2.2.2.2.2.2.2 o10.2.2.1 o10.2.2.2.2 := by
  obtain ⟨N, r, h⟩ := id hS
  obtain ⟨a1, a2, a3, a4, a5, a6, a7, a8, a9⟩ := id h
  unfold fX9_addRound fX10_addRound
  rw [a5, a7, isFull_eq a3, if_b]
  by_cases q : r = 16
  · rw [if_pos (decide_eq_true q), if_pos ((full_eq a3).mpr q)]
    exact ⟨_, _, rfl, rfl, rfl, a5 ▸ hS, hH⟩
  · rw [if_neg (show ¬ decide (r = 16) = true from fun z => q (of_decide_eq_true z)), if_neg (fun z => q ((full_eq a3).mp z)), hold_eq, adds_eq h (by omega), append_eq _ (by omega)]
    simp only [bd_s]
    obtain ⟨oH, P', p', q1, q2, q3⟩ := save_ends (b := b) (e := e) (v := v) hH hS (hold_at t a) (upd (upd t (2 + r) 0) 1 (nI (r + 1)) 1 - (1 : Int32))
    rw [← a5, q1, q2]
    simp only [bd_s]
    refine ⟨_, _, rfl, rfl, ?_, ⟨N, r + 1, h.add (by omega) E28_0⟩, q3⟩
    show fX7_rounds (nI (r + 1)) - (1 : Int32) = upd (upd t (2 + r) 0) 1 (nI (r + 1)) 1 - (1 : Int32)
    rw [upd_same]; rfl
theorem sim_setValue (hS : SR sre sva sno sro t) (hH : HR size re va no ro P p) (a : Nat → Int32) (x y : Int32) :
    ∃ o9 o10, fX9_setValue x y sre sva sno sro size b e v re va no ro = some o9 ∧ fX10_setValue x y t P a p = some o10 ∧ o9.1 = o10.1 ∧ SR sre o9.2.1 sno sro o10.2.1 ∧ HR o9.2.2.1 o9.2.2.2.2.2.2.1 o9.2.2.2.2.2.2.2.1 o9.2.2.2.2.2.2.2.2.1 o9.2.2.2.2.2.2.2.2.2 o10.2.2.1 o10.2.2.2.2 := by
  obtain ⟨N, r, h⟩ := id hS
  obtain ⟨a1, a2, a3, a4, a5, a6, a7, a8, a9⟩ := id h
  unfold fX9_setValue fX10_setValue
  have e9 : fX10_in y (0 : Int32) (99 : Int32) = decide ((0 : Int) ≤ y.toInt ∧ y.toInt ≤ (99 : Int)) := in_rng (a := 0) (b := 99) y (by omega) (by omega)
  rw [hasNode_eq h, isNode_eq h, if_b, if_b, e9, if_b]
  by_cases q : ndx N x = true
  · rw [if_pos q, if_pos q]
    obtain ⟨i, hi, rfl⟩ := ndx_of q (by omega)
    by_cases q2 : (0 : Int) ≤ y.toInt ∧ y.toInt ≤ (99 : Int)
    · obtain ⟨w, _, hw, rfl⟩ := rng_of (a := 0) (b := 99) q2.1 q2.2 (by omega)
      rw [if_pos (decide_eq_true q2), if_neg (nI_pos (by omega)), if_pos (show nI w ≤ (99 : Int32) from nI_le (b := 99) hw (by decide)), hold_eq]
      have e1 : (18 : Int32) + nI i = nI (18 + i) := nI_add 18 i
      simp only [bd_s]
      rw [e1, ck_t (inb_t (by omega) (by decide)), ck_t (inb_t (by omega) (by decide)), nI_clamp (by omega)]
      unfold fX7_valueOf fX7_give
      rw [hasNode_eq h, if_b, if_b, if_pos q, if_pos q, ck_t (inb_t (by omega) (by decide)), ck_t (inb_t (by omega) (by decide)), nI_clamp (by omega)]
      simp only [bd_s]
      obtain ⟨oH, P', p', q1, q2', q3⟩ := save_ends (b := b) (e := e) (v := v) hH hS (hold_at t a) (t (18 + i))
      rw [q1, q2']
      simp only [bd_s]
      exact ⟨_, _, rfl, rfl, (a9 i (by omega)).1, ⟨N, r, h.val (by omega) (by omega)⟩, q3⟩
    · rw [if_neg (show ¬ decide ((0 : Int) ≤ y.toInt ∧ y.toInt ≤ (99 : Int)) = true from fun z => q2 (of_decide_eq_true z))]
      by_cases q3 : y < 0
      · rw [if_pos q3]
        exact ⟨_, _, rfl, rfl, rfl, hS, hH⟩
      · have q4 : ¬ y ≤ (99 : Int32) := fun z => q2 ⟨by rw [fa_lt] at q3; have : (0 : Int32).toInt = 0 := rfl; omega, by rw [fa_le] at z; exact z⟩
        rw [if_neg q3, if_neg q4]
        exact ⟨_, _, rfl, rfl, rfl, hS, hH⟩
  · rw [if_neg q, if_neg q]
    exact ⟨_, _, rfl, rfl, rfl, hS, hH⟩
theorem sim_edge (hS : SR sre sva sno sro t) (x y z : Int32) : ∃ o9 o10, fX9_edge x y z sre sno sro = some o9 ∧ fX10_edge x y z t = some o10 ∧ o9 = o10 := by
  obtain ⟨N, r, h⟩ := id hS
  obtain ⟨a1, a2, a3, a4, a5, a6, a7, a8, a9⟩ := id h
  unfold fX9_edge fX10_edge
  rw [hasPlace_eq h, isRound_eq h, if_b, if_b, if_b]
  by_cases q : ndx r x = true
  · by_cases q2 : fX10_isPair y z t = true
    · rw [if_pos (by rw [q, q2]; rfl), if_pos q, if_pos q2]
      obtain ⟨i, hi, rfl⟩ := ndx_of q (by omega)
      obtain ⟨c, d, hc, hd, hcd, rfl, rfl⟩ := isPair_of h q2
      have e1 : (2 : Int32) + nI i = nI (2 + i) := nI_add 2 i
      rw [e1, ck_t (inb_t (by omega) (by decide)), nI_clamp (by omega), edgesOf_eq h hi, (a8 i hi).1]
      simp only [bd_s]
      unfold fX2_connects
      rw [between_eq]
      by_cases q3 : t (2 + i) &&& fX10_pair (nI c) (nI d) = 0
      · rw [if_pos q3, if_pos q3]; exact ⟨_, _, rfl, rfl, rfl⟩
      · rw [if_neg q3, if_neg q3]; exact ⟨_, _, rfl, rfl, rfl⟩
    · rw [if_neg (show ¬ (ndx r x && fX10_isPair y z t) = true by rw [ts_nt' q2]; simp), if_pos q, if_neg q2]
      exact ⟨_, _, rfl, rfl, rfl⟩
  · rw [if_neg (show ¬ (ndx r x && fX10_isPair y z t) = true by rw [ts_nt' q]; simp), if_neg q]
    exact ⟨_, _, rfl, rfl, rfl⟩
theorem sim_value (hS : SR sre sva sno sro t) (x : Int32) : ∃ o9 o10, fX9_value x sva sno = some o9 ∧ fX10_value x t = some o10 ∧ o9 = o10 := by
  obtain ⟨N, r, h⟩ := id hS
  obtain ⟨a1, a2, a3, a4, a5, a6, a7, a8, a9⟩ := id h
  unfold fX9_value fX10_value fX7_valueOf
  rw [hasNode_eq h, isNode_eq h, if_b, if_b, if_b]
  by_cases q : ndx N x = true
  · rw [if_pos q, if_pos q, if_pos q]
    obtain ⟨i, hi, rfl⟩ := ndx_of q (by omega)
    have e1 : (18 : Int32) + nI i = nI (18 + i) := nI_add 18 i
    rw [e1, ck_t (inb_t (by omega) (by decide)), ck_t (inb_t (by omega) (by decide)), nI_clamp (by omega), nI_clamp (by omega)]
    simp only [bd_s]
    exact ⟨_, _, rfl, rfl, (a9 i (by omega)).1⟩
  · rw [if_neg q, if_neg q]
    exact ⟨_, _, rfl, rfl, rfl⟩
end SIM
