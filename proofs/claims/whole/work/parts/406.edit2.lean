section SIM
variable {sre sva : Nat → Int32} {sno sro : Int32} {t : Nat → Int32} {size : Int32} {b e v : Nat → Nat} {re va : Nat → Nat → Int32} {no ro : Nat → Int32} {P : Nat → Int32} {p : Int32}
theorem replace_eq {N r : Nat} (h : SRn N r sre sva sno sro t) {i : Nat} (hi : i < r) (f : Nat → Int32) (x : Int32) : fX7_replace (nI i) x f sro = some (upd f i x) := by
  unfold fX7_replace
  rw [hasRound_eq h, if_b, if_pos (ndx_t hi (by have := h.2.2.1; omega)), ck_t (inb_t (by have := h.2.2.1; omega) (by decide)), nI_clamp (by have := h.2.2.1; omega)]
theorem sim_setEdge (hS : SR sre sva sno sro t) (hH : HR size re va no ro P p) (a : Nat → Int32) (x y z w : Int32) :
    ∃ o9 o10, fX9_setEdge x y z w sre sva sno sro size b e v re va no ro = some o9 ∧ fX10_setEdge x y z w t P a p = some o10 ∧ o9.1 = o10.1 ∧ SR o9.2.1 sva sno sro o10.2.1 ∧ HR o9.2.2.1 o9.2.2.2.2.2.2.1 o9.2.2.2.2.2.2.2.1 o9.2.2.2.2.2.2.2.2.1 o9.2.2.2.2.2.2.2.2.2 o10.2.2.1 o10.2.2.2.2 := by
  obtain ⟨N, r, h⟩ := id hS
  obtain ⟨a1, a2, a3, a4, a5, a6, a7, a8, a9⟩ := id h
  unfold fX9_setEdge fX10_setEdge
  have e9 : fX10_in w (0 : Int32) (1 : Int32) = decide ((0 : Int) ≤ w.toInt ∧ w.toInt ≤ (1 : Int)) := in_rng (a := 0) (b := 1) w (by omega) (by omega)
  rw [hasPlace_eq h, isRound_eq h, if_b, if_b, if_b, e9, if_b]
  by_cases q : ndx r x = true
  · by_cases q2 : fX10_isPair y z t = true
    · rw [if_pos (by rw [q, q2]; rfl), if_pos q, if_pos q2]
      by_cases q3 : (0 : Int) ≤ w.toInt ∧ w.toInt ≤ (1 : Int)
      · obtain ⟨k, _, hk, rfl⟩ := rng_of (a := 0) (b := 1) q3.1 q3.2 (by omega)
        obtain ⟨i, hi, rfl⟩ := ndx_of q (by omega)
        obtain ⟨c, d, hc, hd, hcd, rfl, rfl⟩ := isPair_of h q2
        rw [if_pos (decide_eq_true q3), if_neg (nI_pos (by omega)), if_pos (show nI k ≤ (1 : Int32) from nI_le (b := 1) hk (by decide)), edgesOf_eq h hi]
        have e1 : (2 : Int32) + nI i = nI (2 + i) := nI_add 2 i
        simp only [bd_s]
        rw [e1, ck_t (inb_t (by omega) (by decide)), nI_clamp (by omega), between_eq, (a8 i hi).1]
        have hm := bt_pair c (by omega) d (by omega)
        have hp := pix_le c (by omega) d (by omega)
        have hE := (a8 i hi).2
        rw [(a8 i hi).1] at hE
        have hM := E28_pair (a := c) (c := d) (by omega) (by omega) hcd
        have e2 : ∀ y0 y1 : Int32, ¬ y0 = y1 → fX10_setEdge_b66 (nI i) (nI c) (nI d) y0 y1 t P a p = fX10_setEdge_b66 (nI i) (nI c) (nI d) 0 1 t P a p := by
          intro y0 y1 hy
          unfold fX10_setEdge_b66
          rw [if_neg hy, if_neg (by decide)]
        have fin : ∀ e' : Int32, E28 e' → t (2 + i) ^^^ fX10_pair (nI c) (nI d) = e' → ∃ o9 o10, ((fX5_save size b e v re va no ro sre sva sno sro).bind fun o2 => (fX7_replace (nI i) e' sre sro).bind fun o3 => some (fJ6_bitCount_0f7a4 e', o3, o2.1, o2.2.1, o2.2.2.1, o2.2.2.2.1, o2.2.2.2.2.1, o2.2.2.2.2.2.1, o2.2.2.2.2.2.2.1, o2.2.2.2.2.2.2.2)) = some o9 ∧ fX10_setEdge_b66 (nI i) (nI c) (nI d) 0 1 t P a p = some o10 ∧ o9.1 = o10.1 ∧ SR o9.2.1 sva sno sro o10.2.1 ∧ HR o9.2.2.1 o9.2.2.2.2.2.2.1 o9.2.2.2.2.2.2.2.1 o9.2.2.2.2.2.2.2.2.1 o9.2.2.2.2.2.2.2.2.2 o10.2.2.1 o10.2.2.2.2 := by
          intro e' hE' he'
          unfold fX10_setEdge_b66
          rw [if_neg (by decide), hold_eq, e1, replace_eq h hi]
          simp only [bd_s]
          rw [ck_t (inb_t (by omega) (by decide)), ck_t (inb_t (by omega) (by decide)), ck_t (inb_t (by omega) (by decide)), nI_clamp (by omega), he', upd_same, count_eq hE']
          simp only [bd_s]
          obtain ⟨oH, P', p', q1, q2', q3⟩ := save_ends (b := b) (e := e) (v := v) hH hS (hold_at t a) (fJ6_bitCount_0f7a4 e')
          rw [q1, q2']
          simp only [bd_s]
          exact ⟨_, _, rfl, rfl, rfl, ⟨N, r, h.set hi hE'⟩, q3⟩
        rcases (show k = 0 ∨ k = 1 by omega) with rfl | rfl
        · rw [if_neg (show ¬ nI 0 = (1 : Int32) by decide)]
          unfold fX9_setEdge_b63 fX10_setEdge_b51
          rw [if_neg (show ¬ nI 0 = (1 : Int32) by decide), if_neg (show ¬ nI 0 = (1 : Int32) by decide)]
          cases hb : bt (t (2 + i)) (pix c d)
          · rw [if_pos ((andn_one hp hm).mpr hb), if_pos ((and_one hp hm).mpr hb)]
            unfold fX10_setEdge_b66
            rw [if_pos rfl]
            exact ⟨_, _, rfl, rfl, rfl, hS, hH⟩
          · have n1 : ¬ t (2 + i) &&& (fX10_pair (nI c) (nI d) ^^^ (-1 : Int32)) = t (2 + i) := fun z => by have := (andn_one hp hm).mp z; rw [hb] at this; cases this
            have n2 : ¬ t (2 + i) &&& fX10_pair (nI c) (nI d) = 0 := fun z => by have := (and_one hp hm).mp z; rw [hb] at this; cases this
            rw [if_neg n1, if_neg n2, e2 1 0 (by decide)]
            exact fin _ (E28.and hE) (xor_off hm hb)
        · rw [if_pos (show nI 1 = (1 : Int32) from rfl)]
          unfold fX9_setEdge_b63 fX10_setEdge_b51
          rw [if_pos (show nI 1 = (1 : Int32) from rfl), if_pos (show nI 1 = (1 : Int32) from rfl)]
          cases hb : bt (t (2 + i)) (pix c d)
          · have n1 : ¬ t (2 + i) ||| fX10_pair (nI c) (nI d) = t (2 + i) := fun z => by have := (or_one hp hm).mp z; rw [hb] at this; cases this
            rw [if_neg n1, if_pos ((and_one hp hm).mpr hb)]
            exact fin _ (E28.or hE hM) (xor_on hm hb)
          · have n2 : ¬ t (2 + i) &&& fX10_pair (nI c) (nI d) = 0 := fun z => by have := (and_one hp hm).mp z; rw [hb] at this; cases this
            rw [if_pos ((or_one hp hm).mpr hb), if_neg n2]
            unfold fX10_setEdge_b66
            rw [if_pos rfl]
            exact ⟨_, _, rfl, rfl, rfl, hS, hH⟩
      · rw [if_neg (show ¬ decide ((0 : Int) ≤ w.toInt ∧ w.toInt ≤ (1 : Int)) = true from fun z => q3 (of_decide_eq_true z))]
        by_cases q4 : w < 0
        · rw [if_pos q4]
          exact ⟨_, _, rfl, rfl, rfl, hS, hH⟩
        · have q5 : ¬ w ≤ (1 : Int32) := fun z => q3 ⟨by rw [fa_lt] at q4; have : (0 : Int32).toInt = 0 := rfl; omega, by rw [fa_le] at z; exact z⟩
          rw [if_neg q4, if_neg q5]
          exact ⟨_, _, rfl, rfl, rfl, hS, hH⟩
    · rw [if_neg (show ¬ (ndx r x && fX10_isPair y z t) = true by rw [ts_nt' q2]; simp), if_pos q, if_neg q2]
      exact ⟨_, _, rfl, rfl, rfl, hS, hH⟩
  · rw [if_neg (show ¬ (ndx r x && fX10_isPair y z t) = true by rw [ts_nt' q]; simp), if_neg q]
    exact ⟨_, _, rfl, rfl, rfl, hS, hH⟩
theorem sim_swapRounds (hS : SR sre sva sno sro t) (hH : HR size re va no ro P p) (a : Nat → Int32) (x y : Int32) :
    ∃ o9 o10, fX9_swapRounds x y sre sva sno sro size b e v re va no ro = some o9 ∧ fX10_swapRounds x y t P a p = some o10 ∧ o9.1 = o10.1 ∧ SR o9.2.1 sva sno sro o10.2.1 ∧ HR o9.2.2.1 o9.2.2.2.2.2.2.1 o9.2.2.2.2.2.2.2.1 o9.2.2.2.2.2.2.2.2.1 o9.2.2.2.2.2.2.2.2.2 o10.2.2.1 o10.2.2.2.2 := by
  obtain ⟨N, r, h⟩ := id hS
  obtain ⟨a1, a2, a3, a4, a5, a6, a7, a8, a9⟩ := id h
  unfold fX9_swapRounds fX10_swapRounds
  rw [hasRound_eq h, hasRound_eq h, isRound_eq h, isRound_eq h, if_b, if_b, if_b, if_b]
  by_cases q : ndx r x = true
  · by_cases q2 : ndx r y = true
    · rw [if_pos q, if_pos q2, if_pos q, if_pos q2]
      obtain ⟨i, hi, rfl⟩ := ndx_of q (by omega)
      obtain ⟨j, hj, rfl⟩ := ndx_of q2 (by omega)
      have e1 : (2 : Int32) + nI i = nI (2 + i) := nI_add 2 i
      have e2 : (2 : Int32) + nI j = nI (2 + j) := nI_add 2 j
      rw [edgesOf_eq h hi, edgesOf_eq h hj, hold_eq]
      simp only [bd_s]
      rw [replace_eq h hi, e1, e2]
      simp only [bd_s]
      rw [replace_eq h hj, ck_t (inb_t (by omega) (by decide)), ck_t (inb_t (by omega) (by decide)), ck_t (inb_t (by omega) (by decide)), ck_t (inb_t (by omega) (by decide)), ck_t (inb_t (by omega) (by decide)), nI_clamp (by omega), nI_clamp (by omega)]
      simp only [bd_s]
      have ex : (upd (upd t (2 + i) (t (2 + j))) (2 + j) (t (2 + i))) (2 + i) = t (2 + j) := by
        by_cases z : i = j
        · subst z; rw [upd_same]
        · rw [upd_ne _ _ (by omega), upd_same]
      rw [ex, ← (a8 i hi).1, ← (a8 j hj).1, count_eq ((a8 i hi).2.xor (a8 j hj).2)]
      simp only [bd_s]
      obtain ⟨oH, P', p', q1, q2', q3⟩ := save_ends (b := b) (e := e) (v := v) hH hS (hold_at t a) (fJ6_bitCount_0f7a4 (sre i ^^^ sre j))
      rw [q1, q2']
      simp only [bd_s]
      exact ⟨_, _, rfl, rfl, rfl, ⟨N, r, (h.set hi (a8 j hj).2).set hj (a8 i hi).2⟩, q3⟩
    · rw [if_pos q, if_neg q2, if_pos q, if_neg q2]
      exact ⟨_, _, rfl, rfl, rfl, hS, hH⟩
  · rw [if_neg q, if_neg q]
    exact ⟨_, _, rfl, rfl, rfl, hS, hH⟩
theorem removeAt_eq {r i : Nat} (hr : r ≤ 16) (hi : i < r) (f : Nat → Int32) : fX7_removeAt_l12 (nI r) fuel (nI (i + 1)) f = some (fb_put f (fun m => f (i + m + 1)) i (r - 1 - i), nI (r - 1)) := by
  have h0 : ∀ (n k : Nat) (s : Nat → Int32), k < r → (i < k ∧ s = fb_put f (fun m => f (i + m + 1)) i (k - 1 - i)) → ∃ s', (i < k + 1 ∧ s' = fb_put f (fun m => f (i + m + 1)) i (k + 1 - 1 - i)) ∧ fX7_removeAt_l12 (nI r) (n + 1) (nI k) s = fX7_removeAt_l12 (nI r) n (nI (k + 1)) s' := by
    intro n k s hk ⟨hik, hs⟩
    have e1 : nI k - (1 : Int32) = nI (k - 1) := pk_sub (a := k) (b := 1) (by omega)
    refine ⟨upd s (k - 1) (s k), ⟨by omega, ?_⟩, ?_⟩
    · have e2 : s k = f k := by rw [hs]; exact fb_put_out (Or.inr (by omega))
      have e3 := fb_put_succ f (fun m => f (i + m + 1)) i (k - 1 - i)
      rw [show i + (k - 1 - i) = k - 1 by omega, show k - 1 + 1 = k by omega] at e3
      rw [e2, hs, show k + 1 - 1 - i = k - 1 - i + 1 by omega, ← e3]
    · rw [fX7_removeAt_l12, if_neg (nI_ge (a := k) (b := r) hk (by omega)), e1, ck_t (inb_t (by omega) (by decide)), ck_t (inb_t (by omega) (by decide)), nI_clamp (by omega), nI_clamp (by omega), nI_1]
  have h1 : ∀ (n : Nat) (s : Nat → Int32), (i < r ∧ s = fb_put f (fun m => f (i + m + 1)) i (r - 1 - i)) → fX7_removeAt_l12 (nI r) (n + 1) (nI r) s = some (s, nI (r - 1)) := by
    intro n s _
    rw [fX7_removeAt_l12, if_pos (nI_le (Nat.le_refl r) (by omega))]
    rw [show nI r - (1 : Int32) = nI (r - 1) from pk_sub (a := r) (b := 1) (by omega)]
  obtain ⟨s', hs, e⟩ := cinv (fun n k s => fX7_removeAt_l12 (nI r) n (nI k) s) r (fun k s => i < k ∧ s = fb_put f (fun m => f (i + m + 1)) i (k - 1 - i)) (fun s => some (s, nI (r - 1))) h0 h1 fuel (i + 1) f (by omega) (by have : fuel = 200 := rfl; omega) ⟨by omega, by rw [show i + 1 - 1 - i = 0 by omega, fb_put_0]⟩
  show fX7_removeAt_l12 (nI r) fuel (nI (i + 1)) f = _
  rw [e, hs.2]
theorem removeL_eq {r i : Nat} (hr : r ≤ 16) (hi : i < r) (P a : Nat → Int32) (p : Int32) (f : Nat → Int32) (hf : f 1 = nI (r - 1)) : fX10_removeRound_l26 P a p fuel (nI i) f = (fX10_ends (nI (r - 1)) P a p).bind (fun o2 => some (o2.1, fb_put f (fun m => f (2 + i + m + 1)) (2 + i) (r - 1 - i), o2.2.1, a, o2.2.2)) := by
  have h0 : ∀ (n k : Nat) (s : Nat → Int32), k < r - 1 → (i ≤ k ∧ s = fb_put f (fun m => f (2 + i + m + 1)) (2 + i) (k - i)) → ∃ s', (i ≤ k + 1 ∧ s' = fb_put f (fun m => f (2 + i + m + 1)) (2 + i) (k + 1 - i)) ∧ fX10_removeRound_l26 P a p (n + 1) (nI k) s = fX10_removeRound_l26 P a p n (nI (k + 1)) s' := by
    intro n k s hk ⟨hik, hs⟩
    have e0 : s 1 = nI (r - 1) := by rw [hs, fb_put_out (Or.inl (by omega)), hf]
    have e1 : (2 : Int32) + nI k = nI (2 + k) := nI_add 2 k
    have e2 : nI (2 + k) + (1 : Int32) = nI (2 + k + 1) := nI_1 (2 + k)
    refine ⟨upd s (2 + k) (s (2 + k + 1)), ⟨by omega, ?_⟩, ?_⟩
    · have e3 : s (2 + k + 1) = f (2 + k + 1) := by rw [hs]; exact fb_put_out (Or.inr (by omega))
      have e4 := fb_put_succ f (fun m => f (2 + i + m + 1)) (2 + i) (k - i)
      rw [show 2 + i + (k - i) = 2 + k by omega] at e4
      rw [e3, hs, show k + 1 - i = k - i + 1 by omega, ← e4]
    · rw [fX10_removeRound_l26, e0, if_neg (nI_ge (a := k) (b := r - 1) hk (by omega)), e1, e2, ck_t (inb_t (by omega) (by decide)), ck_t (inb_t (by omega) (by decide)), nI_clamp (by omega), nI_clamp (by omega), nI_1]
  have h1 : ∀ (n : Nat) (s : Nat → Int32), (i ≤ r - 1 ∧ s = fb_put f (fun m => f (2 + i + m + 1)) (2 + i) (r - 1 - i)) → fX10_removeRound_l26 P a p (n + 1) (nI (r - 1)) s = (fX10_ends (nI (r - 1)) P a p).bind (fun o2 => some (o2.1, s, o2.2.1, a, o2.2.2)) := by
    intro n s ⟨_, hs⟩
    have e0 : s 1 = nI (r - 1) := by rw [hs, fb_put_out (Or.inl (by omega)), hf]
    rw [fX10_removeRound_l26, e0, if_pos (nI_le (Nat.le_refl _) (by omega))]
  obtain ⟨s', hs, e⟩ := cinv (fun n k s => fX10_removeRound_l26 P a p n (nI k) s) (r - 1) (fun k s => i ≤ k ∧ s = fb_put f (fun m => f (2 + i + m + 1)) (2 + i) (k - i)) (fun s => (fX10_ends (nI (r - 1)) P a p).bind (fun o2 => some (o2.1, s, o2.2.1, a, o2.2.2))) h0 h1 fuel i f (by omega) (by have : fuel = 200 := rfl; omega) ⟨Nat.le_refl _, by rw [Nat.sub_self, fb_put_0]⟩
  show fX10_removeRound_l26 P a p fuel (nI i) f = _
  rw [e, hs.2]
theorem sim_removeRound (hS : SR sre sva sno sro t) (hH : HR size re va no ro P p) (a : Nat → Int32) (x : Int32) :
    ∃ o9 o10, fX9_removeRound x sre sva sno sro size b e v re va no ro = some o9 ∧ fX10_removeRound x t P a p = some o10 ∧ o9.1 = o10.1 ∧ SR o9.2.1 sva sno o9.2.2.1 o10.2.1 ∧ HR o9.2.2.2.1 o9.2.2.2.2.2.2.2.1 o9.2.2.2.2.2.2.2.2.1 o9.2.2.2.2.2.2.2.2.2.1 o9.2.2.2.2.2.2.2.2.2.2 o10.2.2.1 o10.2.2.2.2 := by
  obtain ⟨N, r, h⟩ := id hS
  obtain ⟨a1, a2, a3, a4, a5, a6, a7, a8, a9⟩ := id h
  unfold fX9_removeRound fX10_removeRound
  rw [hasRound_eq h, isRound_eq h, if_b, if_b]
  by_cases q : ndx r x = true
  · rw [if_pos q, if_pos q]
    obtain ⟨i, hi, rfl⟩ := ndx_of q (by omega)
    have e7 : t 1 - (1 : Int32) = nI (r - 1) := by rw [a7]; exact pk_sub (a := r) (b := 1) (by omega)
    unfold fX7_removeAt
    rw [hasRound_eq h, if_b, if_pos q, hold_eq, e7]
    simp only [bd_s]
    rw [removeL_eq a3 hi P _ p (upd t 1 (nI (r - 1))) (upd_same _ _ _), a5]
    have e8 : nI i + (1 : Int32) = nI (i + 1) := nI_1 i
    rw [e8, removeAt_eq a3 hi]
    obtain ⟨oH, P', p', q1, q2', q3⟩ := save_ends (b := b) (e := e) (v := v) hH hS (hold_at t a) (nI (r - 1))
    rw [← a5, q1, q2']
    simp only [bd_s]
    refine ⟨_, _, rfl, rfl, rfl, ⟨N, r - 1, a1, a2, by omega, a4, rfl, ?_, ?_, fun j hj => ?_, fun j hj => ?_⟩, q3⟩
    · dsimp only
      rw [fb_put_out (by omega), upd_ne _ _ (by omega)]; exact a6
    · dsimp only
      rw [fb_put_out (by omega), upd_same]
    · dsimp only
      by_cases z : i ≤ j
      · rw [fb_put_in z (by omega), fb_put_in (by omega) (by omega), upd_ne _ _ (by omega)]
        rw [show i + (j - i) + 1 = j + 1 by omega, show 2 + i + (2 + j - (2 + i)) + 1 = 2 + (j + 1) by omega]
        exact a8 (j + 1) (by omega)
      · rw [fb_put_out (by omega), fb_put_out (by omega), upd_ne _ _ (by omega)]
        exact a8 j (by omega)
    · dsimp only
      rw [fb_put_out (by omega), upd_ne _ _ (by omega)]
      exact a9 j hj
  · rw [if_neg q, if_neg q]
    exact ⟨_, _, rfl, rfl, rfl, hS, hH⟩
end SIM
/-! ===== the text ===== -/
def TR (cs : Nat → Int32) (len : Int32) (tx : Nat → Int32) (ty : Int32) : Prop := ∃ n, n ≤ 120 ∧ len = nI n ∧ ty = nI n ∧ ∀ i, i < n → cs i = tx i ∧ ∃ c, c < 256 ∧ tx i = nI c
theorem isFull8_eq {n : Nat} (hn : n ≤ 120) : fX8_isFull (nI n) = decide (n = 120) := by
  unfold fX8_isFull
  by_cases q : n = 120
  · subst q; rfl
  · rw [if_pos (show nI n < (120 : Int32) from nI_lt (b := 120) (by omega) (by decide)), decide_eq_false q]
theorem sim_appendCharacter {cs tx : Nat → Int32} {len ty : Int32} (hT : TR cs len tx ty) (x : Int32) :
    ∃ o9 o10, fX9_appendCharacter x cs len = some o9 ∧ fX10_appendCharacter x tx ty = some o10 ∧ o9.1 = o10.1 ∧ TR o9.2.1 o9.2.2 o10.2.1 o10.2.2 := by
  obtain ⟨n, hn, rfl, rfl, h⟩ := id hT
  unfold fX9_appendCharacter fX10_appendCharacter
  have e9 : fX10_in x (0 : Int32) (255 : Int32) = decide ((0 : Int) ≤ x.toInt ∧ x.toInt ≤ (255 : Int)) := in_rng (a := 0) (b := 255) x (by omega) (by omega)
  rw [e9, if_b, if_b, isFull8_eq hn]
  by_cases q : (0 : Int) ≤ x.toInt ∧ x.toInt ≤ (255 : Int)
  · obtain ⟨c, _, hc, rfl⟩ := rng_of (a := 0) (b := 255) q.1 q.2 (by omega)
    rw [if_pos (decide_eq_true q), if_neg (nI_pos (by omega)), if_pos (show nI c ≤ (255 : Int32) from nI_le (b := 255) hc (by decide))]
    rcases Nat.lt_or_ge n 120 with z | z
    · unfold fX8_append fX8_length
      rw [isFull8_eq hn, if_b, if_neg (show ¬ decide (n = 120) = true from fun w => by have := of_decide_eq_true w; omega), if_neg (show ¬ decide (n = 120) = true from fun w => by have := of_decide_eq_true w; omega), if_neg (show ¬ nI n = (120 : Int32) from fun z2 => by have := (nI_eq (a := n) (b := 120) (by omega) (by decide)).mp z2; omega), ck_t (inb_t z (by decide)), ck_t (inb_t z (by decide)), nI_clamp (by omega)]
      simp only [bd_s]
      have ec : vp_nar .char ((nI c).toUInt32 % 65536).toInt32 = nI c := by
        rw [pk_vc, pk_char, pk_tn (by omega), Nat.mod_eq_of_lt (by omega)]
      have e1 : nI n + (1 : Int32) = nI (n + 1) := nI_1 n
      rw [ec, e1]
      refine ⟨_, _, rfl, rfl, rfl, n + 1, by omega, rfl, rfl, fun i hi => ?_⟩
      show upd cs n (nI c) i = upd tx n (nI c) i ∧ _
      by_cases y : i = n
      · subst y; rw [upd_same, upd_same]; exact ⟨rfl, c, by omega, by show upd tx i (nI c) i = _; rw [upd_same]⟩
      · rw [upd_ne _ _ y, upd_ne _ _ y]
        obtain ⟨g1, c2, g2, g3⟩ := h i (by omega)
        exact ⟨g1, c2, g2, by show upd tx n (nI c) i = _; rw [upd_ne _ _ y]; exact g3⟩
    · have e : n = 120 := by omega
      subst e
      exact ⟨_, _, rfl, rfl, rfl, hT⟩
  · rw [if_neg (show ¬ decide ((0 : Int) ≤ x.toInt ∧ x.toInt ≤ (255 : Int)) = true from fun z => q (of_decide_eq_true z))]
    by_cases q3 : x < 0
    · rw [if_pos q3]
      exact ⟨_, _, rfl, rfl, rfl, hT⟩
    · have q4 : ¬ x ≤ (255 : Int32) := fun z => q ⟨by rw [fa_lt] at q3; have : (0 : Int32).toInt = 0 := rfl; omega, by rw [fa_le] at z; exact z⟩
      rw [if_neg q3, if_neg q4]
      exact ⟨_, _, rfl, rfl, rfl, hT⟩
theorem sim_clearText {cs tx : Nat → Int32} {len ty : Int32} (hT : TR cs len tx ty) : (fX9_clearText len).1 = (fX10_clearText ty).1 ∧ TR cs (fX9_clearText len).2 tx (fX10_clearText ty).2 := by
  obtain ⟨n, hn, rfl, rfl, h⟩ := hT
  exact ⟨rfl, 0, by omega, rfl, rfl, fun i hi => by omega⟩
