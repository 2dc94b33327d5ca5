/-! ===== flooding over many steps: heard, decision ===== -/
def KK (re : Nat → Int32) (r N f : Nat) : Nat → Nat → Int32
  | 0 => fun a => bit a
  | k + 1 => kst N (eAt re r (f + k)) (KK re r N f k)
section FL2
variable {N r : Nat} {re va : Nat → Int32} {no ro : Int32} {t : Nat → Int32}
theorem spreads_K (h : SRn N r re va no ro t) {f k : Nat} (hs : f + k < 10000) {K : Nat → Int32} (Th : Nat → Int32) (hK : ∀ a, a < 8 → K a = KK re r N f k a) : ∃ K' Th', fX10_spreads (nI (f + k)) t K Th = some (K', Th') ∧ ∀ a, a < 8 → K' a = KK re r N f (k + 1) a := by
  obtain ⟨K', Th', q1, q2⟩ := spreads_eq h hs K Th
  exact ⟨K', Th', q1, fun a ha => by rw [q2 a ha]; exact kst_congr h.2.1 _ hK a ha⟩
theorem advance_K (h : SRn N r re va no ro t) {f k : Nat} (hs : f + k < 10000) {K : Nat → Int32} (Kb : Nat → Int32) (hK : ∀ a, a < 8 → K a = KK re r N f k a) : ∃ K' Kb', fX3_advance K Kb (nI (f + k)) re no ro = some (K', Kb', nI (f + (k + 1))) ∧ ∀ a, a < 8 → K' a = KK re r N f (k + 1) a := by
  obtain ⟨K', Kb', q1, q2⟩ := advance_eq h hs K Kb
  exact ⟨K', Kb', q1, fun a ha => by rw [q2 a ha]; exact kst_congr h.2.1 _ hK a ha⟩
theorem put_bit {f : Nat} (K : Nat → Int32) : ∀ a, a < 8 → fb_put K bit 0 8 a = KK re r N f 0 a := fun a ha => fb_put_in (Nat.zero_le _) (by omega)
theorem floods_eq (h : SRn N r re va no ro t) {f n : Nat} (hf : f < 1000) (hn : n < 200) (K Th : Nat → Int32) : ∃ K' Th', fX10_floods (nI f) (nI n) t K Th = some (K', Th') ∧ ∀ a, a < 8 → K' a = KK re r N f n a := by
  unfold fX10_floods
  rw [alone_eq, bd_s]
  have g0 : ∀ (m i : Nat) (s : (Nat → Int32) × (Nat → Int32)), i < n → (∀ a, a < 8 → s.1 a = KK re r N f i a) → ∃ s' : (Nat → Int32) × (Nat → Int32), (∀ a, a < 8 → s'.1 a = KK re r N f (i + 1) a) ∧ fX10_floods_l6 (nI f) (nI n) t (m + 1) (nI i) s.1 s.2 = fX10_floods_l6 (nI f) (nI n) t m (nI (i + 1)) s'.1 s'.2 := by
    intro m i s hi hs
    obtain ⟨K', Th', q1, q2⟩ := spreads_K h (f := f) (k := i) (by omega) s.2 hs
    rw [fX10_floods_l6, if_neg (nI_ge hi (by omega)), nI_add, q1, bd_s, nI_1]
    exact ⟨(K', Th'), q2, rfl⟩
  have g1 : ∀ (m : Nat) (s : (Nat → Int32) × (Nat → Int32)), (∀ a, a < 8 → s.1 a = KK re r N f n a) → fX10_floods_l6 (nI f) (nI n) t (m + 1) (nI n) s.1 s.2 = some (s.1, s.2) := by
    intro m s _
    rw [fX10_floods_l6, if_pos (nI_le (Nat.le_refl n) (by omega))]
  obtain ⟨s', hs, q⟩ := cinv (fun m i (s : (Nat → Int32) × (Nat → Int32)) => fX10_floods_l6 (nI f) (nI n) t m (nI i) s.1 s.2) n (fun i s => ∀ a, a < 8 → s.1 a = KK re r N f i a) (fun s => some (s.1, s.2)) g0 g1 fuel 0 (fb_put K bit 0 8, Th) (Nat.zero_le _) (by have : fuel = 200 := rfl; omega) (put_bit K)
  exact ⟨s'.1, s'.2, q, hs⟩
theorem advanceBy_eq (h : SRn N r re va no ro t) {f n : Nat} (hf : f < 1000) (hn : n < 200) {K : Nat → Int32} (Kb : Nat → Int32) (hK : ∀ a, a < 8 → K a = KK re r N f 0 a) : ∃ K' Kb', fX3_advanceBy (nI n) K Kb (nI f) re no ro = some (K', Kb', nI (f + n)) ∧ ∀ a, a < 8 → K' a = KK re r N f n a := by
  unfold fX3_advanceBy
  have g0 : ∀ (m i : Nat) (s : (Nat → Int32) × (Nat → Int32)), i < n → (∀ a, a < 8 → s.1 a = KK re r N f i a) → ∃ s' : (Nat → Int32) × (Nat → Int32), (∀ a, a < 8 → s'.1 a = KK re r N f (i + 1) a) ∧ fX3_advanceBy_l2 (nI n) re no ro (m + 1) (nI i) s.1 s.2 (nI (f + i)) = fX3_advanceBy_l2 (nI n) re no ro m (nI (i + 1)) s'.1 s'.2 (nI (f + (i + 1))) := by
    intro m i s hi hs
    obtain ⟨K', Th', q1, q2⟩ := advance_K h (f := f) (k := i) (by omega) s.2 hs
    rw [fX3_advanceBy_l2, if_neg (nI_ge hi (by omega)), q1, bd_s, nI_1]
    exact ⟨(K', Th'), q2, rfl⟩
  have g1 : ∀ (m : Nat) (s : (Nat → Int32) × (Nat → Int32)), (∀ a, a < 8 → s.1 a = KK re r N f n a) → fX3_advanceBy_l2 (nI n) re no ro (m + 1) (nI n) s.1 s.2 (nI (f + n)) = some (s.1, s.2, nI (f + n)) := by
    intro m s _
    rw [fX3_advanceBy_l2, if_pos (nI_le (Nat.le_refl n) (by omega))]
  obtain ⟨s', hs, q⟩ := cinv (fun m i (s : (Nat → Int32) × (Nat → Int32)) => fX3_advanceBy_l2 (nI n) re no ro m (nI i) s.1 s.2 (nI (f + i))) n (fun i s => ∀ a, a < 8 → s.1 a = KK re r N f i a) (fun s => some (s.1, s.2, nI (f + n))) g0 g1 fuel 0 (K, Kb) (Nat.zero_le _) (by have : fuel = 200 := rfl; omega) hK
  exact ⟨s'.1, s'.2, q, hs⟩
theorem tokensOf_eq (h : SRn N r re va no ro t) (K : Nat → Int32) {a : Nat} (ha : a < N) : fX3_tokensOf (nI a) K no = some (K a) := by
  have hN := h.2.1
  unfold fX3_tokensOf
  rw [hasNode_eq h, if_b, if_pos (ndx_t ha (by omega)), ck_t (inb_t (by omega) (by decide)), nI_clamp (by omega)]
theorem isStep_eq (x : Int32) : fX9_isStep x = ndx 100 x := by
  have e : fX9_isStep x = fX10_in x (nI 0) (nI 99) := rfl
  rw [e, in_rng x (by decide) (by decide)]
  unfold ndx
  congr 1
  exact propext ⟨fun z => ⟨z.1, by have := z.2; omega⟩, fun z => ⟨z.1, by have := z.2; omega⟩⟩
theorem isTime_eq (x : Int32) : fX10_isTime x = ndx 100 x := isStep_eq x
theorem KK_self {f : Nat} (hN : N ≤ 8) (k : Nat) {a : Nat} (ha : a < 8) : bt (KK re r N f k a) a = true := by
  induction k with
  | zero => exact bit_self (by omega)
  | succ k ih => exact (kst_bits hN _ _ a).mpr (Or.inl ih)
theorem sim_heard (hS : SR re va no ro t) (x y z : Int32) (Fk Fb : Nat → Int32) (Fs : Int32) (Tk Tt : Nat → Int32) : ∃ o9 o10, fX9_heard x y z re no ro Fk Fb Fs = some o9 ∧ fX10_heard x y z t Tk Tt = some o10 ∧ o9.1 = o10.1 := by
  obtain ⟨N, r, h⟩ := id hS
  have hN := h.2.1
  unfold fX9_heard fX10_heard
  rw [hasNode_eq h, isNode_eq h, isStep_eq, isStep_eq, isTime_eq, isTime_eq, if_b, if_b, if_b, if_b, if_b, if_b]
  by_cases q : ndx N x = true
  · by_cases q2 : ndx 100 y = true
    · by_cases q3 : ndx 100 z = true
      · rw [if_pos q, if_pos q, if_pos q2, if_pos q2, if_pos q3, if_pos q3]
        obtain ⟨a, ha, rfl⟩ := ndx_of q (by omega)
        obtain ⟨f, hf, rfl⟩ := ndx_of q2 (by omega)
        obtain ⟨n, hn, rfl⟩ := ndx_of q3 (by omega)
        obtain ⟨K', Th', p1, p2⟩ := floods_eq h (f := f) (n := n) (by omega) (by omega) Tk Tt
        obtain ⟨K2, Kb2, p3, p4⟩ := advanceBy_eq h (f := f) (n := n) (by omega) (by omega) (K := fb_put Fk bit 0 8) Fb (put_bit Fk)
        rw [begin_eq, bd_s, p1, bd_s]
        dsimp only
        rw [p3, bd_s, tokensOf_eq h _ ha, bd_s, ck_t (inb_t (by omega) (by decide)), nI_clamp (by omega)]
        refine ⟨_, _, rfl, rfl, ?_⟩
        dsimp only
        rw [p2 a (by omega), p4 a (by omega)]
      · rw [if_pos q, if_pos q, if_pos q2, if_pos q2, if_neg q3, if_neg q3]; exact ⟨_, _, rfl, rfl, rfl⟩
    · rw [if_pos q, if_pos q, if_neg q2, if_neg q2]; exact ⟨_, _, rfl, rfl, rfl⟩
  · rw [if_neg q, if_neg q]; exact ⟨_, _, rfl, rfl, rfl⟩
/-- the smallest value of a set of tokens -/
def mv (va : Nat → Int32) (N : Nat) (S : Int32) : Int32 := itr (fun i m => if bt S i = true then (if va i < m then va i else m) else m) 0 N 99
theorem smallestValue_eq (h : SRn N r re va no ro t) (S : Int32) : fX7_smallestValue S va no = some (mv va N S) := by
  obtain ⟨a1, a2, a3, a4, a5, a6, a7, a8, a9⟩ := id h
  unfold fX7_smallestValue mv
  have := cdet (fun n i m => fX7_smallestValue_l5 S va no n m (nI i)) N (fun i m => if bt S i = true then (if va i < m then va i else m) else m) some (fun n i m hi => ?_) (fun n m => ?_) fuel 0 99 (Nat.zero_le _) (by have : fuel = 200 := rfl; omega)
  · exact this
  · show fX7_smallestValue_l5 S va no (n + 1) m (nI i) = _
    have e : ¬ no ≤ nI i := by rw [a4]; exact nI_ge hi (by omega)
    rw [fX7_smallestValue_l5, if_neg e, has_eq S (by omega), if_b, nI_1, ck_t (inb_t (by omega) (by decide)), nI_clamp (by omega)]
    cases bt S i
    · rw [if_neg (by simp), if_neg (by simp)]
    · rw [if_pos rfl, if_pos rfl]
  · show fX7_smallestValue_l5 S va no (n + 1) m (nI N) = _
    have e : no ≤ nI N := by rw [a4]; exact nI_le (Nat.le_refl N) (by omega)
    rw [fX7_smallestValue_l5, if_pos e]
theorem sh1_1 (x : Int32) {i : Nat} (hi : i < 32) : ((x >>> (nI i &&& 31)) &&& (1 : Int32)) = 1 ↔ bt x i = true := by
  rw [sh1 x hi]
  cases bt x i <;> simp
theorem least_eq (h : SRn N r re va no ro t) (K : Nat → Int32) {a b : Nat} (ha : a < N) (hb : b < N) (hab : bt (K a) b = true) : fX10_least (nI a) t K = some (mv va N (K a)) := by
  obtain ⟨a1, a2, a3, a4, a5, a6, a7, a8, a9⟩ := id h
  unfold fX10_least mv
  generalize hg : (fun (i : Nat) (m : Int32) => if bt (K a) i = true then (if va i < m then va i else m) else m) = g
  have g0 : ∀ (n i : Nat) (s : Int32), i < N → (s = itr g 0 i 99 ∨ (s = 100 ∧ itr g 0 i 99 = 99 ∧ ∀ j, j < i → bt (K a) j = false)) → ∃ s', (s' = itr g 0 (i + 1) 99 ∨ (s' = 100 ∧ itr g 0 (i + 1) 99 = 99 ∧ ∀ j, j < i + 1 → bt (K a) j = false)) ∧ fX10_least_l5 (nI a) t K (n + 1) s (nI i) = fX10_least_l5 (nI a) t K n s' (nI (i + 1)) := by
    intro n i s hi hs
    have e1 : (18 : Int32) + nI i = nI (18 + i) := nI_add 18 i
    have e2 : itr g 0 (i + 1) 99 = g i (itr g 0 i 99) := by rw [itr_succ, Nat.zero_add]
    rw [fX10_least_l5, a6, if_neg (nI_ge hi (by omega)), ck_t (inb_t (by omega) (by decide)), nI_clamp (by omega), e1, ck_t (inb_t (by omega) (by decide)), nI_clamp (by omega), ← (a9 i (by omega)).1]
    obtain ⟨v, hv, ev⟩ := (a9 i (by omega)).2
    cases hc : bt (K a) i
    · rw [if_neg (fun z => by have := (sh1_1 _ (by omega)).mp z; rw [hc] at this; cases this)]
      unfold fX10_least_b47
      rw [if_pos rfl, nI_1]
      refine ⟨s, ?_, rfl⟩
      have e3 : itr g 0 (i + 1) 99 = itr g 0 i 99 := by rw [e2, ← hg]; dsimp only; rw [hc, if_neg (by simp)]
      rw [e3]
      rcases hs with q | ⟨q1, q2, q3⟩
      · exact Or.inl q
      · refine Or.inr ⟨q1, q2, fun j hj => ?_⟩
        by_cases z : j = i
        · subst z; exact hc
        · exact q3 j (by omega)
    · rw [if_pos ((sh1_1 _ (by omega)).mpr hc)]
      have e3 : itr g 0 (i + 1) 99 = if va i < itr g 0 i 99 then va i else itr g 0 i 99 := by rw [e2, ← hg]; dsimp only; rw [hc, if_pos rfl]
      have e4 : ∀ y0, fX10_least_b47 (fX10_least_l5 (nI a) t K n) (nI a) s (nI i) y0 t K = fX10_least_l5 (nI a) t K n (if y0 = 0 then s else va i) (nI (i + 1)) := by
        intro y0
        unfold fX10_least_b47
        rw [e1, ck_t (inb_t (by omega) (by decide)), nI_clamp (by omega), ← (a9 i (by omega)).1, nI_1]
        by_cases z : y0 = 0
        · rw [if_pos z, if_pos z]
        · rw [if_neg z, if_neg z]
      rw [e4, e4, if_pos (show (0 : Int32) = 0 from rfl), if_neg (show ¬ (1 : Int32) = 0 by decide)]
      refine ⟨if s ≤ va i then s else va i, Or.inl ?_, ?_⟩
      · rw [e3]
        rcases hs with q | ⟨q1, q2, q3⟩
        · rw [q]
          by_cases z : itr g 0 i 99 ≤ va i
          · rw [if_pos z, if_neg (fun w => by rw [fa_lt] at w; rw [fa_le] at z; omega)]
          · rw [if_neg z, if_pos (by rw [fa_lt]; rw [fa_le] at z; omega)]
        · rw [q1, q2, ev, if_neg (show ¬ (100 : Int32) ≤ nI v from nI_ge (b := 100) hv (by decide))]
          by_cases z : v = 99
          · subst z; rfl
          · have e5 : nI v < (99 : Int32) := nI_lt (b := 99) (by omega) (by decide)
            rw [if_pos e5]
      · by_cases z : s ≤ va i
        · rw [if_pos z, if_pos z]
        · rw [if_neg z, if_neg z]
  have g1 : ∀ (n : Nat) (s : Int32), (s = itr g 0 N 99 ∨ (s = 100 ∧ itr g 0 N 99 = 99 ∧ ∀ j, j < N → bt (K a) j = false)) → fX10_least_l5 (nI a) t K (n + 1) s (nI N) = some s := by
    intro n s _
    rw [fX10_least_l5, a6, if_pos (nI_le (Nat.le_refl N) (by omega))]
  obtain ⟨s', hs, q⟩ := cinv (fun n i s => fX10_least_l5 (nI a) t K n s (nI i)) N (fun i s => s = itr g 0 i 99 ∨ (s = 100 ∧ itr g 0 i 99 = 99 ∧ ∀ j, j < i → bt (K a) j = false)) some g0 g1 fuel 0 100 (Nat.zero_le _) (by have : fuel = 200 := rfl; omega) (Or.inr ⟨rfl, rfl, fun j hj => by omega⟩)
  have q' : fX10_least_l5 (nI a) t K fuel 100 0 = some s' := q
  rw [q']
  rcases hs with z | ⟨_, _, z⟩
  · rw [z]
  · have := z b hb; rw [hab] at this; cases this
theorem sim_decision (hS : SR re va no ro t) (x z : Int32) (Fk Fb : Nat → Int32) (Fs : Int32) (Tk Tt : Nat → Int32) : ∃ o9 o10, fX9_decision x z re va no ro Fk Fb Fs = some o9 ∧ fX10_decision x z t Tk Tt = some o10 ∧ o9.1 = o10.1 := by
  obtain ⟨N, r, h⟩ := id hS
  have hN := h.2.1
  unfold fX9_decision fX10_decision
  rw [hasNode_eq h, isNode_eq h, isStep_eq, isTime_eq, if_b, if_b, if_b, if_b]
  by_cases q : ndx N x = true
  · by_cases q3 : ndx 100 z = true
    · rw [if_pos q, if_pos q, if_pos q3, if_pos q3]
      obtain ⟨a, ha, rfl⟩ := ndx_of q (by omega)
      obtain ⟨n, hn, rfl⟩ := ndx_of q3 (by omega)
      obtain ⟨K', Th', p1, p2⟩ := floods_eq h (f := 0) (n := n) (by omega) (by omega) Tk Tt
      obtain ⟨K2, Kb2, p3, p4⟩ := advanceBy_eq h (f := 0) (n := n) (by omega) (by omega) (K := fb_put Fk bit 0 8) Fb (put_bit Fk)
      change fX10_floods 0 (nI n) t Tk Tt = _ at p1
      change fX3_advanceBy (nI n) (fb_put Fk bit 0 8) Fb 0 re no ro = _ at p3
      rw [begin_eq, bd_s, p1, bd_s]
      dsimp only
      rw [p3, bd_s, tokensOf_eq h _ ha, bd_s, smallestValue_eq h, bd_s]
      have hs : bt (K' a) a = true := by rw [p2 a (by omega)]; exact KK_self hN n (by omega)
      rw [least_eq h K' ha ha hs, bd_s]
      refine ⟨_, _, rfl, rfl, ?_⟩
      dsimp only
      rw [p2 a (by omega), p4 a (by omega)]
    · rw [if_pos q, if_pos q, if_neg q3, if_neg q3]; exact ⟨_, _, rfl, rfl, rfl⟩
  · rw [if_neg q, if_neg q]; exact ⟨_, _, rfl, rfl, rfl⟩
end FL2
