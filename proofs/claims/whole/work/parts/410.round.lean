/-! ===== numbers of a round ===== -/
/-- a is the smallest node of its component -/
def low (e : Int32) (N a : Nat) : Bool := decide (∀ l, l < a → bt (cm e N a) l = false)
theorem components10_eq {N r : Nat} {re va : Nat → Int32} {no ro : Int32} {t : Nat → Int32} (h : SRn N r re va no ro t) (e : Int32) : fX10_components e t = some (nI (fb_ct (low e N) N)) := by
  have hN := h.2.1
  have h0 : t 0 = nI N := h.2.2.2.2.2.1
  unfold fX10_components
  have g0 : ∀ (n i : Nat) (s : Int32), i < N → s = nI (fb_ct (low e N) i) → ∃ s', s' = nI (fb_ct (low e N) (i + 1)) ∧ fX10_components_l4 e t (n + 1) s (nI i) = fX10_components_l4 e t n s' (nI (i + 1)) := by
    intro n i s hi hs
    refine ⟨_, rfl, ?_⟩
    have e1 : fX10_componentOf e (nI i) t = some (cm e N i) := by rw [componentOf_eq h, compN_eq e hN hi]; rfl
    obtain ⟨m, hm1, hm2, hm3⟩ := fb_first (p := fun k => bt (cm e N i) k = true) (n := i + 1) ⟨i, by omega, cm_self e hN hi⟩
    have e2 : fX10_lowest (cm e N i) = some (nI m) := lowest_eq _ (by omega) hm2 (fun k hk => ts_nt' (hm3 k hk))
    rw [fX10_components_l4, h0, if_neg (nI_ge hi (by omega)), e1, bd_s, e2, bd_s, nI_1, hs, fb_ct_succ]
    by_cases q : m = i
    · subst q
      have hl : low e N m = true := decide_eq_true (fun l hl => ts_nt' (hm3 l hl))
      rw [if_pos rfl, hl]
      show fX10_components_l4 e t n (nI _ + 1) _ = _
      rw [nI_1]; rfl
    · have hl : low e N i = false := decide_eq_false (fun z => by have := z m (by omega); rw [hm2] at this; cases this)
      rw [if_neg (fun z => q ((nI_eq (by omega) (by omega)).mp z)), hl]
      show fX10_components_l4 e t n (nI _ + nI 0) _ = _
      rw [nI_add]; rfl
  have g1 : ∀ (n : Nat) (s : Int32), s = nI (fb_ct (low e N) N) → fX10_components_l4 e t (n + 1) s (nI N) = some s := by
    intro n s _
    rw [fX10_components_l4, h0, if_pos (nI_le (Nat.le_refl N) (by omega))]
  obtain ⟨s', hs, q⟩ := cinv (fun n i s => fX10_components_l4 e t n s (nI i)) N (fun i s => s = nI (fb_ct (low e N) i)) some g0 g1 fuel 0 0 (Nat.zero_le _) (by have : fuel = 200 := rfl; omega) rfl
  show fX10_components_l4 e t fuel 0 (nI 0) = _
  rw [q, hs]
theorem components9_eq {N : Nat} (hN1 : 1 ≤ N) (hN : N ≤ 8) (e : Int32) : fX2_components e (nI N) = some (nI (fb_ct (low e N) N)) := by
  unfold fX2_components
  have g0 : ∀ (n i : Nat) (s : Int32 × Int32), i < N → (s.1 = nI (fb_ct (low e N) i) ∧ ∀ k, k < 32 → (bt s.2 k = true ↔ ∃ j, j < i ∧ bt (cm e N j) k = true)) → ∃ s' : Int32 × Int32, (s'.1 = nI (fb_ct (low e N) (i + 1)) ∧ ∀ k, k < 32 → (bt s'.2 k = true ↔ ∃ j, j < i + 1 ∧ bt (cm e N j) k = true)) ∧ fX2_components_l7 e (nI N) (n + 1) s.1 s.2 (nI i) = fX2_components_l7 e (nI N) n s'.1 s'.2 (nI (i + 1)) := by
    intro n i s hi ⟨hs1, hs2⟩
    rw [fX2_components_l7, if_neg (nI_ge hi (by omega)), has_eq s.2 (by omega), if_b, nI_1]
    cases hb : bt s.2 i
    · rw [if_neg (by simp), component_eq hN hi, bd_s]
      refine ⟨(s.1 + 1, s.2 ||| cm e N i), ⟨?_, fun k hk => ?_⟩, rfl⟩
      · have hl : low e N i = true := decide_eq_true (fun l hl => ts_nt' (fun z => by
          have h1 : bt (cm e N l) i = true := cm_symm e hN hi (by omega) z
          have := (hs2 i (by omega)).mpr ⟨l, hl, h1⟩
          rw [hb] at this; cases this))
        rw [fb_ct_succ, hl, hs1]
        exact nI_1 _
      · show bt (s.2 ||| cm e N i) k = true ↔ _
        rw [b_or, Bool.or_eq_true, hs2 k hk]
        constructor
        · rintro (⟨j, q1, q2⟩ | q)
          · exact ⟨j, by omega, q2⟩
          · exact ⟨i, by omega, q⟩
        · rintro ⟨j, q1, q2⟩
          by_cases z : j = i
          · subst z; exact Or.inr q2
          · exact Or.inl ⟨j, by omega, q2⟩
    · rw [if_pos rfl]
      obtain ⟨j, hj, hji⟩ := (hs2 i (by omega)).mp hb
      refine ⟨s, ⟨?_, fun k hk => ?_⟩, rfl⟩
      · have hl : low e N i = false := decide_eq_false (fun z => by
          have h1 : bt (cm e N i) j = true := cm_symm e hN (by omega) (by omega) hji
          have := z j hj
          rw [h1] at this; cases this)
        rw [fb_ct_succ, hl, hs1]
        rfl
      · rw [hs2 k hk]
        constructor
        · rintro ⟨l, q1, q2⟩
          exact ⟨l, by omega, q2⟩
        · rintro ⟨l, q1, q2⟩
          by_cases z : l = i
          · subst z
            exact ⟨j, hj, cm_trans e hN (by omega) hi hji hk q2⟩
          · exact ⟨l, by omega, q2⟩
  have g1 : ∀ (n : Nat) (s : Int32 × Int32), (s.1 = nI (fb_ct (low e N) N) ∧ ∀ k, k < 32 → (bt s.2 k = true ↔ ∃ j, j < N ∧ bt (cm e N j) k = true)) → fX2_components_l7 e (nI N) (n + 1) s.1 s.2 (nI N) = some s.1 := by
    intro n s _
    rw [fX2_components_l7, if_pos (nI_le (Nat.le_refl N) (by omega))]
  obtain ⟨s', hs, q⟩ := cinv (fun n i (s : Int32 × Int32) => fX2_components_l7 e (nI N) n s.1 s.2 (nI i)) N (fun i s => s.1 = nI (fb_ct (low e N) i) ∧ ∀ k, k < 32 → (bt s.2 k = true ↔ ∃ j, j < i ∧ bt (cm e N j) k = true)) (fun s => some s.1) g0 g1 fuel 0 (0, 0) (Nat.zero_le _) (by have : fuel = 200 := rfl; omega) ⟨rfl, fun k hk => by simp [b_0]⟩
  show fX2_components_l7 e (nI N) fuel 0 0 (nI 0) = _
  rw [q, hs.1]
/-- the neighbours of a node -/
theorem neighbours_eq {N a : Nat} (hN : N ≤ 8) (ha : a < N) (e : Int32) : ∃ R, fX2_neighbours e (nI a) (nI N) = some R ∧ ∀ k, k < 32 → (bt R k = true ↔ k < N ∧ k ≠ a ∧ adj e a k) := by
  unfold fX2_neighbours
  have g0 : ∀ (n i : Nat) (s : Int32), i < N → (∀ k, k < 32 → (bt s k = true ↔ k < i ∧ k ≠ a ∧ adj e a k)) → ∃ s', (∀ k, k < 32 → (bt s' k = true ↔ k < i + 1 ∧ k ≠ a ∧ adj e a k)) ∧ fX2_neighbours_l5 e (nI a) (nI N) (n + 1) s (nI i) = fX2_neighbours_l5 e (nI a) (nI N) n s' (nI (i + 1)) := by
    intro n i s hi hs
    rw [fX2_neighbours_l5, if_neg (nI_ge hi (by omega)), nI_1]
    by_cases q : i = a
    · subst q
      rw [if_pos rfl]
      refine ⟨s, fun k hk => ?_, rfl⟩
      rw [hs k hk]
      constructor
      · rintro ⟨q1, q2⟩; exact ⟨by omega, q2⟩
      · rintro ⟨q1, q2⟩; exact ⟨by have := q2.1; omega, q2⟩
    · rw [if_neg (fun z => q ((nI_eq (by omega) (by omega)).mp z)), connects_eq e (by omega) (by omega), if_b]
      cases hb : bt e (pix a i)
      · rw [if_neg (by simp)]
        refine ⟨s, fun k hk => ?_, rfl⟩
        rw [hs k hk]
        constructor
        · rintro ⟨q1, q2⟩; exact ⟨by omega, q2⟩
        · rintro ⟨q1, q2, q3⟩
          refine ⟨?_, q2, q3⟩
          by_cases z : k = i
          · subst z; unfold adj at q3; rw [hb] at q3; cases q3
          · omega
      · rw [if_pos rfl, of_eq]
        refine ⟨s ||| bit i, fun k hk => ?_, rfl⟩
        rw [b_or, Bool.or_eq_true, hs k hk, bt_bit (by omega) k hk, decide_eq_true_eq]
        constructor
        · rintro (⟨q1, q2⟩ | rfl)
          · exact ⟨by omega, q2⟩
          · exact ⟨by omega, q, hb⟩
        · rintro ⟨q1, q2, q3⟩
          by_cases z : k = i
          · exact Or.inr z
          · exact Or.inl ⟨by omega, q2, q3⟩
  have g1 : ∀ (n : Nat) (s : Int32), (∀ k, k < 32 → (bt s k = true ↔ k < N ∧ k ≠ a ∧ adj e a k)) → fX2_neighbours_l5 e (nI a) (nI N) (n + 1) s (nI N) = some s := by
    intro n s _
    rw [fX2_neighbours_l5, if_pos (nI_le (Nat.le_refl N) (by omega))]
  obtain ⟨s', hs, q⟩ := cinv (fun n i s => fX2_neighbours_l5 e (nI a) (nI N) n s (nI i)) N (fun i s => ∀ k, k < 32 → (bt s k = true ↔ k < i ∧ k ≠ a ∧ adj e a k)) some g0 g1 fuel 0 0 (Nat.zero_le _) (by have : fuel = 200 := rfl; omega) (fun k hk => by simp [b_0])
  exact ⟨s', q, hs⟩
theorem deg_eq {N a : Nat} (hN : N ≤ 8) (ha : a < N) (e : Int32) {R : Int32} (hR : ∀ k, k < 32 → (bt R k = true ↔ k < N ∧ k ≠ a ∧ adj e a k)) : fX10_size (sp e N (bit a)) = some (fJ6_bitCount_0f7a4 R + 1) ∧ fb_ct (bt R) 32 < 1000 := by
  have hlt : fb_ct (bt R) 32 < 1000 := by have := fb_ct_le (bt R) 32; omega
  refine ⟨?_, hlt⟩
  have hE : E28 (sp e N (bit a)) := fun k hk => by
    rcases Nat.lt_or_ge k 32 with q | q
    · refine ts_nt' (fun z => ?_)
      rcases (sp_bits e hN _ q).mp z with y | y
      · have := bit_in ha hN k q y; omega
      · omega
    · exact b_big q
  rw [size_eq, bitCount_eq, ← ct_28 hE]
  have h1 := fb_ct_upd (bt R) true (i := a) (n := 32) (by omega)
  have h2 : bt R a = false := ts_nt' (fun z => absurd rfl ((hR a (by omega)).mp z).2.1)
  rw [h2] at h1
  change fb_ct (fun j => if j = a then true else bt R j) 32 + 0 = fb_ct (bt R) 32 + 1 at h1
  have h3 : fb_ct (bt (sp e N (bit a))) 32 = fb_ct (fun j => if j = a then true else bt R j) 32 := fb_ct_cong (fun k hk => by
    by_cases z : k = a
    · subst z
      rw [if_pos rfl]
      exact (sp_bits e hN _ hk).mpr (Or.inl (bit_self (by omega)))
    · rw [if_neg z]
      have h4 : bt (sp e N (bit a)) k = true ↔ bt R k = true := by
        rw [sp_bits e hN _ hk, hR k hk]
        constructor
        · rintro (y | ⟨y1, j, y2, y3, y4, y5⟩)
          · rw [bt_bit (by omega) k hk] at y; exact absurd (of_decide_eq_true y) z
          · rw [bt_bit (by omega) j (by omega)] at y5
            have := of_decide_eq_true y5
            subst this
            exact ⟨y1, z, (adj_comm (by omega) (by omega) z).mp y4⟩
        · rintro ⟨y1, y2, y3⟩
          exact Or.inr ⟨y1, a, ha, fun w => z w.symm, (adj_comm (by omega) (by omega) (fun w => z w.symm)).mp y3, bit_self (by omega)⟩
      cases hp : bt (sp e N (bit a)) k
      · cases hq : bt R k
        · rfl
        · rw [h4.mpr hq] at hp; cases hp
      · exact (h4.mp hp).symm)
  rw [h3, show fb_ct (fun j => if j = a then true else bt R j) 32 = fb_ct (bt R) 32 + 1 by omega]
  show _ = some (nI _ + 1)
  rw [nI_1]
theorem degree_both {N r : Nat} {re va : Nat → Int32} {no ro : Int32} {t : Nat → Int32} (h : SRn N r re va no ro t) (e : Int32) : ∃ o, fX2_greatestDegree e (nI N) = some o ∧ fX10_degree e t = some o := by
  have hN := h.2.1
  have h0 : t 0 = nI N := h.2.2.2.2.2.1
  unfold fX2_greatestDegree fX10_degree
  have key : ∀ (n i : Nat) (s : Int32), i ≤ N → N < n + i → ∃ o, fX2_greatestDegree_l4 e (nI N) n s (nI i) = some o ∧ fX10_degree_l4 e t n s (nI i) = some o := by
    intro n
    induction n with
    | zero => intro i s q1 q2; omega
    | succ n ih =>
      intro i s q1 q2
      rw [fX2_greatestDegree_l4, fX10_degree_l4, h0]
      rcases Nat.lt_or_ge i N with q | q
      · obtain ⟨R, hR1, hR2⟩ := neighbours_eq hN q e
        have e1 : fX10_around e ((1 : Int32) <<< (nI i &&& 31)) t = some (sp e N (bit i)) := around_eq h e (bit i)
        obtain ⟨hd, hlt⟩ := deg_eq hN q e hR2
        have e2 : fJ6_bitCount_0f7a4 R + 1 - (1 : Int32) = fJ6_bitCount_0f7a4 R := by
          rw [bitCount_eq]; exact (by rw [nI_1]; exact nI_pred _)
        rw [if_neg (nI_ge q (by omega)), if_neg (nI_ge q (by omega)), hR1, bd_s, e1, bd_s, hd, bd_s, e2, nI_1]
        by_cases z : fJ6_bitCount_0f7a4 R ≤ s
        · have z2 : ¬ s < fJ6_bitCount_0f7a4 R := fun w => by rw [fa_lt] at w; rw [fa_le] at z; omega
          rw [if_pos z, if_neg z2]
          exact ih (i + 1) s (by omega) (by omega)
        · have z2 : s < fJ6_bitCount_0f7a4 R := by rw [fa_lt]; rw [fa_le] at z; omega
          rw [if_neg z, if_pos z2]
          exact ih (i + 1) _ (by omega) (by omega)
      · have e3 : i = N := by omega
        subst e3
        rw [if_pos (nI_le (Nat.le_refl _) (by omega)), if_pos (nI_le (Nat.le_refl _) (by omega))]
        exact ⟨_, rfl, rfl⟩
  exact key fuel 0 0 (Nat.zero_le _) (by have : fuel = 200 := rfl; omega)
section SIM
variable {sre sva : Nat → Int32} {sno sro : Int32} {t : Nat → Int32}
theorem sim_round (hS : SR sre sva sno sro t) (x y : Int32) : ∃ o9 o10, fX9_round x y sre sno sro = some o9 ∧ fX10_round x y t = some o10 ∧ o9 = o10 := by
  obtain ⟨N, r, h⟩ := id hS
  obtain ⟨a1, a2, a3, a4, a5, a6, a7, a8, a9⟩ := id h
  unfold fX9_round fX10_round fX7_nodes
  rw [hasRound_eq h, isRound_eq h, if_b, if_b]
  by_cases q : ndx r x = true
  · rw [if_pos q, if_pos q]
    obtain ⟨i, hi, rfl⟩ := ndx_of q (by omega)
    have e1 : (2 : Int32) + nI i = nI (2 + i) := nI_add 2 i
    rw [edgesOf_eq h hi, bd_s, e1, ck_t (inb_t (by omega) (by decide)), nI_clamp (by omega), ← (a8 i hi).1]
    by_cases q0 : y = 0
    · rw [if_pos q0, if_pos q0, count_eq (a8 i hi).2]; exact ⟨_, _, rfl, rfl, rfl⟩
    · rw [if_neg q0, if_neg q0]
      by_cases q1 : y = 1
      · rw [if_pos q1, if_pos q1, a4, areConnected_eq (by omega) a2, isConnected_eq h, bd_s, bd_s, oneIf_eq, if_some01]; exact ⟨_, _, rfl, rfl, rfl⟩
      · rw [if_neg q1, if_neg q1]
        by_cases q2 : y = 2
        · rw [if_pos q2, if_pos q2, a4, components9_eq (by omega) a2, components10_eq h]; exact ⟨_, _, rfl, rfl, rfl⟩
        · rw [if_neg q2, if_neg q2]
          by_cases q3 : y = 3
          · obtain ⟨o, d1, d2⟩ := degree_both h (sre i)
            rw [if_pos q3, if_pos q3, a4, d1, d2]; exact ⟨_, _, rfl, rfl, rfl⟩
          · rw [if_neg q3, if_neg q3]; exact ⟨_, _, rfl, rfl, rfl⟩
  · rw [if_neg q, if_neg q]; exact ⟨_, _, rfl, rfl, rfl⟩
theorem sum0_both {N r : Nat} (h : SRn N r sre sva sno sro t) : ∃ o, fX7_edgesInAll sre sro = some o ∧ fX10_sumOf 0 t = some o := by
  obtain ⟨a1, a2, a3, a4, a5, a6, a7, a8, a9⟩ := id h
  unfold fX7_edgesInAll fX10_sumOf
  have key : ∀ (n i : Nat) (s : Int32), i ≤ r → r < n + i → ∃ o, fX7_edgesInAll_l4 sre sro n s (nI i) = some o ∧ fX10_sumOf_l4 0 t n s (nI i) = some o := by
    intro n
    induction n with
    | zero => intro i s q1 q2; omega
    | succ n ih =>
      intro i s q1 q2
      rw [fX7_edgesInAll_l4, fX10_sumOf_l4, a7]
      rcases Nat.lt_or_ge i r with q | q
      · have e1 : (2 : Int32) + nI i = nI (2 + i) := nI_add 2 i
        have e3 : ¬ sro ≤ nI i := by rw [a5]; exact nI_ge q (by omega)
        rw [if_neg e3, if_neg (nI_ge q (by omega)), if_pos rfl, e1, ck_t (inb_t (by omega) (by decide)), ck_t (inb_t (by omega) (by decide)), nI_clamp (by omega), nI_clamp (by omega), ← (a8 i q).1, count_eq (a8 i q).2, bd_s, nI_1]
        exact ih (i + 1) _ (by omega) (by omega)
      · have e3 : sro ≤ nI i := by rw [a5]; exact nI_le q (by omega)
        rw [if_pos e3, if_pos (nI_le q (by omega))]
        exact ⟨_, rfl, rfl⟩
  exact key fuel 0 0 (Nat.zero_le _) (by have : fuel = 200 := rfl; omega)
theorem sum1_both {N r : Nat} (h : SRn N r sre sva sno sro t) : ∃ o, fX7_connectedRounds sre sno sro = some o ∧ fX10_sumOf 1 t = some o := by
  obtain ⟨a1, a2, a3, a4, a5, a6, a7, a8, a9⟩ := id h
  unfold fX7_connectedRounds fX10_sumOf
  have key : ∀ (n i : Nat) (s : Int32), i ≤ r → r < n + i → ∃ o, fX7_connectedRounds_l4 sre sno sro n s (nI i) = some o ∧ fX10_sumOf_l4 1 t n s (nI i) = some o := by
    intro n
    induction n with
    | zero => intro i s q1 q2; omega
    | succ n ih =>
      intro i s q1 q2
      rw [fX7_connectedRounds_l4, fX10_sumOf_l4, a7]
      rcases Nat.lt_or_ge i r with q | q
      · have e1 : (2 : Int32) + nI i = nI (2 + i) := nI_add 2 i
        have e3 : ¬ sro ≤ nI i := by rw [a5]; exact nI_ge q (by omega)
        have e5 : fX2_areConnected (sre i) sno = some (conn (sre i) N) := by rw [a4]; exact areConnected_eq (by omega) a2 _
        rw [if_neg e3, if_neg (nI_ge q (by omega)), if_neg (by decide), e1, ck_t (inb_t (by omega) (by decide)), ck_t (inb_t (by omega) (by decide)), nI_clamp (by omega), nI_clamp (by omega), ← (a8 i q).1, isConnected_eq h, e5, bd_s, bd_s, nI_1]
        cases conn (sre i) N
        · rw [if_pos b2i_f, if_pos b2i_f, Int32.add_zero]
          exact ih (i + 1) _ (by omega) (by omega)
        · rw [if_neg (by decide), if_neg (by decide)]
          exact ih (i + 1) _ (by omega) (by omega)
      · have e3 : sro ≤ nI i := by rw [a5]; exact nI_le q (by omega)
        rw [if_pos e3, if_pos (nI_le q (by omega))]
        exact ⟨_, rfl, rfl⟩
  exact key fuel 0 0 (Nat.zero_le _) (by have : fuel = 200 := rfl; omega)
theorem sim_count (hS : SR sre sva sno sro t) {size p len ty : Int32} (hp : size = p) (hl : len = ty) (x : Int32) : ∃ o9 o10, fX9_count x sre sno sro size len = some o9 ∧ fX10_count x t p ty = some o10 ∧ o9 = o10 := by
  obtain ⟨N, r, h⟩ := id hS
  obtain ⟨a1, a2, a3, a4, a5, a6, a7, a8, a9⟩ := id h
  unfold fX9_count fX10_count fX7_nodes fX7_rounds fX8_length fX5_size
  by_cases q0 : x = 0
  · rw [if_pos q0, if_pos q0, a4, a6]; exact ⟨_, _, rfl, rfl, rfl⟩
  · rw [if_neg q0, if_neg q0]
    by_cases q1 : x = 1
    · rw [if_pos q1, if_pos q1, a5, a7]; exact ⟨_, _, rfl, rfl, rfl⟩
    · rw [if_neg q1, if_neg q1]
      by_cases q2 : x = 2
      · obtain ⟨o, d1, d2⟩ := sum0_both h
        rw [if_pos q2, if_pos q2, d1, d2]; exact ⟨_, _, rfl, rfl, rfl⟩
      · rw [if_neg q2, if_neg q2]
        by_cases q3 : x = 3
        · obtain ⟨o, d1, d2⟩ := sum1_both h
          rw [if_pos q3, if_pos q3, d1, d2]; exact ⟨_, _, rfl, rfl, rfl⟩
        · rw [if_neg q3, if_neg q3]
          by_cases q4 : x = 4
          · rw [if_pos q4, if_pos q4, hl]; exact ⟨_, _, rfl, rfl, rfl⟩
          · rw [if_neg q4, if_neg q4]
            by_cases q5 : x = 5
            · rw [if_pos q5, if_pos q5, hp]; exact ⟨_, _, rfl, rfl, rfl⟩
            · rw [if_neg q5, if_neg q5]; exact ⟨_, _, rfl, rfl, rfl⟩
end SIM
