/-! ===== center, agreement ===== -/
theorem isb_b (b : Bool) : isb (b2i b) = true := by cases b <;> rfl
theorem i2b_b (b : Bool) : i2b (b2i b) = b := by cases b <;> rfl
theorem fi_lt {p : Nat → Bool} {n k : Nat} (hk : k < n) (hp : p k = true) : fa_first p n < n := by
  rcases Nat.lt_or_ge (fa_first p n) n with z | z
  · exact z
  · have := fa_first_no p n k (by omega); rw [hp] at this; cases this
section CE
variable {N r : Nat} {re va : Nat → Int32} {no ro : Int32} {t : Nat → Int32}
def CR (G : Nat → Nat → Bool) (N M : Nat) (o : Int32) : Prop := (∃ k c, k < M ∧ c < N ∧ G c k = true ∧ (∀ j, j < k → ∀ a, a < N → G a j = false) ∧ (∀ a, a < c → G a k = false) ∧ o = nI c) ∨ ((∀ k, k < M → ∀ a, a < N → G a k = false) ∧ o = -9)
theorem CR_one {G : Nat → Nat → Bool} {N M : Nat} {o o' : Int32} (h : CR G N M o) (h' : CR G N M o') : o = o' := by
  rcases h with ⟨k, c, h1, h2, h3, h4, h5, rfl⟩ | ⟨h1, rfl⟩
  · rcases h' with ⟨m, d, g1, g2, g3, g4, g5, rfl⟩ | ⟨g1, rfl⟩
    · have e : k = m := by
        rcases Nat.lt_or_ge k m with z | z
        · have := g4 k z c h2; rw [h3] at this; cases this
        · rcases Nat.lt_or_ge m k with w | w
          · have := h4 m w d g2; rw [g3] at this; cases this
          · omega
      subst e
      rcases Nat.lt_or_ge c d with z | z
      · have := g5 c z; rw [h3] at this; cases this
      · rcases Nat.lt_or_ge d c with w | w
        · have := h5 d w; rw [g3] at this; cases this
        · rw [show c = d by omega]
    · have := g1 k h1 c h2; rw [h3] at this; cases this
  · rcases h' with ⟨m, d, g1, g2, g3, g4, g5, rfl⟩ | ⟨g1, rfl⟩
    · have := h1 m g1 d g2; rw [g3] at this; cases this
    · rfl
theorem CR_ext {G : Nat → Nat → Bool} {N M M' : Nat} {o : Int32} (h : CR G N (M + 1) o) (hM : M + 1 ≤ M') (e : ∀ a, a < N → ∀ k, M ≤ k → G a k = G a M) : CR G N M' o := by
  rcases h with ⟨k, c, h1, h2⟩ | ⟨h1, h2⟩
  · exact Or.inl ⟨k, c, by omega, h2⟩
  · refine Or.inr ⟨fun k hk a ha => ?_, h2⟩
    rcases Nat.lt_or_ge k (M + 1) with z | z
    · exact h1 k z a ha
    · rw [e a ha k (by omega)]; exact h1 M (by omega) a ha
theorem GA_still (h : SRn N r re va no ro t) {f : Nat} : ∀ a, a < N → ∀ k, N * r ≤ k → GA re r N f N a k = GA re r N f N a (N * r) := fun a ha k hk => by
  have hN := h.2.1
  unfold GA
  refine bool_iff ?_
  rw [decide_eq_true_eq, decide_eq_true_eq]
  constructor
  · exact fun q b hb => by rw [← kn_still h (by omega) k hk]; exact q b hb
  · exact fun q b hb => by rw [kn_still h (by omega) k hk]; exact q b hb
def PC (re : Nat → Int32) (r N k : Nat) : Bool := decide (¬ ∀ a, a < N → GA re r N 0 N a k = false)
theorem PC_f {k : Nat} (h : PC re r N k = false) : ∀ a, a < N → GA re r N 0 N a k = false := Classical.byContradiction fun z => by
  have : PC re r N k = true := decide_eq_true z
  rw [h] at this; cases this
theorem tall_nil (hN : N ≤ 8) {K : Nat → Int32} {k : Nat} (hK : ∀ a, a < 8 → K a = KK re r N 0 k a) (h : PC re r N k = false) : tall K N = 0 := b_ext fun u hu => by
  rw [b_0]
  by_cases z : u < N
  · rw [tall_GA hN hK z]; exact PC_f h u z
  · exact tall_out hN K (by omega)
theorem tall_some (hN : N ≤ 8) {K : Nat → Int32} {k : Nat} (hK : ∀ a, a < 8 → K a = KK re r N 0 k a) (h : PC re r N k = true) : ∃ a, a < N ∧ bt (tall K N) a = true := by
  refine Classical.byContradiction fun z => of_decide_eq_true h (fun a ha => ts_nt' (fun w => z ⟨a, ha, ?_⟩))
  rw [tall_GA hN hK ha]; exact w
theorem center9_eq (h : SRn N r re va no ro t) {K : Nat → Int32} (Kb : Nat → Int32) (hK : ∀ a, a < 8 → K a = KK re r N 0 0 a) : ∃ o, fX9_center_l10 re no ro fuel 0 K Kb 0 = some o ∧ CR (GA re r N 0 N) N (N * r + 1) o.1 := by
  obtain ⟨a1, a2, a3, a4, a5, a6, a7, a8, a9⟩ := id h
  have hM := Nr_le h
  have hl := longest_eq h
  have g0 : ∀ (n i : Nat) (s : (Nat → Int32) × (Nat → Int32)), i < N * r + 1 → (∀ a, a < 8 → s.1 a = KK re r N 0 i a) → PC re r N i = false → ∃ s' : (Nat → Int32) × (Nat → Int32), (∀ a, a < 8 → s'.1 a = KK re r N 0 (i + 1) a) ∧ fX9_center_l10 re no ro (n + 1) (nI i) s.1 s.2 (nI (0 + i)) = fX9_center_l10 re no ro n (nI (i + 1)) s'.1 s'.2 (nI (0 + (i + 1))) := by
    intro n i s hi hs hp
    obtain ⟨K', Th', q1, q2⟩ := advance_K h (f := 0) (k := i) (by omega) s.2 hs
    rw [fX9_center_l10, hl, if_neg (nI_nlt (by omega) (by omega)), tokensOfAll_eq h, bd_s, if_pos (tall_nil a2 hs hp), q1, bd_s, nI_1]
    exact ⟨(K', Th'), q2, rfl⟩
  have sm : ∀ (i : Nat) (s : (Nat → Int32) × (Nat → Int32)), (∀ a, a < 8 → s.1 a = KK re r N 0 i a) → PC re r N i = true → fX6_smallest (tall s.1 N) = some (nI (fa_first (bt (tall s.1 N)) 8)) ∧ fa_first (bt (tall s.1 N)) 8 < N ∧ GA re r N 0 N (fa_first (bt (tall s.1 N)) 8) i = true ∧ ∀ a, a < fa_first (bt (tall s.1 N)) 8 → GA re r N 0 N a i = false := by
    intro i s hs hp
    obtain ⟨a, ha, hb⟩ := tall_some a2 hs hp
    have h1 := fi_lt (p := bt (tall s.1 N)) (n := 8) (by omega) hb
    have h2 := fa_first_yes _ _ h1
    have h3 := fa_first_no (bt (tall s.1 N)) 8
    have h4 : fa_first (bt (tall s.1 N)) 8 < N := ((tall_bits a2 s.1 (by omega)).mp h2).1
    refine ⟨smallest_eq _ h1 h2 h3, h4, ?_, fun a ha => ?_⟩
    · rw [← tall_GA a2 hs h4]; exact h2
    · rw [← tall_GA a2 hs (by omega)]; exact h3 a ha
  have g1 : ∀ (n i : Nat) (s : (Nat → Int32) × (Nat → Int32)), i < N * r + 1 → (∀ a, a < 8 → s.1 a = KK re r N 0 i a) → PC re r N i = true → fX9_center_l10 re no ro (n + 1) (nI i) s.1 s.2 (nI (0 + i)) = some (nI (fa_first (bt (tall s.1 N)) 8), s.1, s.2, nI (0 + i)) := by
    intro n i s hi hs hp
    obtain ⟨a, ha, hb⟩ := tall_some a2 hs hp
    have hz : ¬ tall s.1 N = 0 := fun z => by rw [z, b_0] at hb; cases hb
    rw [fX9_center_l10, hl, if_neg (nI_nlt (by omega) (by omega)), tokensOfAll_eq h, bd_s, if_neg hz, (sm i s hs hp).1, bd_s]
  have g2 : ∀ (n : Nat) (s : (Nat → Int32) × (Nat → Int32)), (∀ a, a < 8 → s.1 a = KK re r N 0 (N * r + 1) a) → fX9_center_l10 re no ro (n + 1) (nI (N * r + 1)) s.1 s.2 (nI (0 + (N * r + 1))) = some (-9, s.1, s.2, nI (0 + (N * r + 1))) := by
    intro n s _
    rw [fX9_center_l10, hl, if_pos (nI_lt (by omega) (by omega))]
  obtain ⟨o, q, hc⟩ := srch (fun n i (s : (Nat → Int32) × (Nat → Int32)) => fX9_center_l10 re no ro n (nI i) s.1 s.2 (nI (0 + i))) (N * r + 1) (PC re r N) (fun i s => ∀ a, a < 8 → s.1 a = KK re r N 0 i a) (fun i s => (nI (fa_first (bt (tall s.1 N)) 8), s.1, s.2, nI (0 + i))) (fun s => (-9, s.1, s.2, nI (0 + (N * r + 1)))) g0 g1 g2 fuel 0 (K, Kb) (Nat.zero_le _) (by have : fuel = 200 := rfl; omega) hK (fun j hj => by omega)
  refine ⟨o, q, ?_⟩
  rcases hc with ⟨k, s', c1, c2, c3, c4, rfl⟩ | ⟨c1, s', _, rfl⟩
  · obtain ⟨_, b1, b2, b3⟩ := sm k s' c4 c2
    exact Or.inl ⟨k, _, c1, b1, b2, fun j hj a ha => PC_f (c3 j hj) a ha, b3, rfl⟩
  · exact Or.inr ⟨fun k hk a ha => PC_f (c1 k hk) a ha, rfl⟩
theorem center10_eq (h : SRn N r re va no ro t) {Tr : Nat → Int32} (hT : ∀ a b, a < 8 → b < 8 → TP (fun k => bt (KK re r N 0 k b) a) 131 (Tr (8 * a + b))) (K Th : Nat → Int32) : ∃ o, fX10_center_l13 t K Th Tr fuel (-9) (-9) 0 = some o ∧ CR (GA re r N 0 N) N 131 o.1 := by
  obtain ⟨a1, a2, a3, a4, a5, a6, a7, a8, a9⟩ := id h
  let G := GA re r N 0 N
  let J : Nat → Int32 × Int32 → Prop := fun i s => (s.1 = -9 ∧ (∀ a, a < i → ∀ k, k < 131 → G a k = false)) ∨ (∃ c k, c < i ∧ k < 131 ∧ s.1 = nI c ∧ s.2 = nI k ∧ G c k = true ∧ (∀ a, a < i → ∀ j, j < k → G a j = false) ∧ (∀ a, a < c → G a k = false))
  have g0 : ∀ (n i : Nat) (s : Int32 × Int32), i < N → J i s → ∃ s' : Int32 × Int32, J (i + 1) s' ∧ fX10_center_l13 t K Th Tr (n + 1) s.1 s.2 (nI i) = fX10_center_l13 t K Th Tr n s'.1 s'.2 (nI (i + 1)) := by
    intro n i s hi hs
    obtain ⟨o, p1, p2⟩ := farthest_eq h hT (a := i) (by omega)
    rw [fX10_center_l13, a6, if_neg (nI_ge hi (by omega)), p1, bd_s, nI_1]
    rcases p2 with ⟨m, f1, f2, f3, rfl⟩ | ⟨f1, rfl⟩
    · rw [if_neg (nI_n9 (by omega))]
      rcases hs with ⟨e1, e2⟩ | ⟨c, k, e1, e2, e3, e4, e5, e6, e7⟩
      · rw [if_pos e1]
        refine ⟨(nI i, nI m), Or.inr ⟨i, m, by omega, f1, rfl, rfl, f2, fun a ha j hj => ?_, fun a ha => e2 a ha m f1⟩, rfl⟩
        by_cases z : a = i
        · subst z; exact f3 j hj
        · exact e2 a (by omega) j (by omega)
      · rw [e3, if_neg (nI_n9 (by omega)), e4]
        by_cases z : k ≤ m
        · rw [if_pos (nI_le z (by omega))]
          refine ⟨(nI c, nI k), Or.inr ⟨c, k, by omega, e2, rfl, rfl, e5, fun a ha j hj => ?_, e7⟩, rfl⟩
          by_cases w : a = i
          · subst w; exact f3 j (by omega)
          · exact e6 a (by omega) j hj
        · rw [if_neg (nI_ge (by omega) (by omega))]
          refine ⟨(nI i, nI m), Or.inr ⟨i, m, by omega, f1, rfl, rfl, f2, fun a ha j hj => ?_, fun a ha => e6 a ha m (by omega)⟩, rfl⟩
          by_cases w : a = i
          · subst w; exact f3 j hj
          · exact e6 a (by omega) j (by omega)
    · rw [if_pos rfl]
      refine ⟨s, ?_, rfl⟩
      rcases hs with ⟨e1, e2⟩ | ⟨c, k, e1, e2, e3, e4, e5, e6, e7⟩
      · refine Or.inl ⟨e1, fun a ha k hk => ?_⟩
        by_cases w : a = i
        · subst w; exact f1 k hk
        · exact e2 a (by omega) k hk
      · refine Or.inr ⟨c, k, by omega, e2, e3, e4, e5, fun a ha j hj => ?_, e7⟩
        by_cases w : a = i
        · subst w; exact f1 j (by omega)
        · exact e6 a (by omega) j hj
  have g1 : ∀ (n : Nat) (s : Int32 × Int32), J N s → fX10_center_l13 t K Th Tr (n + 1) s.1 s.2 (nI N) = some (s.1, K, Th, Tr) := by
    intro n s _
    rw [fX10_center_l13, a6, if_pos (nI_le (Nat.le_refl N) (by omega))]
  obtain ⟨s', hs, q⟩ := cinv (fun n i (s : Int32 × Int32) => fX10_center_l13 t K Th Tr n s.1 s.2 (nI i)) N J (fun s => some (s.1, K, Th, Tr)) g0 g1 fuel 0 (-9, -9) (Nat.zero_le _) (by have : fuel = 200 := rfl; omega) (Or.inl ⟨rfl, fun a ha => by omega⟩)
  refine ⟨_, q, ?_⟩
  rcases hs with ⟨e1, e2⟩ | ⟨c, k, e1, e2, e3, e4, e5, e6, e7⟩
  · exact Or.inr ⟨fun k hk a ha => e2 a ha k hk, e1⟩
  · exact Or.inl ⟨k, c, e2, e1, e5, fun j hj a ha => e6 a ha j hj, e7, e3⟩
theorem sim_center (hS : SR re va no ro t) (Fk Fb : Nat → Int32) (Fs : Int32) (Tk Tt Tr : Nat → Int32) : ∃ o9 o10, fX9_center re no ro Fk Fb Fs = some o9 ∧ fX10_center t Tk Tt Tr = some o10 ∧ o9.1 = o10.1 := by
  obtain ⟨N, r, h⟩ := id hS
  have hN := h.2.1
  have hM := Nr_le h
  unfold fX9_center fX10_center
  obtain ⟨K', Th', Tr', p1, p2⟩ := travels_eq h (f := 0) (by omega) Tk Tt Tr
  obtain ⟨o, p3, p4⟩ := center9_eq h (K := fb_put Fk bit 0 8) Fb (put_bit Fk)
  obtain ⟨o2, p5, p6⟩ := center10_eq h p2 K' Th'
  change fX10_travels 0 t Tk Tt Tr = _ at p1
  rw [begin_eq, bd_s, p1, bd_s]
  dsimp only
  rw [p3, p5]
  exact ⟨_, _, rfl, rfl, CR_one (CR_ext p4 (by omega) (GA_still h)) p6⟩
/-- all nodes decide the same -/
def same (va : Nat → Int32) (N : Nat) (K : Nat → Int32) : Bool := decide (∀ a, a < N → mv va N (K a) = mv va N (K 0))
theorem same_cong (hN : N ≤ 8) {K K' : Nat → Int32} (h : ∀ a, a < 8 → K a = K' a) : same va N K = same va N K' := by
  unfold same
  refine bool_iff ?_
  rw [decide_eq_true_eq, decide_eq_true_eq]
  constructor
  · exact fun q b hb => by rw [← h b (by omega), ← h 0 (by omega)]; exact q b hb
  · exact fun q b hb => by rw [h b (by omega), h 0 (by omega)]; exact q b hb
theorem allDecide_eq (h : SRn N r re va no ro t) (K : Nat → Int32) : fX9_allDecideTheSame va no K = some (same va N K) := by
  obtain ⟨a1, a2, a3, a4, a5, a6, a7, a8, a9⟩ := id h
  unfold fX9_allDecideTheSame
  have e0 : fX3_tokensOf 0 K no = some (K 0) := tokensOf_eq h K (a := 0) (by omega)
  have e : fX7_nodes no = nI N := a4
  rw [e0, bd_s, smallestValue_eq h, bd_s]
  have key : ∀ (n i : Nat), i ≤ N → N < n + i → (∀ a, a < i → mv va N (K a) = mv va N (K 0)) → fX9_allDecideTheSame_l18 (mv va N (K 0)) va no K n (nI i) = some (same va N K) := by
    intro n
    induction n with
    | zero => intro i h1 h2; omega
    | succ n ih =>
      intro i h1 h2 hs
      rw [fX9_allDecideTheSame_l18, e]
      rcases Nat.lt_or_ge i N with q | q
      · rw [if_neg (nI_ge q (by omega)), tokensOf_eq h K q, bd_s, smallestValue_eq h, bd_s, nI_1]
        by_cases z : mv va N (K i) = mv va N (K 0)
        · rw [if_pos z]
          refine ih (i + 1) q (by omega) (fun a ha => ?_)
          by_cases w : a = i
          · subst w; exact z
          · exact hs a (by omega)
        · rw [if_neg z]
          have : same va N K = false := decide_eq_false (fun w => z (w i q))
          rw [this]
      · rw [if_pos (nI_le q (by omega))]
        have : same va N K = true := decide_eq_true (fun a ha => hs a (by omega))
        rw [this]
  exact key fuel 1 (by omega) (by have : fuel = 200 := rfl; omega) (fun a ha => by rw [show a = 0 by omega])
theorem agree_eq (h : SRn N r re va no ro t) {K : Nat → Int32} (hK : ∀ a, a < 8 → bt (K a) a = true) : fX10_agree t K = some (same va N K) := by
  obtain ⟨a1, a2, a3, a4, a5, a6, a7, a8, a9⟩ := id h
  unfold fX10_agree
  have e0 : fX10_least 0 t K = some (mv va N (K 0)) := least_eq h K (a := 0) (b := 0) (by omega) (by omega) (hK 0 (by omega))
  let D : Nat → Bool := fun i => decide (∀ a, a < i → mv va N (K a) = mv va N (K 0))
  have g0 : ∀ (n i : Nat) (s : Int32), i < N → (1 ≤ i ∧ s = b2i (D i)) → ∃ s', (1 ≤ i + 1 ∧ s' = b2i (D (i + 1))) ∧ fX10_agree_l4 t K (n + 1) s (nI i) = fX10_agree_l4 t K n s' (nI (i + 1)) := by
    intro n i s hi ⟨_, hs⟩
    refine ⟨_, ⟨by omega, rfl⟩, ?_⟩
    rw [fX10_agree_l4, a6, if_neg (nI_ge hi (by omega)), least_eq h K hi hi (hK i (by omega)), bd_s, e0, bd_s, nI_1, hs]
    by_cases z : ∀ a, a < i → mv va N (K a) = mv va N (K 0)
    · have d1 : D i = true := decide_eq_true z
      rw [d1, if_neg (by decide)]
      by_cases w : mv va N (K i) = mv va N (K 0)
      · have d2 : D (i + 1) = true := decide_eq_true (fun a ha => by
          by_cases y : a = i
          · subst y; exact w
          · exact z a (by omega))
        rw [if_pos w, d2]; rfl
      · have d2 : D (i + 1) = false := decide_eq_false (fun y => w (y i (by omega)))
        rw [if_neg w, d2]; rfl
    · have d1 : D i = false := decide_eq_false z
      have d2 : D (i + 1) = false := decide_eq_false (fun y => z (fun a ha => y a (by omega)))
      rw [d1, d2, if_pos b2i_f]; rfl
  have g1 : ∀ (n : Nat) (s : Int32), (1 ≤ N ∧ s = b2i (D N)) → fX10_agree_l4 t K (n + 1) s (nI N) = some (D N) := by
    intro n s ⟨_, hs⟩
    rw [fX10_agree_l4, a6, if_pos (nI_le (Nat.le_refl N) (by omega)), hs, ck_t (isb_b _), i2b_b]
  obtain ⟨s', hs, q⟩ := cinv (fun n i s => fX10_agree_l4 t K n s (nI i)) N (fun i s => 1 ≤ i ∧ s = b2i (D i)) (fun _ => some (D N)) g0 g1 fuel 1 1 (by omega) (by have : fuel = 200 := rfl; omega) ⟨by omega, by
    have d1 : D 1 = true := decide_eq_true (fun a ha => by rw [show a = 0 by omega])
    rw [d1]; rfl⟩
  exact q
theorem sim_agreement (hS : SR re va no ro t) (Fk Fb : Nat → Int32) (Fs : Int32) (Tk Tt : Nat → Int32) : ∃ o9 o10, fX9_agreement re va no ro Fk Fb Fs = some o9 ∧ fX10_agreement t Tk Tt = some o10 ∧ o9.1 = o10.1 := by
  obtain ⟨N, r, h⟩ := id hS
  obtain ⟨a1, a2, a3, a4, a5, a6, a7, a8, a9⟩ := id h
  have hM := Nr_le h
  have hl := longest_eq h
  unfold fX9_agreement fX10_agreement
  rw [begin_eq, bd_s, alone_eq, bd_s]
  dsimp only
  let p : Nat → Bool := fun k => same va N (KK re r N 0 k)
  have g0 : ∀ (n i : Nat) (s : (Nat → Int32) × (Nat → Int32)), i < N * r + 1 → (∀ a, a < 8 → s.1 a = KK re r N 0 i a) → p i = false → ∃ s' : (Nat → Int32) × (Nat → Int32), (∀ a, a < 8 → s'.1 a = KK re r N 0 (i + 1) a) ∧ fX9_agreement_l10 re va no ro (n + 1) (nI i) s.1 s.2 (nI (0 + i)) = fX9_agreement_l10 re va no ro n (nI (i + 1)) s'.1 s'.2 (nI (0 + (i + 1))) := by
    intro n i s hi hs hp
    obtain ⟨K', Th', q1, q2⟩ := advance_K h (f := 0) (k := i) (by omega) s.2 hs
    have hp' : same va N s.1 = false := by rw [same_cong a2 hs]; exact hp
    rw [fX9_agreement_l10, hl, if_neg (nI_nlt (by omega) (by omega)), allDecide_eq h, bd_s, hp', if_pos b2i_f, q1, bd_s, nI_1]
    exact ⟨(K', Th'), q2, rfl⟩
  have g1 : ∀ (n i : Nat) (s : (Nat → Int32) × (Nat → Int32)), i < N * r + 1 → (∀ a, a < 8 → s.1 a = KK re r N 0 i a) → p i = true → fX9_agreement_l10 re va no ro (n + 1) (nI i) s.1 s.2 (nI (0 + i)) = some (nI i, s.1, s.2, nI (0 + i)) := by
    intro n i s hi hs hp
    have hp' : same va N s.1 = true := by rw [same_cong a2 hs]; exact hp
    rw [fX9_agreement_l10, hl, if_neg (nI_nlt (by omega) (by omega)), allDecide_eq h, bd_s, hp', if_neg (by decide)]
  have g2 : ∀ (n : Nat) (s : (Nat → Int32) × (Nat → Int32)), (∀ a, a < 8 → s.1 a = KK re r N 0 (N * r + 1) a) → fX9_agreement_l10 re va no ro (n + 1) (nI (N * r + 1)) s.1 s.2 (nI (0 + (N * r + 1))) = some (-9, s.1, s.2, nI (0 + (N * r + 1))) := by
    intro n s _
    rw [fX9_agreement_l10, hl, if_pos (nI_lt (by omega) (by omega))]
  obtain ⟨o, q, hc⟩ := srch (fun n i (s : (Nat → Int32) × (Nat → Int32)) => fX9_agreement_l10 re va no ro n (nI i) s.1 s.2 (nI (0 + i))) (N * r + 1) p (fun i s => ∀ a, a < 8 → s.1 a = KK re r N 0 i a) (fun i s => (nI i, s.1, s.2, nI (0 + i))) (fun s => (-9, s.1, s.2, nI (0 + (N * r + 1)))) g0 g1 g2 fuel 0 (fb_put Fk bit 0 8, Fb) (Nat.zero_le _) (by have : fuel = 200 := rfl; omega) (put_bit Fk) (fun j hj => by omega)
  have hT : TP p (N * r + 1) o.1 := by
    rcases hc with ⟨k, s', c1, c2, c3, _, rfl⟩ | ⟨c1, s', _, rfl⟩
    · exact Or.inl ⟨k, c1, c2, c3, rfl⟩
    · exact Or.inr ⟨c1, rfl⟩
  have k0 : ∀ (n i : Nat) (s : (Nat → Int32) × (Nat → Int32)), i < 131 → (∀ a, a < 8 → s.1 a = KK re r N 0 i a) → p i = false → ∃ s' : (Nat → Int32) × (Nat → Int32), (∀ a, a < 8 → s'.1 a = KK re r N 0 (i + 1) a) ∧ fX10_agreement_l6 t (n + 1) (nI i) s.1 s.2 = fX10_agreement_l6 t n (nI (i + 1)) s'.1 s'.2 := by
    intro n i s hi hs hp
    obtain ⟨K', Th', q1, q2⟩ := spreads_K h (f := 0) (k := i) (by omega) s.2 hs
    rw [Nat.zero_add] at q1
    have hp' : same va N s.1 = false := by rw [same_cong a2 hs]; exact hp
    rw [fX10_agreement_l6, if_neg (show ¬ (130 : Int32) < nI i from nI_nlt (a := 130) (by omega) (by decide)), agree_eq h (fun a ha => by rw [hs a ha]; exact KK_self a2 i ha), bd_s, hp', if_pos b2i_f, q1, bd_s, nI_1]
    exact ⟨(K', Th'), q2, rfl⟩
  have k1 : ∀ (n i : Nat) (s : (Nat → Int32) × (Nat → Int32)), i < 131 → (∀ a, a < 8 → s.1 a = KK re r N 0 i a) → p i = true → fX10_agreement_l6 t (n + 1) (nI i) s.1 s.2 = some (nI i, s.1, s.2) := by
    intro n i s hi hs hp
    have hp' : same va N s.1 = true := by rw [same_cong a2 hs]; exact hp
    rw [fX10_agreement_l6, if_neg (show ¬ (130 : Int32) < nI i from nI_nlt (a := 130) (by omega) (by decide)), agree_eq h (fun a ha => by rw [hs a ha]; exact KK_self a2 i ha), bd_s, hp', if_neg (by decide)]
  have k2 : ∀ (n : Nat) (s : (Nat → Int32) × (Nat → Int32)), (∀ a, a < 8 → s.1 a = KK re r N 0 131 a) → fX10_agreement_l6 t (n + 1) (nI 131) s.1 s.2 = some (-9, s.1, s.2) := by
    intro n s _
    rw [fX10_agreement_l6, if_pos (show (130 : Int32) < nI 131 by decide)]
  obtain ⟨o2, q2, hc2⟩ := srch (fun n i (s : (Nat → Int32) × (Nat → Int32)) => fX10_agreement_l6 t n (nI i) s.1 s.2) 131 p (fun i s => ∀ a, a < 8 → s.1 a = KK re r N 0 i a) (fun i s => (nI i, s.1, s.2)) (fun s => (-9, s.1, s.2)) k0 k1 k2 fuel 0 (fb_put Tk bit 0 8, Tt) (Nat.zero_le _) (by decide) (put_bit Tk) (fun j hj => by omega)
  have hT2 : TP p 131 o2.1 := by
    rcases hc2 with ⟨k, s', c1, c2, c3, _, rfl⟩ | ⟨c1, s', _, rfl⟩
    · exact Or.inl ⟨k, c1, c2, c3, rfl⟩
    · exact Or.inr ⟨c1, rfl⟩
  refine ⟨o, o2, q, q2, TP_one (TP_ext hT (by omega) (fun k hk => ?_)) hT2⟩
  exact same_cong a2 (fun a ha => KK_still a2 hk ha)
end CE
