/-! ===== rounds that an adversary adds ===== -/
theorem pair_comm {a c : Nat} (ha : a < 8) (hc : c < 8) (hac : a ≠ c) : fX10_pair (nI a) (nI c) = fX10_pair (nI c) (nI a) := b_ext fun i hi => by
  rw [bt_pair a ha c hc i hi, bt_pair c hc a ha i hi, pix_comm a ha c hc hac]
theorem nI_nm1 {k : Nat} (h : k < 2 ^ 31) : ¬ nI k = (-1 : Int32) := fun z => by
  have h1 : (nI k).toInt = (-1 : Int32).toInt := by rw [z]
  rw [nI_toInt h] at h1
  have h2 : (-1 : Int32).toInt = -1 := rfl
  omega
section AD
variable {N r : Nat} {re va : Nat → Int32} {no ro : Int32} {t : Nat → Int32}
theorem star_both (h : SRn N r re va no ro t) {c : Nat} (hc : c < 8) : ∃ o, E28 o ∧ fX2_star (nI c) (nI N) = some o ∧ fX10_star (nI c) t = some o := by
  obtain ⟨a1, a2, a3, a4, a5, a6, a7, a8, a9⟩ := id h
  unfold fX2_star fX10_star
  have key : ∀ (n i : Nat) (s : Int32), i ≤ N → N < n + i → E28 s → ∃ o, E28 o ∧ fX2_star_l4 (nI c) (nI N) n s (nI i) = some o ∧ fX10_star_l4 (nI c) t n s (nI i) = some o := by
    intro n
    induction n with
    | zero => intro i s q1 q2; omega
    | succ n ih =>
      intro i s q1 q2 hs
      rw [fX2_star_l4, fX10_star_l4, a6]
      rcases Nat.lt_or_ge i N with q | q
      · rw [if_neg (nI_ge q (by omega)), if_neg (nI_ge q (by omega)), nI_1, or_zero32]
        by_cases z : i = c
        · rw [if_pos (by rw [z]), if_pos (by rw [z])]
          exact ih (i + 1) s q (by omega) hs
        · have z' : ¬ nI i = nI c := fun w => z ((nI_eq (by omega) (by omega)).mp w)
          rw [if_neg z', if_neg z', between_eq, pair_comm hc (by omega) (fun w => z w.symm)]
          exact ih (i + 1) _ q (by omega) (hs.or (E28_pair (by omega) hc z))
      · rw [if_pos (nI_le q (by omega)), if_pos (nI_le q (by omega))]
        exact ⟨s, hs, rfl, rfl⟩
  exact key fuel 0 0 (Nat.zero_le _) (by have : fuel = 200 := rfl; omega) E28_0
theorem chain_both (h : SRn N r re va no ro t) {S : Int32} (hS : ∀ u, u < 32 → bt S u = true → u < N) : ∃ o, E28 o ∧ fX0_chain S = some o ∧ fX10_pathOf S t = some o := by
  obtain ⟨a1, a2, a3, a4, a5, a6, a7, a8, a9⟩ := id h
  unfold fX0_chain fX10_pathOf
  have tail : ∀ (n i : Nat) (s l : Int32), N ≤ i → i ≤ 8 → 8 < n + i → fX0_chain_l6 S n s l (nI i) = some s := by
    intro n
    induction n with
    | zero => intro i s l _ q1 q2; omega
    | succ n ih =>
      intro i s l q0 q1 q2
      rw [fX0_chain_l6]
      rcases Nat.lt_or_ge i 8 with q | q
      · have hb : bt S i = false := ts_nt' (fun z => by have := hS i (by omega) z; omega)
        rw [if_neg (show ¬ (8 : Int32) ≤ nI i from nI_ge (b := 8) q (by decide)), has_eq S (by omega), if_b, hb, if_neg (by simp), nI_1]
        exact ih (i + 1) s l (by omega) q (by omega)
      · rw [if_pos (show (8 : Int32) ≤ nI i from nI_le (a := 8) q (by omega))]
  have key : ∀ (n i : Nat) (s l9 l10 : Int32), i ≤ N → 8 < n + i → E28 s → ((l9 = -1 ∧ l10 = -9) ∨ ∃ l, l < i ∧ l9 = nI l ∧ l10 = nI l) → ∃ o, E28 o ∧ fX0_chain_l6 S n s l9 (nI i) = some o ∧ fX10_pathOf_l8 S t n s l10 (nI i) = some o := by
    intro n
    induction n with
    | zero => intro i s l9 l10 q1 q2; omega
    | succ n ih =>
      intro i s l9 l10 q1 q2 hs hl
      rcases Nat.lt_or_ge i N with q | q
      · rw [fX0_chain_l6, fX10_pathOf_l8, a6, if_neg (show ¬ (8 : Int32) ≤ nI i from nI_ge (b := 8) (by omega) (by decide)), if_neg (nI_ge q (by omega)), has_eq S (by omega), if_b, nI_1, or_zero32]
        cases hb : bt S i
        · rw [if_neg (by simp), if_neg (fun z => by have := (sh1_1 _ (by omega)).mp z; rw [hb] at this; cases this)]
          refine ih (i + 1) s l9 l10 q (by omega) hs ?_
          rcases hl with z | ⟨l, z1, z2⟩
          · exact Or.inl z
          · exact Or.inr ⟨l, by omega, z2⟩
        · rw [if_pos rfl, if_pos ((sh1_1 _ (by omega)).mpr hb)]
          rcases hl with ⟨z1, z2⟩ | ⟨l, z1, z2, z3⟩
          · rw [if_pos z1, if_pos z2]
            exact ih (i + 1) s _ _ q (by omega) hs (Or.inr ⟨i, by omega, rfl, rfl⟩)
          · rw [z2, z3, if_neg (nI_nm1 (by omega)), if_neg (nI_n9 (by omega)), between_eq]
            exact ih (i + 1) _ _ _ q (by omega) (hs.or (E28_pair (by omega) (by omega) (by omega))) (Or.inr ⟨i, by omega, rfl, rfl⟩)
      · have e : i = N := by omega
        subst e
        rw [tail (n + 1) i s l9 (Nat.le_refl i) (by omega) (by omega), fX10_pathOf_l8, a6, if_pos (nI_le (Nat.le_refl _) (by omega))]
        exact ⟨s, hs, rfl, rfl⟩
  exact key fuel 0 0 (-1) (-9) (Nat.zero_le _) (by decide) E28_0 (Or.inl ⟨rfl, rfl⟩)
/-- pairs of a set that are done -/
def CL (S : Int32) (b a : Nat) (R : Int32) : Prop := ∀ u, u < 32 → (bt R u = true ↔ ∃ x y, x < y ∧ (y < b ∨ (y = b ∧ x < a)) ∧ bt S x = true ∧ bt S y = true ∧ pix x y = u)
theorem CL_skip {S R : Int32} {b a : Nat} (h : CL S b a R) (hn : ¬ (bt S a = true ∧ bt S b = true)) : CL S b (a + 1) R := fun u hu => by
  rw [h u hu]
  constructor
  · rintro ⟨x, y, q1, q2, q3⟩; exact ⟨x, y, q1, by omega, q3⟩
  · rintro ⟨x, y, q1, q2, q3, q4, q5⟩
    refine ⟨x, y, q1, ?_, q3, q4, q5⟩
    by_cases z : y = b ∧ x = a
    · obtain ⟨rfl, rfl⟩ := z
      exact absurd ⟨q3, q4⟩ hn
    · omega
theorem CL_take {S R : Int32} {b a : Nat} (h : CL S b a R) (hab : a < b) (hb : b < 8) (h1 : bt S a = true) (h2 : bt S b = true) : CL S b (a + 1) (R ||| fX10_pair (nI a) (nI b)) := fun u hu => by
  rw [b_or, Bool.or_eq_true, h u hu, bt_pair a (by omega) b hb u hu, decide_eq_true_eq]
  constructor
  · rintro (⟨x, y, q1, q2, q3⟩ | q)
    · exact ⟨x, y, q1, by omega, q3⟩
    · exact ⟨a, b, hab, by omega, h1, h2, q.symm⟩
  · rintro ⟨x, y, q1, q2, q3, q4, q5⟩
    by_cases z : y = b ∧ x = a
    · obtain ⟨rfl, rfl⟩ := z
      exact Or.inr q5.symm
    · exact Or.inl ⟨x, y, q1, by omega, q3, q4, q5⟩
theorem CL_next {S R : Int32} {b : Nat} (h : CL S b b R) : CL S (b + 1) 0 R := fun u hu => by
  rw [h u hu]
  constructor
  · rintro ⟨x, y, q1, q2, q3⟩; exact ⟨x, y, q1, by omega, q3⟩
  · rintro ⟨x, y, q1, q2, q3⟩; exact ⟨x, y, q1, by omega, q3⟩
theorem clique9_eq (S : Int32) : ∃ R, fX2_clique S = some R ∧ CL S 8 0 R := by
  unfold fX2_clique
  have hin : ∀ (k : Int32 → Int32 → Option Int32) (b : Nat) (R : Int32), b < 8 → CL S b 0 R → ∃ R', CL S b b R' ∧ fX2_clique_l12 k S (nI b) fuel R 0 = k R' (nI (b + 1)) := by
    intro k b R hb hR
    refine cinv (fun n a R => fX2_clique_l12 k S (nI b) n R (nI a)) b (fun a R => CL S b a R) (fun R => k R (nI (b + 1))) (fun n a R ha hR => ?_) (fun n R _ => ?_) fuel 0 R (Nat.zero_le _) (by have : fuel = 200 := rfl; omega) hR
    · show ∃ R', CL S b (a + 1) R' ∧ fX2_clique_l12 k S (nI b) (n + 1) R (nI a) = _
      rw [fX2_clique_l12, if_neg (nI_ge ha (by omega)), has_eq S (by omega), has_eq S (by omega), if_b, if_b, nI_1]
      by_cases z1 : bt S a = true
      · rw [if_pos z1]
        by_cases z2 : bt S b = true
        · rw [if_pos z2, between_eq]
          exact ⟨_, CL_take hR ha hb z1 z2, rfl⟩
        · rw [if_neg z2]
          exact ⟨R, CL_skip hR (fun w => z2 w.2), rfl⟩
      · rw [if_neg z1]
        exact ⟨R, CL_skip hR (fun w => z1 w.1), rfl⟩
    · show fX2_clique_l12 k S (nI b) (n + 1) R (nI b) = _
      rw [fX2_clique_l12, if_pos (nI_le (Nat.le_refl b) (by omega)), nI_1]
  have g0 : ∀ (n b : Nat) (R : Int32), b < 8 → CL S b 0 R → ∃ R', CL S (b + 1) 0 R' ∧ fX2_clique_l4 S (n + 1) R (nI b) = fX2_clique_l4 S n R' (nI (b + 1)) := by
    intro n b R hb hR
    obtain ⟨R', h1, h2⟩ := hin (fX2_clique_l4 S n) b R hb hR
    rw [fX2_clique_l4, if_neg (show ¬ (8 : Int32) ≤ nI b from nI_ge (b := 8) hb (by decide)), h2]
    exact ⟨R', CL_next h1, rfl⟩
  have g1 : ∀ (n : Nat) (R : Int32), CL S 8 0 R → fX2_clique_l4 S (n + 1) R (nI 8) = some R := by
    intro n R _
    rw [fX2_clique_l4, if_pos (show (8 : Int32) ≤ nI 8 by decide)]
  obtain ⟨R, h1, h2⟩ := cinv (fun n b R => fX2_clique_l4 S n R (nI b)) 8 (fun b R => CL S b 0 R) some g0 g1 fuel 1 0 (by decide) (by decide) (fun u hu => by
    rw [b_0]
    constructor
    · intro z; cases z
    · rintro ⟨x, y, q1, q2, _⟩; omega)
  exact ⟨R, h2, h1⟩
theorem sh_and (S : Int32) {a b : Nat} (ha : a < 32) (hb : b < 32) : (((S >>> (nI a &&& 31)) &&& (S >>> (nI b &&& 31))) &&& (1 : Int32)) = 1 ↔ bt S a = true ∧ bt S b = true := by
  have e : ((S >>> (nI a &&& 31)) &&& (S >>> (nI b &&& 31))) &&& (1 : Int32) = ((S >>> (nI a &&& 31)) &&& (1 : Int32)) &&& ((S >>> (nI b &&& 31)) &&& (1 : Int32)) := b_ext fun i hi => by
    rw [b_and, b_and, b_and, b_and, b_and]
    cases bt (S >>> (nI a &&& 31)) i <;> cases bt (S >>> (nI b &&& 31)) i <;> cases bt 1 i <;> rfl
  rw [e, sh1 S ha, sh1 S hb]
  cases bt S a <;> cases bt S b <;> simp
theorem clique10_eq (h : SRn N r re va no ro t) (S : Int32) : ∃ R, fX10_clique S t = some R ∧ CL S N 0 R := by
  obtain ⟨a1, a2, a3, a4, a5, a6, a7, a8, a9⟩ := id h
  unfold fX10_clique
  have hin : ∀ (k : Int32 → Int32 → Option Int32) (b : Nat) (R : Int32), b < N → CL S b 0 R → ∃ R', CL S b b R' ∧ fX10_clique_l17 k S (nI b) t fuel R 0 = k R' (nI (b + 1)) := by
    intro k b R hb hR
    refine cinv (fun n a R => fX10_clique_l17 k S (nI b) t n R (nI a)) b (fun a R => CL S b a R) (fun R => k R (nI (b + 1))) (fun n a R ha hR => ?_) (fun n R _ => ?_) fuel 0 R (Nat.zero_le _) (by have : fuel = 200 := rfl; omega) hR
    · show ∃ R', CL S b (a + 1) R' ∧ fX10_clique_l17 k S (nI b) t (n + 1) R (nI a) = _
      rw [fX10_clique_l17, if_neg (nI_ge ha (by omega)), nI_1, or_zero32]
      by_cases z : bt S a = true ∧ bt S b = true
      · rw [if_pos ((sh_and S (by omega) (by omega)).mpr z)]
        exact ⟨_, CL_take hR ha (by omega) z.1 z.2, rfl⟩
      · rw [if_neg (fun w => z ((sh_and S (by omega) (by omega)).mp w))]
        exact ⟨R, CL_skip hR z, rfl⟩
    · show fX10_clique_l17 k S (nI b) t (n + 1) R (nI b) = _
      rw [fX10_clique_l17, if_pos (nI_le (Nat.le_refl b) (by omega)), nI_1]
  have g0 : ∀ (n b : Nat) (R : Int32), b < N → CL S b 0 R → ∃ R', CL S (b + 1) 0 R' ∧ fX10_clique_l4 S t (n + 1) R (nI b) = fX10_clique_l4 S t n R' (nI (b + 1)) := by
    intro n b R hb hR
    obtain ⟨R', h1, h2⟩ := hin (fX10_clique_l4 S t n) b R hb hR
    rw [fX10_clique_l4, a6, if_neg (nI_ge hb (by omega)), h2]
    exact ⟨R', CL_next h1, rfl⟩
  have g1 : ∀ (n : Nat) (R : Int32), CL S N 0 R → fX10_clique_l4 S t (n + 1) R (nI N) = some R := by
    intro n R _
    rw [fX10_clique_l4, a6, if_pos (nI_le (Nat.le_refl N) (by omega))]
  obtain ⟨R, h1, h2⟩ := cinv (fun n b R => fX10_clique_l4 S t n R (nI b)) N (fun b R => CL S b 0 R) some g0 g1 fuel 0 0 (Nat.zero_le _) (by have : fuel = 200 := rfl; omega) (fun u hu => by
    rw [b_0]
    constructor
    · intro z; cases z
    · rintro ⟨x, y, q1, q2, _⟩; omega)
  exact ⟨R, h2, h1⟩
theorem clique_both (h : SRn N r re va no ro t) {S : Int32} (hS : ∀ u, u < 32 → bt S u = true → u < N) : ∃ o, E28 o ∧ fX2_clique S = some o ∧ fX10_clique S t = some o := by
  have hN := h.2.1
  obtain ⟨R, h1, h2⟩ := clique9_eq S
  obtain ⟨R', h3, h4⟩ := clique10_eq h S
  have e : R = R' := bt_ext fun u hu => by
    rw [h2 u hu, h4 u hu]
    constructor
    · rintro ⟨x, y, q1, q2, q3, q4, q5⟩
      exact ⟨x, y, q1, Or.inl (hS y (by omega) q4), q3, q4, q5⟩
    · rintro ⟨x, y, q1, q2, q3, q4, q5⟩
      exact ⟨x, y, q1, by omega, q3, q4, q5⟩
  subst e
  refine ⟨R, fun k hk => ?_, h1, h3⟩
  rcases Nat.lt_or_ge k 32 with q | q
  · refine ts_nt' (fun z => ?_)
    obtain ⟨x, y, q1, q2, q3, q4, q5⟩ := (h2 k q).mp z
    have := pix_lt x (by omega) y (by omega) (by omega)
    omega
  · exact b_big q
/-- the nodes that know a token -/
def kn (K : Nat → Int32) (N s : Nat) : Int32 := itr (fun a R => R ||| bi (bt (K a) s) a) 0 N 0
theorem kn_bits (hN : N ≤ 8) (K : Nat → Int32) (s : Nat) {u : Nat} (hu : u < 32) : bt (kn K N s) u = true ↔ u < N ∧ bt (K u) s = true := by
  unfold kn
  have := itr_inv (fun a R => R ||| bi (bt (K a) s) a) (fun i R => bt R u = true ↔ u < i ∧ bt (K u) s = true) N (fun i R hi hI => ?_) N 0 0 (by omega) (by simp [b_0])
  · rw [Nat.zero_add] at this
    exact this
  · show bt (R ||| bi (bt (K i) s) i) u = true ↔ _
    rw [b_or, Bool.or_eq_true, hI, bt_bi _ (by omega) hu, Bool.and_eq_true, decide_eq_true_eq]
    constructor
    · rintro (⟨q1, q2⟩ | ⟨q1, q2⟩)
      · exact ⟨by omega, q2⟩
      · subst q2; exact ⟨by omega, q1⟩
    · rintro ⟨q1, q2⟩
      by_cases z : u = i
      · subst z; exact Or.inr ⟨q2, rfl⟩
      · exact Or.inl ⟨by omega, q2⟩
theorem kn_cong (hN : N ≤ 8) {K K' : Nat → Int32} (h : ∀ a, a < 8 → K a = K' a) (s : Nat) : kn K N s = kn K' N s := bt_ext fun u hu => by
  rw [kn_bits hN K s hu, kn_bits hN K' s hu]
  constructor
  · rintro ⟨q1, q2⟩; exact ⟨q1, by rw [← h u (by omega)]; exact q2⟩
  · rintro ⟨q1, q2⟩; exact ⟨q1, by rw [h u (by omega)]; exact q2⟩
theorem knowersOf_eq (h : SRn N r re va no ro t) (K : Nat → Int32) {s : Nat} (hs : s < 32) : fX3_knowersOf (nI s) K no = some (kn K N s) := by
  obtain ⟨a1, a2, a3, a4, a5, a6, a7, a8, a9⟩ := id h
  have e : fX7_nodes no = nI N := a4
  unfold fX3_knowersOf kn
  have := cdet (fun n i m => fX3_knowersOf_l4 (nI s) K no n m (nI i)) N (fun a R => R ||| bi (bt (K a) s) a) some (fun n i m hi => ?_) (fun n m => ?_) fuel 0 0 (Nat.zero_le _) (by have : fuel = 200 := rfl; omega)
  · exact this
  · show fX3_knowersOf_l4 (nI s) K no (n + 1) m (nI i) = _
    rw [fX3_knowersOf_l4, e, if_neg (nI_ge hi (by omega)), ck_t (inb_t (by omega) (by decide)), nI_clamp (by omega), has_eq _ hs, if_b, nI_1, of_eq]
    unfold bi
    by_cases z : bt (K i) s = true
    · rw [if_pos z, if_pos z]
    · rw [if_neg z, if_neg z, or_zero32]
  · show fX3_knowersOf_l4 (nI s) K no (n + 1) m (nI N) = _
    rw [fX3_knowersOf_l4, e, if_pos (nI_le (Nat.le_refl N) (by omega))]
/-- both sides' edges of an adversary -/
theorem edges_both (h : SRn N r re va no ro t) {κ s : Nat} (hκ : κ < 3) (hs : s < N) {I : Int32} (hI : ∀ u, u < 32 → bt I u = true → u < N) (hIs : bt I s = true) (K Th : Nat → Int32) : ∃ o, E28 o ∧ fX0_edges (nI κ) (nI s) I (nI N) = some o ∧ (if (fX10_all t &&& (I ^^^ (-1 : Int32))) = 0 then fX10_against_b81 (nI κ) (nI s) I (fX10_all t &&& (I ^^^ (-1 : Int32))) 0 t K Th else (fX10_highest I).bind (fun o12 => (fX10_lowest (fX10_all t &&& (I ^^^ (-1 : Int32)))).bind (fun o13 => fX10_against_b81 (nI κ) (nI s) I (fX10_all t &&& (I ^^^ (-1 : Int32))) (fX10_pair o12 o13) t K Th))) = some (o, K, Th) := by
  have hN := h.2.1
  unfold fX0_edges
  rw [all_eq h]
  have hO : ∀ u, u < 32 → bt (fX6_firstOnes (nI N) &&& (I ^^^ (-1 : Int32))) u = true → u < N ∧ bt I u = false := fun u hu z => by
    rw [bt_diff _ _ hu, Bool.and_eq_true, ones_bits N (by omega) u hu, decide_eq_true_eq, Bool.not_eq_true'] at z
    exact z
  generalize fX6_firstOnes (nI N) &&& (I ^^^ (-1 : Int32)) = O at hO
  -- the bridge
  have hB : ∃ B, E28 B ∧ fX0_bridge I O = some B ∧ (if O = 0 then fX10_against_b81 (nI κ) (nI s) I O 0 t K Th else (fX10_highest I).bind (fun o12 => (fX10_lowest O).bind (fun o13 => fX10_against_b81 (nI κ) (nI s) I O (fX10_pair o12 o13) t K Th))) = fX10_against_b81 (nI κ) (nI s) I O B t K Th := by
    unfold fX0_bridge
    by_cases z : O = 0
    · rw [if_pos z, if_pos z]
      exact ⟨0, E28_0, rfl, rfl⟩
    · rw [if_neg z, if_neg z]
      obtain ⟨u, hu, hb⟩ := ne0_bit z
      have hu2 := hO u hu hb
      obtain ⟨l, l1, l2, l3, l4⟩ := low_both (S := O) ⟨u, by omega, hb⟩
      obtain ⟨m, m1, m2, m3⟩ := fb_last (p := fun u => bt I u = true) (n := 8) ⟨s, by omega, hIs⟩
      have g1 := greatest_eq I m1 m2 (fun k k1 k2 => ts_nt' (m3 k k1 k2))
      have g2 := highest_eq I m1 m2 (fun k k1 k2 => ts_nt' (m3 k k1 k2))
      rw [g1, g2, l3, l4, bd_s, bd_s, bd_s, bd_s, between_eq]
      refine ⟨_, E28_pair m1 l1 (fun w => ?_), rfl, rfl⟩
      have := (hO l (by omega) l2).2
      rw [← w, m2] at this; cases this
  obtain ⟨B, b1, b2, b3⟩ := hB
  rw [b3]
  unfold fX10_against_b81
  by_cases q0 : κ = 0
  · subst q0
    rw [if_pos (show nI 0 = 0 from rfl), if_pos (show nI 0 = 0 from rfl)]
    obtain ⟨c1, c2, c3, c4⟩ := chain_both h hI
    obtain ⟨d1, d2, d3, d4⟩ := chain_both h (fun u hu z => (hO u hu z).1)
    unfold fX0_path
    rw [c3, c4, d3, d4, b2]
    simp only [bd_s]
    refine ⟨(c1 ||| d1) ||| B, (c2.or d2).or b1, rfl, ?_⟩
    have e : (c1 ||| B) ||| d1 = (c1 ||| d1) ||| B := b_ext fun i hi => by
      rw [b_or, b_or, b_or, b_or]
      cases bt c1 i <;> cases bt d1 i <;> cases bt B i <;> rfl
    rw [e]
  · rw [if_neg (nI_ne0 (by omega) (by omega)), if_neg (nI_ne0 (by omega) (by omega))]
    by_cases q1 : κ = 1
    · subst q1
      rw [if_pos (show nI 1 = 1 from rfl), if_pos (show nI 1 = 1 from rfl)]
      unfold fX0_edges_b40 fX10_against_b123
      by_cases z : O = 0
      · rw [if_pos z, if_pos z]
        obtain ⟨o, o1, o2, o3⟩ := star_both h (c := s) (by omega)
        rw [o2, o3]
        exact ⟨o, o1, rfl, rfl⟩
      · rw [if_neg z, if_neg z]
        obtain ⟨u, hu, hb⟩ := ne0_bit z
        have hu2 := hO u hu hb
        obtain ⟨l, l1, l2, l3, l4⟩ := low_both (S := O) ⟨u, by omega, hb⟩
        obtain ⟨o, o1, o2, o3⟩ := star_both h (c := l) l1
        rw [l3, l4, bd_s, bd_s, o2, o3]
        exact ⟨o, o1, rfl, rfl⟩
    · have q2 : ¬ nI κ = 1 := fun z => q1 ((nI_eq (a := κ) (b := 1) (by omega) (by omega)).mp z)
      rw [if_neg q2, if_neg q2]
      obtain ⟨c1, c2, c3, c4⟩ := clique_both h hI
      obtain ⟨d1, d2, d3, d4⟩ := clique_both h (fun u hu z => (hO u hu z).1)
      rw [c3, c4, d3, d4, b2]
      simp only [bd_s]
      exact ⟨(c1 ||| d1) ||| B, (c2.or d2).or b1, rfl, rfl⟩
theorem against_eq (h : SRn N r re va no ro t) {κ s : Nat} (hκ : κ < 3) (hs : s < N) (K Th : Nat → Int32) : ∃ o K' Th', E28 o ∧ fX0_edges (nI κ) (nI s) (kn (KK re r N 0 r) N s) (nI N) = some o ∧ fX10_against (nI κ) (nI s) t K Th = some (o, K', Th') := by
  obtain ⟨a1, a2, a3, a4, a5, a6, a7, a8, a9⟩ := id h
  obtain ⟨K', Th', p1, p2⟩ := floods_eq h (f := 0) (n := r) (by omega) (by omega) K Th
  change fX10_floods 0 (nI r) t K Th = _ at p1
  unfold fX10_against
  rw [a7, p1, bd_s]
  dsimp only
  have hI : ∀ u, u < 32 → bt (kn (KK re r N 0 r) N s) u = true → u < N := fun u hu z => ((kn_bits a2 _ s hu).mp z).1
  have hIs : bt (kn (KK re r N 0 r) N s) s = true := (kn_bits a2 _ s (by omega)).mpr ⟨hs, KK_self a2 r (by omega)⟩
  obtain ⟨o, o1, o2, o3⟩ := edges_both h hκ hs hI hIs K' Th'
  have := cdet (fun n i R => fX10_against_l16 (nI κ) (nI s) t K' Th' n R (nI i)) N (fun a R => R ||| bi (bt (K' a) s) a) (fun R => if (fX10_all t &&& (R ^^^ (-1 : Int32))) = 0 then fX10_against_b81 (nI κ) (nI s) R (fX10_all t &&& (R ^^^ (-1 : Int32))) 0 t K' Th' else (fX10_highest R).bind (fun o12 => (fX10_lowest (fX10_all t &&& (R ^^^ (-1 : Int32)))).bind (fun o13 => fX10_against_b81 (nI κ) (nI s) R (fX10_all t &&& (R ^^^ (-1 : Int32))) (fX10_pair o12 o13) t K' Th'))) (fun n i R hi => ?_) (fun n R => ?_) fuel 0 0 (Nat.zero_le _) (by have : fuel = 200 := rfl; omega)
  · have e : itr (fun a R => R ||| bi (bt (K' a) s) a) 0 (N - 0) 0 = kn (KK re r N 0 r) N s := kn_cong a2 p2 s
    rw [e, o3] at this
    exact ⟨o, K', Th', o1, o2, this⟩
  · show fX10_against_l16 (nI κ) (nI s) t K' Th' (n + 1) R (nI i) = _
    rw [fX10_against_l16, a6, if_neg (nI_ge hi (by omega)), ck_t (inb_t (by omega) (by decide)), nI_clamp (by omega), bi_sh _ (by omega), nI_1]
  · show fX10_against_l16 (nI κ) (nI s) t K' Th' (n + 1) R (nI N) = _
    rw [fX10_against_l16, a6, if_pos (nI_le (Nat.le_refl N) (by omega))]
end AD
section ADS
variable {sre sva : Nat → Int32} {sno sro : Int32} {t : Nat → Int32} {size : Int32} {b e v : Nat → Nat} {re va : Nat → Nat → Int32} {no ro : Nat → Int32} {P : Nat → Int32} {p : Int32}
theorem sim_addAdversary (hS : SR sre sva sno sro t) (hH : HR size re va no ro P p) (a : Nat → Int32) (x y : Int32) (Fk Fb : Nat → Int32) (Fs : Int32) (Tk Tt : Nat → Int32) :
    ∃ o9 o10, fX9_addAdversary x y sre sva sno sro size b e v re va no ro Fk Fb Fs = some o9 ∧ fX10_addAdversary x y t P a p Tk Tt = some o10 ∧ o9.1 = o10.1 ∧ SR o9.2.1 sva sno o9.2.2.1 o10.2.1 ∧ HR o9.2.2.2.1 o9.2.2.2.2.2.2.2.1 o9.2.2.2.2.2.2.2.2.1 o9.2.2.2.2.2.2.2.2.2.1 o9.2.2.2.2.2.2.2.2.2.2.1 o10.2.2.1 o10.2.2.2.2.1 := by
  obtain ⟨N, r, h⟩ := id hS
  obtain ⟨a1, a2, a3, a4, a5, a6, a7, a8, a9⟩ := id h
  unfold fX9_addAdversary fX10_addAdversary
  rw [inRule_eq, hasNode_eq h, isNode_eq h, if_b, if_b, if_b, if_b]
  by_cases q : ndx 3 x = true
  · obtain ⟨κ, hκ, rfl⟩ := ndx_of q (by omega)
    rw [if_pos q, if_neg (nI_pos (by omega)), if_neg (show ¬ (2 : Int32) < nI κ from nI_nlt (a := 2) (by omega) (by decide))]
    by_cases q2 : ndx N y = true
    · obtain ⟨s, hs, rfl⟩ := ndx_of q2 (by omega)
      rw [if_pos q2, if_pos q2, a5, a7, isFull_eq a3]
      by_cases q3 : r = 16
      · rw [if_pos (decide_eq_true q3), if_pos ((full_eq a3).mpr q3)]
        exact ⟨_, _, rfl, rfl, rfl, a5 ▸ hS, hH⟩
      · obtain ⟨K2, Kb2, p3, p4⟩ := advanceBy_eq h (f := 0) (n := r) (by omega) (by omega) (K := fb_put Fk bit 0 8) Fb (put_bit Fk)
        obtain ⟨o, K', Th', g1, g2, g3⟩ := against_eq h hκ hs Tk Tt
        have e1 : fX3_advanceBy (fX7_rounds (nI r)) (fb_put Fk bit 0 8) Fb 0 sre sno (nI r) = some (K2, Kb2, nI (0 + r)) := by rw [← a5]; rw [← a5] at p3; exact p3
        have e2 : fX7_nodes sno = nI N := a4
        rw [if_neg (show ¬ decide (r = 16) = true from fun z => q3 (of_decide_eq_true z)), if_neg (fun z => q3 ((full_eq a3).mp z)), begin_eq, bd_s]
        dsimp only
        rw [e1, bd_s]
        dsimp only
        rw [knowersOf_eq h K2 (by omega), bd_s, kn_cong a2 p4, e2, g2, bd_s, hold_eq, bd_s, g3, bd_s]
        dsimp only
        rw [adds_eq h (by omega), append_eq _ (by omega), count_eq g1]
        simp only [bd_s]
        obtain ⟨oH, P', p', q1, q2, q3⟩ := save_ends (b := b) (e := e) (v := v) hH hS (hold_at t a) (fJ6_bitCount_0f7a4 o)
        rw [← a5, q1, q2]
        simp only [bd_s]
        exact ⟨_, _, rfl, rfl, rfl, ⟨N, r + 1, h.add (by omega) g1⟩, q3⟩
    · rw [if_neg q2, if_neg q2]; exact ⟨_, _, rfl, rfl, rfl, hS, hH⟩
  · have z1 : ¬ (0 ≤ x.toInt ∧ x.toInt < (3 : Nat)) := fun w => q (decide_eq_true w)
    rw [if_neg q]
    by_cases q4 : x < 0
    · rw [if_pos q4]; exact ⟨_, _, rfl, rfl, rfl, hS, hH⟩
    · have q5 : (2 : Int32) < x := by
        rw [fa_lt] at q4 ⊢
        have e0 : (0 : Int32).toInt = 0 := rfl
        have e2 : (2 : Int32).toInt = 2 := rfl
        omega
      rw [if_neg q4, if_pos q5]; exact ⟨_, _, rfl, rfl, rfl, hS, hH⟩
end ADS
