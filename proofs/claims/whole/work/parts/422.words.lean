/-! ===== words, digits, edges as tokens ===== -/
def wL : List (List Nat) := [[110, 111, 100, 101, 115], [114, 101, 112, 101, 97, 116], [115, 116, 97, 114], [110, 111, 110, 101], [102, 117, 108, 108], [112, 97, 116, 104], [114, 105, 110, 103]]
def wch (i j : Nat) : Nat := (wL.getD i []).getD j 0
theorem schr_eq : ∀ i, i < 7 → ∀ j, j < 6 → schr i j = nI (wch i j) ∧ wch i j < 256 := by decide +kernel
theorem lenS_le : ∀ i, i < 7 → lenS.getD i 0 ≤ 6 := by decide
def wd (c : Nat → Nat) (k s e i : Nat) : Bool := decide (k = 1 ∧ e - s = lenS.getD i 0 ∧ ∀ j, j < lenS.getD i 0 → c (s + j) = wch i j)
theorem wd_k {c : Nat → Nat} {k s e i : Nat} (h : wd c k s e i = true) : k = 1 ∧ e - s = lenS.getD i 0 := ⟨(of_decide_eq_true h).1, (of_decide_eq_true h).2.1⟩
theorem wd_no {c : Nat → Nat} {k s e i : Nat} (h : ¬ (k = 1 ∧ e - s = lenS.getD i 0)) : wd c k s e i = false := ts_nt' (fun z => h (wd_k z))
section WO
variable {c : Nat → Nat} {n : Nat} {cs tx : Nat → Int32}
theorem isWord9_eq (hX : TX c n cs tx) {k s e : Nat} {L : Int64} {M : Int32} (hT : TK c n k s e L M) {i : Nat} (hi : i < 7) : fX8_isWord i cs (nI n) (nI k) (nI s) (nI e) = some (wd c k s e i) := by
  have hn := hX.1
  obtain ⟨t1, t2, t3, t4, t5, t6⟩ := hT
  have hl := lenS_le i hi
  unfold fX8_isWord
  by_cases q1 : k = 1
  · rw [if_pos (by rw [q1]; rfl), pk_sub t1]
    by_cases q2 : e - s = lenS.getD i 0
    · rw [if_pos (by rw [q2])]
      have key : ∀ (f j : Nat), j ≤ lenS.getD i 0 → lenS.getD i 0 < f + j → (∀ u, u < j → c (s + u) = wch i u) → fX8_isWord_l28 i cs (nI n) (nI s) f (nI j) = some (wd c k s e i) := by
        intro f
        induction f with
        | zero => intro j h1 h2; omega
        | succ f ih =>
          intro j h1 h2 hu
          rw [fX8_isWord_l28]
          rcases Nat.lt_or_ge j (lenS.getD i 0) with q | q
          · have hx := hX.2 (s + j) (by omega)
            obtain ⟨w1, w2⟩ := schr_eq i hi j (by omega)
            rw [if_neg (nI_ge q (by omega)), nI_add, charAt_eq hX (show s + j < n by omega), bd_s, ck_t (inb_t q (by omega)), nI_clamp (by omega), w1, nI_1]
            by_cases z : c (s + j) = wch i j
            · rw [if_pos (by rw [z])]
              refine ih (j + 1) q (by omega) (fun u hu2 => ?_)
              by_cases w : u = j
              · subst w; exact z
              · exact hu u (by omega)
            · rw [if_neg (fun w => z ((nI_eq (by omega) (by omega)).mp w))]
              have : wd c k s e i = false := decide_eq_false (fun w => z (w.2.2 j q))
              rw [this]
          · rw [if_pos (nI_le q (by omega))]
            have : wd c k s e i = true := decide_eq_true ⟨q1, q2, fun u hu2 => hu u (by omega)⟩
            rw [this]
      exact key fuel 0 (Nat.zero_le _) (by have : fuel = 200 := rfl; omega) (fun u hu => by omega)
    · rw [if_neg (fun z => q2 ((nI_eq (by omega) (by omega)).mp z)), wd_no (fun z => q2 z.2)]
  · rw [if_neg (show ¬ nI k = (1 : Int32) from fun z => q1 ((nI_eq (a := k) (b := 1) (by omega) (by decide)).mp z)), wd_no (fun z => q1 z.1)]
theorem pkc_lt {s : Nat} : ∀ m, (∀ j, j < m → c (s + j) < 256) → pkc c s m < 256 ^ m
  | 0, _ => show (0 : Nat) < 256 ^ 0 by decide
  | m + 1, h => by
    have h1 := pkc_lt m (fun j hj => h j (by omega))
    have h2 := h m (by omega)
    show pkc c s m * 256 + c (s + m) < 256 ^ (m + 1)
    rw [Nat.pow_succ]
    omega
theorem pkc_eq {d : Nat → Nat} {s : Nat} : ∀ m, (∀ j, j < m → c (s + j) < 256) → (∀ j, j < m → d j < 256) → (pkc c s m = pkc d 0 m ↔ ∀ j, j < m → c (s + j) = d j)
  | 0, _, _ => ⟨fun _ j hj => by omega, fun _ => rfl⟩
  | m + 1, h, h' => by
    have ih := pkc_eq m (fun j hj => h j (by omega)) (fun j hj => h' j (by omega))
    have h2 := h m (by omega)
    have h3 := h' m (by omega)
    show pkc c s m * 256 + c (s + m) = pkc d 0 m * 256 + d (0 + m) ↔ _
    rw [Nat.zero_add]
    constructor
    · intro z j hj
      have z1 : pkc c s m = pkc d 0 m := by omega
      have z2 : c (s + m) = d m := by omega
      by_cases w : j = m
      · subst w; exact z2
      · exact ih.mp z1 j (by omega)
    · intro z
      rw [ih.mpr (fun j hj => z j (by omega)), z m (by omega)]
theorem isWord10_eq (hX : TX c n cs tx) {k s e : Nat} {L : Int64} {M : Int32} (hT : TK c n k s e L M) {i : Nat} (hi : i < 7) {x : Int32} {W : Int64} (hx : x = nI (lenS.getD i 0)) (hW : W = lN (pkc (wch i) 0 (lenS.getD i 0))) : fX10_isWord x W (nI k) (nI (e - s)) L = wd c k s e i := by
  have hn := hX.1
  obtain ⟨t1, t2, t3, t4, t5, t6⟩ := hT
  have hl := lenS_le i hi
  unfold fX10_isWord
  by_cases q1 : k = 1
  · rw [if_pos (by rw [q1]; rfl), hx]
    by_cases q2 : e - s = lenS.getD i 0
    · have hc : ∀ j, j < lenS.getD i 0 → c (s + j) < 256 := fun j hj => (hX.2 (s + j) (by omega)).1
      have hd : ∀ j, j < lenS.getD i 0 → wch i j < 256 := fun j hj => (schr_eq i hi j (by omega)).2
      have b1 := pkc_lt (c := c) (s := s) _ hc
      have b2 := pkc_lt (c := wch i) (s := 0) (lenS.getD i 0) (fun j hj => by rw [Nat.zero_add]; exact hd j hj)
      have b3 : 256 ^ (lenS.getD i 0) ≤ 256 ^ 6 := Nat.pow_le_pow_right (by decide) hl
      have b4 : (256 : Nat) ^ 6 < 2 ^ 63 := by decide
      rw [if_pos (by rw [q2]), t5 q1 (by omega), hW, q2]
      have iff1 : lg_cmp (lN (pkc c s (lenS.getD i 0))) (lN (pkc (wch i) 0 (lenS.getD i 0))) = 0 ↔ ∀ j, j < lenS.getD i 0 → c (s + j) = wch i j := by
        rw [lg_cmp_eq, fb_lN_inj (by omega) (by omega)]
        exact pkc_eq _ hc hd
      by_cases z : ∀ j, j < lenS.getD i 0 → c (s + j) = wch i j
      · rw [if_pos (iff1.mpr z)]
        exact (decide_eq_true ⟨q1, q2, z⟩).symm
      · rw [if_neg (fun w => z (iff1.mp w))]
        exact (decide_eq_false (fun w => z w.2.2)).symm
    · rw [if_neg (fun z => q2 ((nI_eq (by omega) (by omega)).mp z)), wd_no (fun z => q2 z.2)]
  · rw [if_neg (show ¬ nI k = (1 : Int32) from fun z => q1 ((nI_eq (a := k) (b := 1) (by omega) (by decide)).mp z)), wd_no (fun z => q1 z.1)]
/-- the token is one digit -/
theorem digit9_yes (hX : TX c n cs tx) {k s e : Nat} {L : Int64} {M : Int32} (hT : TK c n k s e L M) (h : k = 2 ∧ e - s = 1) : ∃ d, d < 10 ∧ fX8_oneDigit cs (nI n) (nI k) (nI s) (nI e) = some (nI d) ∧ M = nI d := by
  have hn := hX.1
  obtain ⟨t1, t2, t3, t4, t5, t6⟩ := hT
  obtain ⟨g1, g2⟩ := t6 h.1
  have hd := g1 s (Nat.le_refl s) (by omega)
  refine ⟨c s - 48, by omega, ?_, ?_⟩
  · unfold fX8_oneDigit fX8_digitAt
    have e1 : nI (c s) - (48 : Int32) = nI (c s - 48) := pk_sub (b := 48) hd.1
    rw [if_pos (by rw [h.1]; rfl), pk_sub t1, if_pos (by rw [h.2]; rfl), charAt_eq hX (by omega), bd_s, bd_s, e1]
  · rw [g2 (by omega), h.2]
    show nI (10 * 0 + (c (s + 0) - 48)) = _
    rw [Nat.add_zero, Nat.mul_zero, Nat.zero_add]
theorem digit9_no {k s e : Nat} {L : Int64} {M : Int32} (hT : TK c n k s e L M) (hn : n ≤ 120) (h : ¬ (k = 2 ∧ e - s = 1)) : fX8_oneDigit cs (nI n) (nI k) (nI s) (nI e) = some (-1) ∧ ∀ x y, fX10_isDigit x y (nI k) (nI (e - s)) M = false := by
  obtain ⟨t1, t2, t3, t4, t5, t6⟩ := hT
  unfold fX8_oneDigit fX10_isDigit
  by_cases q1 : k = 2
  · have q2 : ¬ nI (e - s) = (1 : Int32) := fun z => h ⟨q1, (nI_eq (b := 1) (by omega) (by decide)).mp z⟩
    rw [if_pos (by rw [q1]; rfl), pk_sub t1, if_neg q2]
    exact ⟨rfl, fun x y => by rw [if_pos (by rw [q1]; rfl), if_neg q2]⟩
  · have q2 : ¬ nI k = (2 : Int32) := fun z => q1 ((nI_eq (b := 2) (by omega) (by decide)).mp z)
    rw [if_neg q2]
    exact ⟨rfl, fun x y => by rw [if_neg q2]⟩
theorem digit10_yes {k s e : Nat} (h : k = 2 ∧ e - s = 1) {d a b : Nat} (hd : d < 10) (ha : a < 1000) (hb : b < 1000) : fX10_isDigit (nI a) (nI b) (nI k) (nI (e - s)) (nI d) = decide (a ≤ d ∧ d ≤ b) := by
  unfold fX10_isDigit
  rw [if_pos (by rw [h.1]; rfl), if_pos (by rw [h.2]; rfl), in_rng _ hb ha, if_b, nI_toInt (by omega)]
  by_cases z : a ≤ d ∧ d ≤ b
  · rw [if_pos (decide_eq_true (show (a : Int) ≤ (d : Int) ∧ (d : Int) ≤ (b : Int) by omega)), decide_eq_true z]
  · rw [if_neg (fun w => z (by have := of_decide_eq_true w; omega)), decide_eq_false z]
/-- the token is an edge -/
theorem edge_both (hX : TX c n cs tx) {N r : Nat} {re va : Nat → Int32} {no ro : Int32} {t : Nat → Int32} (h : SRn N r re va no ro t) {k s e : Nat} {L : Int64} {M : Int32} (hT : TK c n k s e L M) (hk : k = 2) :
    (fX8_isEdge cs (nI n) (nI s) (nI e) no = some false ∧ fX10_isEdge t (nI k) (nI (e - s)) M = false) ∨
    ∃ a b, a < 8 ∧ b < 8 ∧ a ≠ b ∧ fX8_isEdge cs (nI n) (nI s) (nI e) no = some true ∧ fX10_isEdge t (nI k) (nI (e - s)) M = true ∧ fX8_digitAt (nI s) cs (nI n) = some (nI a) ∧ fX8_digitAt (nI s + 1) cs (nI n) = some (nI b) ∧ M / (10 : Int32) = nI a ∧ M - M / (10 : Int32) * (10 : Int32) = nI b := by
  have hn := hX.1
  have hN := h.2.1
  obtain ⟨t1, t2, t3, t4, t5, t6⟩ := hT
  obtain ⟨g1, g2⟩ := t6 hk
  unfold fX8_isEdge fX10_isEdge
  rw [pk_sub t1, if_pos (show nI k = (2 : Int32) by rw [hk]; rfl)]
  by_cases q : e - s = 2
  · have q' : nI (e - s) = (2 : Int32) := by rw [q]; rfl
    have h0 := g1 s (Nat.le_refl s) (by omega)
    have h1 := g1 (s + 1) (by omega) (by omega)
    have e0 : fX8_digitAt (nI s) cs (nI n) = some (nI (c s - 48)) := by
      unfold fX8_digitAt
      have e1 : nI (c s) - (48 : Int32) = nI (c s - 48) := pk_sub (b := 48) h0.1
      rw [charAt_eq hX (by omega), bd_s, e1]
    have e1 : fX8_digitAt (nI s + 1) cs (nI n) = some (nI (c (s + 1) - 48)) := by
      unfold fX8_digitAt
      have e1 : nI (c (s + 1)) - (48 : Int32) = nI (c (s + 1) - 48) := pk_sub (b := 48) h1.1
      rw [nI_1, charAt_eq hX (by omega), bd_s, e1]
    have hM : M = nI (10 * (c s - 48) + (c (s + 1) - 48)) := by
      rw [g2 (by omega), q]
      show nI (10 * (10 * 0 + (c (s + 0) - 48)) + (c (s + 1) - 48)) = _
      rw [Nat.mul_zero, Nat.zero_add, Nat.add_zero]
    have d0 : M / (10 : Int32) = nI (c s - 48) := by
      rw [hM]
      have := pk_div (a := 10 * (c s - 48) + (c (s + 1) - 48)) (d := 10) (by omega) (by decide) (by decide)
      have e3 : (10 * (c s - 48) + (c (s + 1) - 48)) / 10 = c s - 48 := by omega
      rw [e3] at this
      exact this
    have d1 : M - M / (10 : Int32) * (10 : Int32) = nI (c (s + 1) - 48) := by
      rw [hM]
      have := pk_rem (a := 10 * (c s - 48) + (c (s + 1) - 48)) (d := 10) (by omega) (by decide) (by decide)
      have e3 : (10 * (c s - 48) + (c (s + 1) - 48)) % 10 = c (s + 1) - 48 := by omega
      rw [e3] at this
      exact this
    rw [if_pos q', if_pos q', e0, bd_s, e1, bd_s, d1, d0]
    unfold fX10_isPair
    rw [hasNode_eq h, hasNode_eq h, isNode_eq h, isNode_eq h, if_b, if_b, if_b, if_b, if_b]
    generalize hx : c s - 48 = x
    generalize hy : c (s + 1) - 48 = y
    have bx : x < 10 := by omega
    have byy : y < 10 := by omega
    have hnd : ∀ z, z < 10 → ndx N (nI z) = true → z < N := fun z hz w => by
      obtain ⟨j, hj, ej⟩ := ndx_of w (by omega)
      have := (nI_eq (by omega) (by omega)).mp ej
      omega
    by_cases z1 : ndx N (nI x) = true
    · rw [if_pos z1, if_pos z1]
      by_cases z2 : ndx N (nI y) = true
      · rw [if_pos z2, if_pos z2]
        by_cases z3 : x = y
        · have z4 : nI x = nI y := by rw [z3]
          rw [if_pos z4, if_pos z4]
          exact Or.inl ⟨rfl, rfl⟩
        · have z4 : ¬ nI x = nI y := fun w => z3 ((nI_eq (by omega) (by omega)).mp w)
          rw [if_neg z4, if_neg z4]
          have := hnd x bx z1
          have := hnd y byy z2
          exact Or.inr ⟨x, y, by omega, by omega, z3, rfl, rfl, rfl, rfl, rfl, rfl⟩
      · rw [if_neg z2, if_neg z2]
        exact Or.inl ⟨rfl, rfl⟩
    · rw [if_neg z1, if_neg z1]
      exact Or.inl ⟨rfl, rfl⟩
  · have q' : ¬ nI (e - s) = (2 : Int32) := fun z => q ((nI_eq (b := 2) (by omega) (by decide)).mp z)
    rw [if_neg q', if_neg q']
    exact Or.inl ⟨rfl, rfl⟩
theorem edge10_no {t : Nat → Int32} {k : Nat} (hk : k < 5) (h : k ≠ 2) (m M : Int32) : fX10_isEdge t (nI k) m M = false := by
  unfold fX10_isEdge
  rw [if_neg (show ¬ nI k = (2 : Int32) from fun z => h ((nI_eq (b := 2) (by omega) (by decide)).mp z))]
end WO
