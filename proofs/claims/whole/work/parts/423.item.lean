/-! ===== items of a text ===== -/
def RI (c : Nat → Nat) (n p : Nat) (o9 : Bool × Int32 × Int32 × Int32 × (Nat → Int32) × (Nat → Int32) × Int32 × Int32) (o10 : Bool × (Nat → Int32) × Int32 × Int32 × Int32 × Int32 × Int64 × Int32) : Prop :=
  (o9.1 = true ∧ o10.1 = true ∧ o9.2.1 = 3 ∧ SR o9.2.2.2.2.1 o9.2.2.2.2.2.1 o9.2.2.2.2.2.2.1 o9.2.2.2.2.2.2.2 o10.2.1 ∧ ∃ e', p < e' ∧ e' ≤ n ∧ o9.2.2.2.1 = nI e' ∧ o10.2.2.1 = nI e') ∨ ((o9.1 = false ∨ ¬ o9.2.1 = 3) ∧ o10.1 = false ∧ o10.2.2.2.1 = o9.2.2.1 ∧ ∃ s', s' ≤ n ∧ o9.2.2.1 = nI s')
theorem rewrap {α : Type} (b : Bool) (x : α) : (if b2i b = 0 then some (false, x) else some (true, x)) = some (b, x) := by cases b <;> rfl
section IT
variable {c : Nat → Nat} {n : Nat} {cs tx : Nat → Int32} {N r : Nat} {re va : Nat → Int32} {no ro : Int32} {t : Nat → Int32}
theorem RI_bad {p k s e : Nat} {L : Int64} {M : Int32} (hT : TK c n k s e L M) (re va : Nat → Int32) (no ro : Int32) (t : Nat → Int32) : RI c n p (false, nI k, nI s, nI e, re, va, no, ro) (false, t, nI e, nI s, nI k, nI (e - s), L, M) := Or.inr ⟨Or.inl rfl, rfl, rfl, s, by have := hT.1; have := hT.2.1; omega, rfl⟩
theorem RI_fin (hS : SR re va no ro t) {p k s e : Nat} {L : Int64} {M : Int32} (hT : TK c n k s e L M) (hp : p ≤ s) : ∃ o10, (if nI k = (3 : Int32) then some (true, t, nI e, nI s, nI k, nI (e - s), L, M) else some (false, t, nI e, nI s, nI k, nI (e - s), L, M)) = some o10 ∧ RI c n p (true, nI k, nI s, nI e, re, va, no, ro) o10 := by
  obtain ⟨t1, t2, t3, t4, _⟩ := hT
  by_cases q : k = 3
  · have q' : nI k = (3 : Int32) := by rw [q]; rfl
    rw [if_pos q']
    have := t4 (by omega)
    exact ⟨_, rfl, Or.inl ⟨rfl, rfl, q', hS, e, by omega, t2, rfl, rfl⟩⟩
  · have q' : ¬ nI k = (3 : Int32) := fun z => q ((nI_eq (b := 3) (by omega) (by decide)).mp z)
    rw [if_neg q']
    exact ⟨_, rfl, Or.inr ⟨Or.inr q', rfl, rfl, s, by omega, rfl⟩⟩
theorem edges_loop (hX : TX c n cs tx) (h : SRn N r re va no ro t) (hr : r < 16) {p : Nat} : ∀ (f i k s e : Nat) (L : Int64) (M E : Int32), TK c n k s e L M → E28 E → i ≤ s → n < f + s → p ≤ e → (k = 2 ∨ p ≤ s) → ∃ o9 o10, fX8_readEdges_l13 cs (nI n) re no ro f E (nI i) (nI k) (nI s) (nI e) = some o9 ∧ fX10_areEdges_l2 t tx (nI n) f E (nI e) (nI s) (nI k) (nI (e - s)) L M = some o10 ∧ RI c n p (o9.1, o9.2.1, o9.2.2.1, o9.2.2.2.1, o9.2.2.2.2.1, va, no, o9.2.2.2.2.2) o10 := by
  have hn := hX.1
  obtain ⟨a1, a2, a3, a4, a5, a6, a7, a8, a9⟩ := id h
  intro f
  induction f with
  | zero => intro i k s e L M E hT _ _ h1; have := hT.1; have := hT.2.1; omega
  | succ f ih =>
    intro i k s e L M E hT hE hi hf hpe hps
    obtain ⟨t1, t2, t3, t4, _⟩ := id hT
    rw [fX8_readEdges_l13, fX10_areEdges_l2]
    by_cases q : k = 2
    · have := t4 (by omega)
      rw [if_neg (show ¬ (120 : Int32) ≤ nI i from nI_ge (b := 120) (by omega) (by decide)), if_pos (show nI k = (2 : Int32) by rw [q]; rfl)]
      rcases edge_both hX h hT q with ⟨g1, g2⟩ | ⟨x, y, x1, x2, x3, g1, g2, g3, g4, g5, g6⟩
      · have q3 : ¬ nI k = (3 : Int32) := by rw [q]; decide
        rw [g1, bd_s, g2, if_pos b2i_f, if_pos b2i_f, adds_eq h hr, bd_s, if_neg q3]
        exact ⟨_, _, rfl, rfl, RI_bad hT _ _ _ _ _⟩
      · obtain ⟨k1, s1, e1, L1, M1, n1, n2, n3, n4⟩ := next_both hX t2 (nI k) (nI s) (nI s) (nI k) (nI (e - s)) L M
        rw [g1, bd_s, g2, if_neg (show ¬ b2i true = 0 by decide), if_neg (show ¬ b2i true = 0 by decide), g3, bd_s, g4, bd_s, n1, bd_s, n2, bd_s, g6, g5, between_eq, nI_1]
        exact ih (i + 1) k1 s1 e1 L1 M1 _ n3 (hE.or (E28_pair x1 x2 x3)) (by omega) (by omega) (by have := n3.1; omega) (Or.inr (by omega))
    · have q2 : ¬ nI k = (2 : Int32) := fun z => q ((nI_eq (b := 2) (by omega) (by decide)).mp z)
      have e1 : ∀ (A : Option (Bool × Int32 × Int32 × Int32 × (Nat → Int32) × Int32)) (B : Option (Bool × Int32 × Int32 × Int32 × (Nat → Int32) × Int32)), (if (120 : Int32) ≤ nI i then A else if nI k = 2 then B else A) = A := fun A B => by rw [if_neg q2, ite_self]
      rw [e1, edge10_no t3 q, if_pos b2i_f, adds_eq h hr, bd_s]
      unfold fX8_readEdges_b71
      rw [a5, append_eq _ hr, bd_s]
      have hS : SR (upd re r E) va no (nI (r + 1)) (upd (upd t (2 + r) E) 1 (nI (r + 1))) := ⟨N, r + 1, h.add hr hE⟩
      obtain ⟨o10, o1, o2⟩ := RI_fin hS hT (p := p) (by omega)
      exact ⟨_, o10, rfl, o1, o2⟩
theorem plain_fin (hX : TX c n cs tx) (h : SRn N r re va no ro t) (hr : r < 16) {E : Int32} (hE : E28 E) {p e : Nat} (he : e ≤ n) (hp : p ≤ e) (K S F T U : Int32) (L : Int64) (M : Int32) : ∃ o9 o10, ((fX7_append E re ro).bind (fun o => fX8_readPlainRound_b87 cs (nI n) K S (nI e) o.1 o.2)) = some o9 ∧ ((fX10_adds E t).bind (fun o9 => (fX10_reads tx (nI n) (nI e) F T U L M).bind (fun o10 => if o10.2.2.1 = 3 then (some (true, o9, o10.1, o10.2.1, o10.2.2.1, o10.2.2.2.1, o10.2.2.2.2.1, o10.2.2.2.2.2)) else (some (false, o9, o10.1, o10.2.1, o10.2.2.1, o10.2.2.2.1, o10.2.2.2.2.1, o10.2.2.2.2.2))))) = some o10 ∧ RI c n p (o9.1, o9.2.1, o9.2.2.1, o9.2.2.2.1, o9.2.2.2.2.1, va, no, o9.2.2.2.2.2) o10 := by
  obtain ⟨a1, a2, a3, a4, a5, a6, a7, a8, a9⟩ := id h
  obtain ⟨k1, s1, e1, L1, M1, n1, n2, n3, n4⟩ := next_both hX he K S F T U L M
  have hS : SR (upd re r E) va no (nI (r + 1)) (upd (upd t (2 + r) E) 1 (nI (r + 1))) := ⟨N, r + 1, h.add hr hE⟩
  obtain ⟨o10, o1, o2⟩ := RI_fin hS n3 (p := p) (by omega)
  unfold fX8_readPlainRound_b87
  rw [a5, append_eq _ hr, adds_eq h hr]
  simp only [bd_s]
  rw [n1, n2]
  simp only [bd_s]
  exact ⟨_, o10, rfl, o1, o2⟩
theorem repeat_loop (hX : TX c n cs tx) {m E e p : Nat} {x : Int32} (he : e ≤ n) (hp : p ≤ e) (hx : E28 x) (hm : m < 100) (K S F T U : Int32) (L : Int64) (M : Int32) : ∀ (f j r : Nat) (re t : Nat → Int32), SRn N r re va no (nI r) t → 1 ≤ r → re (r - 1) = x → j ≤ m → m < f + j → r + (m - j) ≤ 16 → ∃ o9 o10, fX8_readRepeat_l41 (nI m) x cs (nI n) K S (nI e) f (nI j) re (nI r) = some o9 ∧ fX10_isRepeat_l39 (nI m) tx (nI n) (nI e) F T U L M f (nI j) t = some o10 ∧ RI c n p (o9.1, o9.2.1, o9.2.2.1, o9.2.2.2.1, o9.2.2.2.2.1, va, no, o9.2.2.2.2.2) o10 := by
  intro f
  induction f with
  | zero => intro j r re t _ _ _ h1 h2; omega
  | succ f ih =>
    intro j r re t h h1 hE hj hf hr
    obtain ⟨a1, a2, a3, a4, a5, a6, a7, a8, a9⟩ := id h
    rw [fX8_readRepeat_l41, fX10_isRepeat_l39]
    rcases Nat.lt_or_ge j m with q | q
    · have i1 : (2 : Int32) + nI r - 1 = nI (r + 1) := by
        have : (2 : Int32) + nI r = nI (2 + r) := nI_add 2 r
        rw [this, show 2 + r = (r + 1) + 1 by omega]
        exact nI_pred _
      have i2 : t (r + 1) = x := by
        have := (a8 (r - 1) (by omega)).1
        rw [show 2 + (r - 1) = r + 1 by omega] at this
        rw [← this, hE]
      rw [if_neg (nI_ge q (by omega)), if_neg (nI_ge q (by omega)), a7, i1, ck_t (inb_t (by omega) (by decide)), nI_clamp (by omega), i2, append_eq _ (by omega), adds_eq h (by omega), bd_s, bd_s, nI_1]
      exact ih (j + 1) (r + 1) _ _ (h.add (by omega) hx) (by omega) (by rw [Nat.add_sub_cancel]; exact upd_same _ _ _) q (by omega) (by omega)
    · obtain ⟨k1, s1, e1, L1, M1, n1, n2, n3, n4⟩ := next_both hX he K S F T U L M
      obtain ⟨o10, o1, o2⟩ := RI_fin (show SR re va no (nI r) t from ⟨N, r, h⟩) n3 (p := p) (by omega)
      rw [if_pos (nI_le q (by omega)), if_pos (nI_le q (by omega)), n1, n2]
      simp only [bd_s]
      exact ⟨_, o10, rfl, o1, o2⟩
theorem repeat_both (hX : TX c n cs tx) (h : SRn N r re va no ro t) (h1 : 1 ≤ r) {p e : Nat} (he : e ≤ n) (hp : p ≤ e) (K S F T U : Int32) (L : Int64) (M : Int32) : ∃ o9 o10, fX8_readRepeat cs (nI n) K S (nI e) re ro = some o9 ∧ fX10_isRepeat t tx (nI n) (nI e) F T U L M = some o10 ∧ RI c n p (o9.1, o9.2.1, o9.2.2.1, o9.2.2.2.1, o9.2.2.2.2.1, va, no, o9.2.2.2.2.2) o10 := by
  have hn := hX.1
  obtain ⟨a1, a2, a3, a4, a5, a6, a7, a8, a9⟩ := id h
  unfold fX8_readRepeat fX10_isRepeat
  obtain ⟨k1, s1, e1, L1, M1, n1, n2, n3, n4⟩ := next_both hX he K S F T U L M
  obtain ⟨t1, t2, t3, _⟩ := id n3
  rw [n1, n2]
  simp only [bd_s]
  have hro : fX7_rounds ro = nI r := a5
  have hp1 : nI r - 1 = nI (r - 1) := pk_sub (b := 1) h1
  have hed : fX7_edgesOf (nI (r - 1)) re ro = some (re (r - 1)) := edgesOf_eq h (by omega)
  rw [hro, hp1, hed]
  by_cases q : k1 = 2 ∧ e1 - s1 = 1
  · obtain ⟨d, d1, d2, d3⟩ := digit9_yes hX n3 q
    have d4 : fX10_isDigit 1 9 (nI k1) (nI (e1 - s1)) M1 = decide (1 ≤ d ∧ d ≤ 9) := by rw [d3]; exact digit10_yes (a := 1) (b := 9) q d1 (by decide) (by decide)
    rw [d2, d4, if_b]
    simp only [bd_s]
    by_cases z1 : 1 ≤ d
    · have z2 : ¬ nI d < (1 : Int32) := nI_nlt (b := 1) z1 (by omega)
      have z3 : (16 : Int32) - nI r = nI (16 - r) := pk_sub (a := 16) a3
      rw [if_neg z2, if_pos (decide_eq_true (show 1 ≤ d ∧ d ≤ 9 by omega)), z3, a7, d3, nI_add]
      by_cases z4 : r + d ≤ 16
      · rw [if_pos (nI_le (show d ≤ 16 - r by omega) (by omega)), if_pos (show nI (r + d) ≤ (16 : Int32) from nI_le (b := 16) z4 (by decide)), a5]
        exact repeat_loop hX (m := d) (E := 0) t2 (by omega) (a8 (r - 1) (by omega)).2 (by omega) _ _ _ _ _ _ _ fuel 0 r re t (a5 ▸ h) h1 rfl (Nat.zero_le _) (by have : fuel = 200 := rfl; omega) (by omega)
      · rw [if_neg (nI_ge (show 16 - r < d by omega) (by omega)), if_neg (show ¬ nI (r + d) ≤ (16 : Int32) from nI_ge (a := 16) (by omega) (by omega))]
        rw [← d3]
        exact ⟨_, _, rfl, rfl, RI_bad n3 _ _ _ _ _⟩
    · rw [if_pos (show nI d < (1 : Int32) from nI_lt (b := 1) (by omega) (by decide)), if_neg (fun w => z1 (of_decide_eq_true w).1)]
      exact ⟨_, _, rfl, rfl, RI_bad n3 _ _ _ _ _⟩
  · obtain ⟨g1, g2⟩ := digit9_no (cs := cs) n3 hn q
    rw [g1, g2, if_pos b2i_f]
    simp only [bd_s]
    rw [if_pos (show (-1 : Int32) < 1 by decide)]
    exact ⟨_, _, rfl, rfl, RI_bad n3 _ _ _ _ _⟩
theorem star_item (hX : TX c n cs tx) (h : SRn N r re va no ro t) (hr : r < 16) {p e : Nat} (he : e ≤ n) (hp : p ≤ e) (K S F T U : Int32) (L : Int64) (M : Int32) : ∃ o9 o10, fX8_readStar cs (nI n) K S (nI e) re no ro = some o9 ∧ ((fX10_reads tx (nI n) (nI e) F T U L M).bind (fun o12 => if (b2i (fX10_isDigit 0 ((t 0) - 1) o12.2.2.1 o12.2.2.2.1 o12.2.2.2.2.2)) = 0 then (some (false, t, o12.1, o12.2.1, o12.2.2.1, o12.2.2.2.1, o12.2.2.2.2.1, o12.2.2.2.2.2)) else ((fX10_star o12.2.2.2.2.2 t).bind (fun o14 => (fX10_adds o14 t).bind (fun o15 => (fX10_reads tx (nI n) o12.1 o12.2.1 o12.2.2.1 o12.2.2.2.1 o12.2.2.2.2.1 o12.2.2.2.2.2).bind (fun o16 => if o16.2.2.1 = 3 then (some (true, o15, o16.1, o16.2.1, o16.2.2.1, o16.2.2.2.1, o16.2.2.2.2.1, o16.2.2.2.2.2)) else (some (false, o15, o16.1, o16.2.1, o16.2.2.1, o16.2.2.2.1, o16.2.2.2.2.1, o16.2.2.2.2.2)))))))) = some o10 ∧ RI c n p (o9.1, o9.2.1, o9.2.2.1, o9.2.2.2.1, o9.2.2.2.2.1, va, no, o9.2.2.2.2.2) o10 := by
  have hn := hX.1
  obtain ⟨a1, a2, a3, a4, a5, a6, a7, a8, a9⟩ := id h
  unfold fX8_readStar
  obtain ⟨k1, s1, e1, L1, M1, n1, n2, n3, n4⟩ := next_both hX he K S F T U L M
  obtain ⟨t1, t2, t3, _⟩ := id n3
  rw [n1, n2]
  simp only [bd_s]
  have hno : fX7_nodes no = nI N := a4
  have hN1 : t 0 - 1 = nI (N - 1) := by rw [a6]; exact pk_sub (b := 1) (by omega)
  rw [hN1, hno]
  by_cases q : k1 = 2 ∧ e1 - s1 = 1
  · obtain ⟨d, d1, d2, d3⟩ := digit9_yes hX n3 q
    have d4 : fX10_isDigit 0 (nI (N - 1)) (nI k1) (nI (e1 - s1)) M1 = decide (0 ≤ d ∧ d ≤ N - 1) := by rw [d3]; exact digit10_yes (a := 0) (b := N - 1) q d1 (by decide) (by omega)
    rw [d2, d4, if_b]
    simp only [bd_s]
    rw [hasNode_eq h, if_b]
    by_cases z : d < N
    · obtain ⟨o, o1, o2, o3⟩ := star_both h (c := d) (by omega)
      obtain ⟨k2, s2, e2, L2, M2, m1, m2, m3, m4⟩ := next_both hX t2 (nI k1) (nI s1) (nI s1) (nI k1) (nI (e1 - s1)) L1 M1
      rw [if_pos (ndx_t z (by omega)), if_pos (decide_eq_true (show 0 ≤ d ∧ d ≤ N - 1 by omega)), o2, m1, m2, d3, o3]
      simp only [bd_s]
      rw [a5, append_eq _ hr, adds_eq h hr]
      simp only [bd_s]
      have hS : SR (upd re r o) va no (nI (r + 1)) (upd (upd t (2 + r) o) 1 (nI (r + 1))) := ⟨N, r + 1, h.add hr o1⟩
      obtain ⟨o10, u1, u2⟩ := RI_fin hS m3 (p := p) (by omega)
      exact ⟨_, o10, rfl, u1, u2⟩
    · have z2 : ¬ ndx N (nI d) = true := fun w => by
        obtain ⟨j, hj, ej⟩ := ndx_of w (by omega)
        have := (nI_eq (by omega) (by omega)).mp ej
        omega
      rw [if_neg z2, if_neg (fun w => z (by have := of_decide_eq_true w; omega))]
      exact ⟨_, _, rfl, rfl, RI_bad n3 _ _ _ _ _⟩
  · obtain ⟨g1, g2⟩ := digit9_no (cs := cs) n3 hn q
    rw [g1, g2, if_pos b2i_f]
    simp only [bd_s]
    have z2 : fX7_hasNode (-1) no = false := rfl
    rw [z2, if_pos b2i_f]
    exact ⟨_, _, rfl, rfl, RI_bad n3 _ _ _ _ _⟩
theorem nodes_item (hX : TX c n cs tx) (h : SRn N r re va no ro t) {p e : Nat} (he : e ≤ n) (hp : p ≤ e) (K S F T U : Int32) (L : Int64) (M : Int32) : ∃ o9 o10, fX8_readNodes cs (nI n) K S (nI e) va no ro = some o9 ∧ ((fX10_reads tx (nI n) (nI e) F T U L M).bind (fun o23 => if (b2i (fX10_isDigit 2 8 o23.2.2.1 o23.2.2.2.1 o23.2.2.2.2.2)) = 0 then (some (false, t, o23.1, o23.2.1, o23.2.2.1, o23.2.2.2.1, o23.2.2.2.2.1, o23.2.2.2.2.2)) else ((fX10_begins o23.2.2.2.2.2 t).bind (fun o25 => (fX10_reads tx (nI n) o23.1 o23.2.1 o23.2.2.1 o23.2.2.2.1 o23.2.2.2.2.1 o23.2.2.2.2.2).bind (fun o26 => if o26.2.2.1 = 3 then (some (true, o25, o26.1, o26.2.1, o26.2.2.1, o26.2.2.2.1, o26.2.2.2.2.1, o26.2.2.2.2.2)) else (some (false, o25, o26.1, o26.2.1, o26.2.2.1, o26.2.2.2.1, o26.2.2.2.2.1, o26.2.2.2.2.2))))))) = some o10 ∧ RI c n p (o9.1, o9.2.1, o9.2.2.1, o9.2.2.2.1, re, o9.2.2.2.2.1, o9.2.2.2.2.2.1, o9.2.2.2.2.2.2) o10 := by
  have hn := hX.1
  unfold fX8_readNodes
  obtain ⟨k1, s1, e1, L1, M1, n1, n2, n3, n4⟩ := next_both hX he K S F T U L M
  obtain ⟨t1, t2, t3, _⟩ := id n3
  rw [n1, n2]
  simp only [bd_s]
  by_cases q : k1 = 2 ∧ e1 - s1 = 1
  · obtain ⟨d, d1, d2, d3⟩ := digit9_yes hX n3 q
    have d4 : fX10_isDigit 2 8 (nI k1) (nI (e1 - s1)) M1 = decide (2 ≤ d ∧ d ≤ 8) := by rw [d3]; exact digit10_yes (a := 2) (b := 8) q d1 (by decide) (by decide)
    rw [d2, d4, if_b]
    simp only [bd_s]
    by_cases z1 : 2 ≤ d
    · have z2 : ¬ nI d < (2 : Int32) := nI_nlt (b := 2) z1 (by omega)
      rw [if_neg z2]
      by_cases z4 : d ≤ 8
      · obtain ⟨k2, s2, e2, L2, M2, m1, m2, m3, m4⟩ := next_both hX t2 (nI k1) (nI s1) (nI s1) (nI k1) (nI (e1 - s1)) L1 M1
        rw [if_pos (show nI d ≤ (8 : Int32) from nI_le (b := 8) z4 (by decide)), if_pos (decide_eq_true (show 2 ≤ d ∧ d ≤ 8 from ⟨z1, z4⟩)), m1, m2, d3, beginAnew_eq, begins_eq]
        simp only [bd_s]
        obtain ⟨o10, u1, u2⟩ := RI_fin (SR_begin z1 z4 re va t) m3 (p := p) (by omega)
        exact ⟨_, o10, rfl, u1, u2⟩
      · rw [if_neg (show ¬ nI d ≤ (8 : Int32) from nI_ge (a := 8) (by omega) (by omega)), if_neg (fun w => z4 (of_decide_eq_true w).2)]
        exact ⟨_, _, rfl, rfl, RI_bad n3 _ _ _ _ _⟩
    · rw [if_pos (show nI d < (2 : Int32) from nI_lt (b := 2) (by omega) (by decide)), if_neg (fun w => z1 (of_decide_eq_true w).1)]
      exact ⟨_, _, rfl, rfl, RI_bad n3 _ _ _ _ _⟩
  · obtain ⟨g1, g2⟩ := digit9_no (cs := cs) n3 hn q
    rw [g1, g2, if_pos b2i_f]
    simp only [bd_s]
    rw [if_pos (show (-1 : Int32) < 2 by decide)]
    exact ⟨_, _, rfl, rfl, RI_bad n3 _ _ _ _ _⟩
theorem E28_n9 {x : Int32} (h : E28 x) : ¬ x = -9 := fun z => by
  have h1 := h 31 (by decide)
  rw [z] at h1
  exact absurd h1 (by decide)
theorem path_dec : ∀ N, N < 9 → 2 ≤ N → fX2_path (nI N) = fX0_chain (fX6_firstOnes (nI N)) := by decide +kernel
theorem ring_dec : ∀ N, N < 9 → 2 ≤ N → fX2_ring (nI N) = (fX0_chain (fX6_firstOnes (nI N))).bind (fun o => if nI N ≤ 2 then some (o ||| 0) else some (o ||| fX10_pair 0 (nI N - 1))) := by decide +kernel
theorem round_words (h : SRn N r re va no ro t) : ∃ P Q R, E28 P ∧ E28 Q ∧ E28 R ∧ fX2_path (nI N) = some P ∧ fX2_clique (fX6_firstOnes (nI N)) = some Q ∧ fX2_ring (nI N) = some R ∧ ∀ k m L, fX10_roundOf t k m L = some (if fX10_isWord 4 (1852796517 : Int64) k m L = true then 0 else if fX10_isWord 4 (1718971500 : Int64) k m L = true then Q else if fX10_isWord 4 (1885434984 : Int64) k m L = true then P else if fX10_isWord 4 (1919512167 : Int64) k m L = true then R else -9) := by
  obtain ⟨a1, a2, a3, a4, a5, a6, a7, a8, a9⟩ := id h
  have hones : ∀ u, u < 32 → bt (fX6_firstOnes (nI N)) u = true → u < N := fun u hu z => by
    rw [ones_bits N (by omega) u hu] at z
    exact of_decide_eq_true z
  obtain ⟨P, p1, p2, p3⟩ := chain_both h hones
  obtain ⟨Q, q1, q2, q3⟩ := clique_both h hones
  have hr := ring_dec N (by omega) a1
  rw [p2, bd_s] at hr
  have hN1 : nI N - 1 = nI (N - 1) := pk_sub (b := 1) (by omega)
  rw [hN1] at hr
  have e0 : E28 (fX10_pair 0 (nI (N - 1))) := E28_pair (a := 0) (by decide) (by omega) (by omega)
  have hR : ∃ R, E28 R ∧ (if nI N ≤ (2 : Int32) then some (P ||| 0) else some (P ||| fX10_pair 0 (nI (N - 1)))) = some R := by
    by_cases z : nI N ≤ (2 : Int32)
    · rw [if_pos z]; exact ⟨_, p1.or E28_0, rfl⟩
    · rw [if_neg z]; exact ⟨_, p1.or e0, rfl⟩
  obtain ⟨R, r1, r2⟩ := hR
  refine ⟨P, Q, R, p1, q1, r1, by rw [path_dec N (by omega) a1, p2], q2, by rw [hr, r2], fun k m L => ?_⟩
  unfold fX10_roundOf
  rw [all_eq h, p3, bd_s, q3, bd_s, a6, hN1, r2, if_b, if_b, if_b, if_b]
  by_cases w3 : fX10_isWord 4 (1852796517 : Int64) k m L = true
  · rw [if_pos w3, if_pos w3]
  · rw [if_neg w3, if_neg w3]
    by_cases w4 : fX10_isWord 4 (1718971500 : Int64) k m L = true
    · rw [if_pos w4, if_pos w4]
    · rw [if_neg w4, if_neg w4]
      by_cases w5 : fX10_isWord 4 (1885434984 : Int64) k m L = true
      · rw [if_pos w5, if_pos w5]
      · rw [if_neg w5, if_neg w5]
        by_cases w6 : fX10_isWord 4 (1919512167 : Int64) k m L = true
        · rw [if_pos w6, if_pos w6]
        · rw [if_neg w6, if_neg w6]
end IT
