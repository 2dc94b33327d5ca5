/-! ===== load ===== -/
section LO
variable {c : Nat → Nat} {n : Nat} {cs tx : Nat → Int32} {re va : Nat → Int32} {no ro : Int32} {t : Nat → Int32}
theorem item_both (hX : TX c n cs tx) (hS : SR re va no ro t) {k s e : Nat} {L : Int64} {M : Int32} (hT : TK c n k s e L M) (hk : k ≠ 0) (first : Bool) : ∃ o9 o10, fX8_readItem (b2i first) cs (nI n) (nI k) (nI s) (nI e) re va no ro = some o9 ∧ fX10_isItem (b2i first) t tx (nI n) (nI e) (nI s) (nI k) (nI (e - s)) L M = some o10 ∧ RI c n e o9 o10 := by
  have hn := hX.1
  obtain ⟨N, r, h⟩ := id hS
  obtain ⟨a1, a2, a3, a4, a5, a6, a7, a8, a9⟩ := id h
  obtain ⟨t1, t2, t3, t4, _⟩ := id hT
  have w0 : fX10_isWord 5 (474315253107 : Int64) (nI k) (nI (e - s)) L = wd c k s e 0 := isWord10_eq hX hT (by decide) rfl rfl
  have w1 : fX10_isWord 6 (125780002955636 : Int64) (nI k) (nI (e - s)) L = wd c k s e 1 := isWord10_eq hX hT (by decide) rfl rfl
  have w2 : fX10_isWord 4 (1937006962 : Int64) (nI k) (nI (e - s)) L = wd c k s e 2 := isWord10_eq hX hT (by decide) rfl rfl
  have w3 : fX10_isWord 4 (1852796517 : Int64) (nI k) (nI (e - s)) L = wd c k s e 3 := isWord10_eq hX hT (by decide) rfl rfl
  have w4 : fX10_isWord 4 (1718971500 : Int64) (nI k) (nI (e - s)) L = wd c k s e 4 := isWord10_eq hX hT (by decide) rfl rfl
  have w5 : fX10_isWord 4 (1885434984 : Int64) (nI k) (nI (e - s)) L = wd c k s e 5 := isWord10_eq hX hT (by decide) rfl rfl
  have w6 : fX10_isWord 4 (1919512167 : Int64) (nI k) (nI (e - s)) L = wd c k s e 6 := isWord10_eq hX hT (by decide) rfl rfl
  obtain ⟨P, Q, R, p1, p2, p3, p4, p5, p6, p7⟩ := round_words h
  have hro := p7 (nI k) (nI (e - s)) L
  rw [w3, w4, w5, w6] at hro
  have hno : fX7_nodes no = nI N := a4
  have hrr : fX7_rounds ro = nI r := a5
  -- what the reference does with an item that is no word, and no round that is full
  have bad : wd c k s e 1 = false → wd c k s e 2 = false → wd c k s e 3 = false → wd c k s e 4 = false → wd c k s e 5 = false → wd c k s e 6 = false → fX10_isEdge t (nI k) (nI (e - s)) M = false → fX10_isItem_b57 t tx (nI n) (nI e) (nI s) (nI k) (nI (e - s)) L M = some (false, t, nI e, nI s, nI k, nI (e - s), L, M) := by
    intro z1 z2 z3 z4 z5 z6 z7
    unfold fX10_isItem_b57
    rw [z3, z4, z5, z6, if_neg (by simp), if_neg (by simp), if_neg (by simp), if_neg (by simp)] at hro
    rw [w1, z1, if_pos b2i_f, w2, z2, if_pos b2i_f, hro, bd_s, if_pos rfl, z7, if_pos b2i_f, ite_self]
  -- the reference, where the word isn't "nodes"
  have notNodes : wd c k s e 0 = false → fX10_isItem (b2i first) t tx (nI n) (nI e) (nI s) (nI k) (nI (e - s)) L M = fX10_isItem_b57 t tx (nI n) (nI e) (nI s) (nI k) (nI (e - s)) L M := by
    intro z
    unfold fX10_isItem
    rw [w0, z, if_pos b2i_f, ite_self]
  unfold fX8_readItem
  rw [isWord9_eq hX hT (i := 0) (by decide), isWord9_eq hX hT (i := 1) (by decide), isWord9_eq hX hT (i := 2) (by decide), bd_s, bd_s, bd_s]
  by_cases q2 : k = 2
  · have f0 : ∀ i, wd c k s e i = false := fun i => wd_no (fun z => by omega)
    rw [if_pos (show nI k = (2 : Int32) by rw [q2]; rfl), notNodes (f0 0)]
    unfold fX8_readEdges
    rw [a5, isFull_eq a3, if_b]
    by_cases z : r = 16
    · rw [if_pos (decide_eq_true z), bd_s]
      unfold fX10_isItem_b57
      rw [w1, f0 1, if_pos b2i_f, a7, if_pos ((full_eq a3).mpr z)]
      exact ⟨_, _, rfl, rfl, RI_bad hT _ _ _ _ _⟩
    · rw [if_neg (show ¬ decide (r = 16) = true from fun w => z (of_decide_eq_true w))]
      rcases edge_both hX h hT q2 with ⟨g1, g2⟩ | ⟨x, y, x1, x2, x3, g1, g2, g3, g4, g5, g6⟩
      · rw [bad (f0 1) (f0 2) (f0 3) (f0 4) (f0 5) (f0 6) g2]
        have ef : fX8_readEdges_l13 cs (nI n) re no (nI r) fuel 0 0 (nI k) (nI s) (nI e) = some (false, nI k, nI s, nI e, re, nI r) := by
          show fX8_readEdges_l13 cs (nI n) re no (nI r) (199 + 1) 0 0 (nI k) (nI s) (nI e) = _
          rw [fX8_readEdges_l13, if_neg (show ¬ (120 : Int32) ≤ 0 by decide), if_pos (show nI k = (2 : Int32) by rw [q2]; rfl), g1, bd_s, if_pos b2i_f]
        rw [ef, bd_s]
        exact ⟨_, _, rfl, rfl, RI_bad hT _ _ _ _ _⟩
      · obtain ⟨o9, o10, l1, l2, l3⟩ := edges_loop hX h (by omega) (p := e) fuel 0 k s e L M 0 hT E28_0 (Nat.zero_le _) (by have : fuel = 200 := rfl; omega) (Nat.le_refl e) (Or.inl q2)
        change fX8_readEdges_l13 cs (nI n) re no ro fuel 0 0 (nI k) (nI s) (nI e) = some o9 at l1
        rw [a5] at l1
        rw [l1, bd_s]
        unfold fX10_isItem_b57 fX10_areEdges
        rw [f0 3, f0 4, f0 5, f0 6, if_neg (by simp), if_neg (by simp), if_neg (by simp), if_neg (by simp)] at hro
        rw [w1, f0 1, if_pos b2i_f, a7, if_neg (fun w => z ((full_eq a3).mp w)), w2, f0 2, if_pos b2i_f, hro, bd_s, if_pos rfl, g2, if_neg (show ¬ b2i true = 0 by decide), l2, bd_s, rewrap]
        exact ⟨_, _, rfl, rfl, l3⟩
  · have ne := edge10_no (t := t) t3 q2 (nI (e - s)) M
    rw [if_neg (show ¬ nI k = (2 : Int32) from fun z => q2 ((nI_eq (b := 2) (by omega) (by decide)).mp z))]
    by_cases z0 : wd c k s e 0 = true
    · have hl := (wd_k z0).2
      have hl5 : e - s = 5 := hl
      have g : ∀ i, ¬ lenS.getD i 0 = 5 → wd c k s e i = false := fun i hi => wd_no (fun z => hi (by rw [← z.2]; exact hl5))
      rw [z0, if_neg (show ¬ b2i true = 0 by decide)]
      cases first
      · rw [if_pos b2i_f]
        unfold fX10_isItem
        rw [if_pos b2i_f, bad (g 1 (by decide)) (g 2 (by decide)) (g 3 (by decide)) (g 4 (by decide)) (g 5 (by decide)) (g 6 (by decide)) ne]
        exact ⟨_, _, rfl, rfl, RI_bad hT _ _ _ _ _⟩
      · rw [if_neg (show ¬ b2i true = 0 by decide)]
        unfold fX10_isItem
        rw [if_neg (show ¬ b2i true = 0 by decide), w0, z0, if_neg (show ¬ b2i true = 0 by decide)]
        obtain ⟨o9, o10, l1, l2, l3⟩ := nodes_item hX h (p := e) t2 (Nat.le_refl e) (nI k) (nI s) (nI s) (nI k) (nI (e - s)) L M
        rw [l1, bd_s, l2, rewrap]
        exact ⟨_, _, rfl, rfl, l3⟩
    · have z0' := ts_nt' z0
      rw [z0', if_pos b2i_f, notNodes z0']
      by_cases z1 : wd c k s e 1 = true
      · rw [z1, if_neg (show ¬ b2i true = 0 by decide), hrr]
        unfold fX10_isItem_b57
        rw [w1, z1, if_neg (show ¬ b2i true = 0 by decide), a7]
        by_cases y : r = 0
        · have y' : nI r ≤ 0 := by rw [y]; decide
          rw [if_pos y', if_pos y']
          exact ⟨_, _, rfl, rfl, RI_bad hT _ _ _ _ _⟩
        · have y' : ¬ nI r ≤ 0 := nI_nle (by omega) (by omega)
          rw [if_neg y', if_neg y']
          obtain ⟨o9, o10, l1, l2, l3⟩ := repeat_both hX h (by omega) (p := e) t2 (Nat.le_refl e) (nI k) (nI s) (nI s) (nI k) (nI (e - s)) L M
          rw [l1, bd_s, l2, bd_s, rewrap, rewrap]
          exact ⟨_, _, rfl, rfl, l3⟩
      · have z1' := ts_nt' z1
        rw [z1', if_pos b2i_f, a5, isFull_eq a3, if_b]
        by_cases y : r = 16
        · rw [if_pos (decide_eq_true y)]
          unfold fX10_isItem_b57
          rw [w1, z1', if_pos b2i_f, a7, if_pos ((full_eq a3).mpr y)]
          exact ⟨_, _, rfl, rfl, RI_bad hT _ _ _ _ _⟩
        · rw [if_neg (show ¬ decide (r = 16) = true from fun w => y (of_decide_eq_true w))]
          have y' : ¬ nI r = (16 : Int32) := fun w => y ((full_eq a3).mp w)
          have h' : SRn N r re va no (nI r) t := a5 ▸ h
          by_cases z2 : wd c k s e 2 = true
          · rw [z2, if_neg (show ¬ b2i true = 0 by decide)]
            unfold fX10_isItem_b57
            rw [w1, z1', if_pos b2i_f, a7, if_neg y', w2, z2, if_neg (show ¬ b2i true = 0 by decide)]
            obtain ⟨o9, o10, l1, l2, l3⟩ := star_item hX h' (by omega) (p := e) t2 (Nat.le_refl e) (nI k) (nI s) (nI s) (nI k) (nI (e - s)) L M
            rw [l1, bd_s, l2]
            exact ⟨_, _, rfl, rfl, l3⟩
          · have z2' := ts_nt' z2
            rw [z2', if_pos b2i_f]
            unfold fX8_readPlainRound
            rw [isWord9_eq hX hT (i := 3) (by decide), isWord9_eq hX hT (i := 4) (by decide), isWord9_eq hX hT (i := 5) (by decide), isWord9_eq hX hT (i := 6) (by decide), bd_s, bd_s, bd_s, bd_s, hno, p4, p5, p6, bd_s, bd_s, bd_s]
            -- a round that a word tells
            have good : ∀ E, E28 E → fX10_roundOf t (nI k) (nI (e - s)) L = some E → ∃ o9 o10, (((fX7_append E re (nI r)).bind (fun o => fX8_readPlainRound_b87 cs (nI n) (nI k) (nI s) (nI e) o.1 o.2)).bind (fun o9 => some (o9.1, o9.2.1, o9.2.2.1, o9.2.2.2.1, o9.2.2.2.2.1, va, no, o9.2.2.2.2.2))) = some o9 ∧ fX10_isItem_b57 t tx (nI n) (nI e) (nI s) (nI k) (nI (e - s)) L M = some o10 ∧ RI c n e o9 o10 := by
              intro E hE hR
              obtain ⟨o9, o10, l1, l2, l3⟩ := plain_fin hX h' (by omega) hE (p := e) t2 (Nat.le_refl e) (nI k) (nI s) (nI s) (nI k) (nI (e - s)) L M
              unfold fX10_isItem_b57
              rw [l1, bd_s, w1, z1', if_pos b2i_f, a7, if_neg y', w2, z2', if_pos b2i_f, hR, bd_s, if_neg (E28_n9 hE), l2]
              exact ⟨_, _, rfl, rfl, l3⟩
            by_cases z3 : wd c k s e 3 = true
            · rw [z3, if_pos rfl] at hro
              rw [z3, if_neg (show ¬ b2i true = 0 by decide)]
              exact good 0 E28_0 hro
            · have z3' := ts_nt' z3
              rw [z3', if_neg (by simp)] at hro
              rw [z3', if_pos b2i_f]
              by_cases z4 : wd c k s e 4 = true
              · rw [z4, if_pos rfl] at hro
                rw [z4, if_neg (show ¬ b2i true = 0 by decide)]
                exact good Q p2 hro
              · have z4' := ts_nt' z4
                rw [z4', if_neg (by simp)] at hro
                rw [z4', if_pos b2i_f]
                by_cases z5 : wd c k s e 5 = true
                · rw [z5, if_pos rfl] at hro
                  rw [z5, if_neg (show ¬ b2i true = 0 by decide)]
                  exact good P p1 hro
                · have z5' := ts_nt' z5
                  rw [z5', if_neg (by simp)] at hro
                  rw [z5', if_pos b2i_f]
                  by_cases z6 : wd c k s e 6 = true
                  · rw [z6, if_pos rfl] at hro
                    rw [z6, if_neg (show ¬ b2i true = 0 by decide)]
                    exact good R p3 hro
                  · have z6' := ts_nt' z6
                    rw [z6', if_pos b2i_f, bd_s]
                    have hb : fX10_isItem_b57 t tx (nI n) (nI e) (nI s) (nI k) (nI (e - s)) L M = some (false, t, nI e, nI s, nI k, nI (e - s), L, M) := by
                      unfold fX10_isItem_b57
                      rw [z6', if_neg (by simp)] at hro
                      rw [w1, z1', if_pos b2i_f, w2, z2', if_pos b2i_f, hro, bd_s, if_pos rfl, ne, if_pos b2i_f, ite_self]
                    rw [hb]
                    exact ⟨_, _, rfl, rfl, RI_bad hT _ _ _ _ _⟩
/-- the whole text: both read it, or both refuse it at the same place -/
theorem items_both (hX : TX c n cs tx) (P A : Nat → Int32) (p : Int32) : ∀ (f i k s e : Nat) (L : Int64) (M : Int32) (re va : Nat → Int32) (no ro : Int32) (t : Nat → Int32), SR re va no ro t → TK c n k s e L M → i ≤ s → 120 < f + i →
    (∃ s' o9 o10 t', s' ≤ n ∧ fX8_readInto_l16 cs (nI n) f (nI i) (nI k) (nI s) (nI e) re va no ro = some o9 ∧ o9.1 = nI s' ∧ fX10_load_l20 P A p tx (nI n) f (if i = 0 then 1 else 0) t (nI e) (nI s) (nI k) (nI (e - s)) L M = some o10 ∧ o10.1 = -10 - nI s' ∧ o10.2.1 = fb_put t' A 0 26 ∧ o10.2.2.1 = P ∧ o10.2.2.2.1 = A ∧ o10.2.2.2.2.1 = p ∧ o10.2.2.2.2.2.1 = nI n) ∨
    (∃ o9 t' b1 b2 b3 b4 b5 b6, fX8_readInto_l16 cs (nI n) f (nI i) (nI k) (nI s) (nI e) re va no ro = some o9 ∧ o9.1 = -1 ∧ SR o9.2.2.2.2.1 o9.2.2.2.2.2.1 o9.2.2.2.2.2.2.1 o9.2.2.2.2.2.2.2 t' ∧ fX10_load_l20 P A p tx (nI n) f (if i = 0 then 1 else 0) t (nI e) (nI s) (nI k) (nI (e - s)) L M = (fX10_ends (t' 1) P A p).bind (fun o2 => some (o2.1, t', o2.2.1, A, o2.2.2, 0, b1, b2, b3, b4, b5, b6))) := by
  have hn := hX.1
  intro f
  induction f with
  | zero => intro i k s e L M re va no ro t _ hT h1 h2; have := hT.1; have := hT.2.1; omega
  | succ f ih =>
    intro i k s e L M re va no ro t hS hT hi hf
    obtain ⟨t1, t2, t3, t4, _⟩ := id hT
    rw [fX8_readInto_l16, fX10_load_l20]
    by_cases q : k = 0
    · have q' : nI k = (0 : Int32) := by rw [q]; rfl
      rw [if_pos q', if_pos q', ite_self]
      exact Or.inr ⟨_, t, _, _, _, _, _, _, rfl, rfl, hS, rfl⟩
    · have := t4 q
      have q' : ¬ nI k = (0 : Int32) := nI_ne0 (by omega) (by omega)
      rw [if_neg q', if_neg (show ¬ (120 : Int32) ≤ nI i from nI_ge (b := 120) (by omega) (by decide)), if_neg q']
      have hfirst : (if i = 0 then (1 : Int32) else 0) = b2i (decide (i = 0)) := by
        by_cases z : i = 0
        · rw [if_pos z, decide_eq_true z]; rfl
        · rw [if_neg z, decide_eq_false z]; rfl
      have hcl : ∀ (X Y : Option (Int32 × Int32 × Int32 × Int32 × (Nat → Int32) × (Nat → Int32) × Int32 × Int32)), (if nI i = (0 : Int32) then X else Y) = if decide (i = 0) = true then X else Y := fun X Y => by
        by_cases z : i = 0
        · rw [if_pos (show nI i = (0 : Int32) by rw [z]; rfl), if_pos (decide_eq_true z)]
        · rw [if_neg (show ¬ nI i = (0 : Int32) from nI_ne0 (by omega) (by omega)), if_neg (fun w => z (of_decide_eq_true w))]
      obtain ⟨o9, o10, l1, l2, l3⟩ := item_both hX hS hT q (decide (i = 0))
      have hb : (if nI i = (0 : Int32) then (fX8_readInto_b40 (fX8_readInto_l16 cs (nI n) f) (nI i) 1 cs (nI n) (nI k) (nI s) (nI e) re va no ro) else (fX8_readInto_b40 (fX8_readInto_l16 cs (nI n) f) (nI i) 0 cs (nI n) (nI k) (nI s) (nI e) re va no ro)) = fX8_readInto_b40 (fX8_readInto_l16 cs (nI n) f) (nI i) (b2i (decide (i = 0))) cs (nI n) (nI k) (nI s) (nI e) re va no ro := by
        rw [hcl]
        cases decide (i = 0) <;> rfl
      rw [hb, hfirst, l2, bd_s]
      unfold fX8_readInto_b40
      rw [l1, bd_s]
      rcases l3 with ⟨r1, r2, r3, r4, e', r5, r6, r7, r8⟩ | ⟨r1, r2, r3, s', r4, r5⟩
      · obtain ⟨k1, s1, e1, L1, M1, n1, n2, n3, n4⟩ := next_both hX r6 o9.2.1 o9.2.2.1 o10.2.2.2.1 o10.2.2.2.2.1 o10.2.2.2.2.2.1 o10.2.2.2.2.2.2.1 o10.2.2.2.2.2.2.2
        rw [r1, r2, if_neg (show ¬ b2i true = 0 by decide), if_neg (show ¬ b2i true = 0 by decide), if_pos r3, r7, r8, n1, n2, bd_s, bd_s, nI_1]
        have := ih (i + 1) k1 s1 e1 L1 M1 o9.2.2.2.2.1 o9.2.2.2.2.2.1 o9.2.2.2.2.2.2.1 o9.2.2.2.2.2.2.2 o10.2.1 r4 n3 (by omega) (by omega)
        rw [if_neg (show ¬ i + 1 = 0 by omega)] at this
        exact this
      · have e1 : (if b2i o9.1 = 0 then some (o9.2.2.1, o9.2.1, o9.2.2.1, o9.2.2.2.1, o9.2.2.2.2.1, o9.2.2.2.2.2.1, o9.2.2.2.2.2.2.1, o9.2.2.2.2.2.2.2) else if o9.2.1 = 3 then ((fX8_nextToken cs (nI n) o9.2.1 o9.2.2.1 o9.2.2.2.1).bind (fun o4 => fX8_readInto_l16 cs (nI n) f (nI i + 1) o4.1 o4.2.1 o4.2.2 o9.2.2.2.2.1 o9.2.2.2.2.2.1 o9.2.2.2.2.2.2.1 o9.2.2.2.2.2.2.2)) else some (o9.2.2.1, o9.2.1, o9.2.2.1, o9.2.2.2.1, o9.2.2.2.2.1, o9.2.2.2.2.2.1, o9.2.2.2.2.2.2.1, o9.2.2.2.2.2.2.2)) = some (o9.2.2.1, o9.2.1, o9.2.2.1, o9.2.2.2.1, o9.2.2.2.2.1, o9.2.2.2.2.2.1, o9.2.2.2.2.2.2.1, o9.2.2.2.2.2.2.2) := by
          rcases r1 with r1 | r1
          · rw [r1, if_pos b2i_f]
          · rw [if_neg r1, ite_self]
        rw [e1, r2, if_pos b2i_f, restore_eq, bd_s]
        refine Or.inl ⟨s', _, _, o10.2.1, r4, rfl, r5, rfl, ?_, rfl, rfl, rfl, rfl, rfl⟩
        rw [r3, r5]
end LO
section LOS
variable {sre sva : Nat → Int32} {sno sro : Int32} {t : Nat → Int32} {size : Int32} {b e v : Nat → Nat} {re va : Nat → Nat → Int32} {no ro : Nat → Int32} {P : Nat → Int32} {p : Int32}
theorem TX_of {cs tx : Nat → Int32} {len ty : Int32} (hT : TR cs len tx ty) : ∃ c n, TX c n cs tx ∧ len = nI n ∧ ty = nI n := by
  obtain ⟨n, hn, h1, h2, h⟩ := hT
  refine ⟨fun i => (tx i).toNatClampNeg, n, ⟨hn, fun i hi => ?_⟩, h1, h2⟩
  obtain ⟨g1, x, g2, g3⟩ := h i hi
  dsimp only
  rw [g1, g3, nI_clamp (by omega)]
  exact ⟨g2, rfl, rfl⟩
theorem sim_load (hS : SR sre sva sno sro t) (hH : HR size re va no ro P p) {cs tx : Nat → Int32} {len ty : Int32} (hT : TR cs len tx ty) (a : Nat → Int32) (dre dva : Nat → Int32) (dno dro xk xs xe at' fr tk mn : Int32) (lt : Int64) (nm : Int32) :
    ∃ o9 o10, fX9_load sre sva sno sro dre dva dno dro size b e v re va no ro cs len xk xs xe = some o9 ∧ fX10_load t P a p tx ty at' fr tk mn lt nm = some o10 ∧ o9.1 = o10.1 ∧ SR o9.2.1 o9.2.2.1 o9.2.2.2.1 o9.2.2.2.2.1 o10.2.1 ∧ HR o9.2.2.2.2.2.2.2.2.2.1 o9.2.2.2.2.2.2.2.2.2.2.2.2.2.1 o9.2.2.2.2.2.2.2.2.2.2.2.2.2.2.1 o9.2.2.2.2.2.2.2.2.2.2.2.2.2.2.2.1 o9.2.2.2.2.2.2.2.2.2.2.2.2.2.2.2.2.1 o10.2.2.1 o10.2.2.2.2.1 ∧ TR cs o9.2.2.2.2.2.2.2.2.2.2.2.2.2.2.2.2.2.1 tx o10.2.2.2.2.2.1 := by
  obtain ⟨c, n, hX, rfl, rfl⟩ := TX_of hT
  have hn := hX.1
  unfold fX9_load fX8_readInto fX10_load
  have hb : fX7_beginAnew 4 dva dno dro = some (fb_put dva nI 0 8, nI 4, 0) := beginAnew_eq _ _ _ _
  have hb2 : fX10_begins 4 t = some (fb_put (upd (upd t 0 (nI 4)) 1 0) nI 18 8) := begins_eq _ _
  obtain ⟨k, s, e1, L, M, n1, n2, n3, n4⟩ := next_both hX (e0 := 0) (Nat.zero_le _) xk xs fr tk mn lt nm
  change fX8_nextToken cs (nI n) xk xs 0 = _ at n1
  change fX10_reads tx (nI n) 0 fr tk mn lt nm = _ at n2
  rw [hb, hb2, hold_eq, bd_s, bd_s, bd_s, n1, n2, bd_s, bd_s]
  dsimp only
  have hS0 : SR dre (fb_put dva nI 0 8) (nI 4) 0 (fb_put (upd (upd t 0 (nI 4)) 1 0) nI 18 8) := SR_begin (by decide) (by decide) _ _ _
  have hcase := items_both hX P (fb_put a t 0 26) p fuel 0 k s e1 L M _ _ _ _ _ hS0 n3 (Nat.zero_le _) (by decide)
  rw [if_pos rfl] at hcase
  rcases hcase with ⟨s', o9, o10, t', c1, c2, c3, c4, c5, c6, c7, c8, c9, c10⟩ | ⟨o9, t', b1, b2, b3, b4, b5, b6, c1, c2, c3, c4⟩
  · change fX8_readInto_l16 cs (nI n) fuel 0 (nI k) (nI s) (nI e1) dre (fb_put dva nI 0 8) (nI 4) 0 = _ at c2
    rw [c2, c4, bd_s, if_neg (by rw [c3]; exact nI_nm1 (by omega))]
    refine ⟨_, _, rfl, rfl, ?_, ?_, ?_, ?_⟩
    · show -10 - o9.1 = o10.1
      rw [c3, c5]
    · show SR sre sva sno sro o10.2.1
      rw [c6]
      exact hS.congr (fun _ _ => rfl) (fun _ _ => rfl) (fun i hi => by
        rw [fb_put_in (Nat.zero_le _) (by omega), Nat.sub_zero]
        exact hold_at t a i hi)
    · show HR size re va no ro o10.2.2.1 o10.2.2.2.2.1
      rw [c7, c9]; exact hH
    · show TR cs (nI n) tx o10.2.2.2.2.2.1
      rw [c10]; exact hT
  · change fX8_readInto_l16 cs (nI n) fuel 0 (nI k) (nI s) (nI e1) dre (fb_put dva nI 0 8) (nI 4) 0 = _ at c1
    obtain ⟨oH, P', p', q1, q2, q3⟩ := save_ends (b := b) (e := e) (v := v) hH hS (hold_at t a) (t' 1)
    rw [c1, c4, bd_s, if_pos c2, q1, bd_s, become_eq, bd_s, q2, bd_s]
    refine ⟨_, _, rfl, rfl, ?_, ?_, q3, ?_⟩
    · obtain ⟨N, r, h⟩ := c3
      show o9.2.2.2.2.2.2.2 = t' 1
      rw [h.2.2.2.2.1, h.2.2.2.2.2.2.1]
    · exact c3.congr (fun i hi => fb_put_in (Nat.zero_le _) (by omega)) (fun i hi => fb_put_in (Nat.zero_le _) (by omega)) (fun _ _ => rfl)
    · exact ⟨0, by omega, rfl, rfl, fun i hi => by omega⟩
end LOS
