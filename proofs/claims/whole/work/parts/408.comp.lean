/-! ===== components ===== -/
def spn (e : Int32) (N : Nat) : Nat → Int32 → Int32
  | 0, S => S
  | m + 1, S => sp e N (spn e N m S)
theorem itr_spn (e : Int32) (N : Nat) (S : Int32) : ∀ m, itr (fun _ R => sp e N R) 0 m S = spn e N m S
  | 0 => rfl
  | m + 1 => by rw [itr_succ, itr_spn e N S m]; rfl
theorem componentOf_eq {N r : Nat} {re va : Nat → Int32} {no ro : Int32} {t : Nat → Int32} (h : SRn N r re va no ro t) (e : Int32) (a : Nat) : fX10_componentOf e (nI a) t = some (spn e N N (bit a)) := by
  have hN := h.2.1
  have h0 : t 0 = nI N := h.2.2.2.2.2.1
  unfold fX10_componentOf
  have := cdet (fun n i R => fX10_componentOf_l7 e t n R (nI i)) N (fun _ R => sp e N R) some (fun n i R hi => ?_) (fun n R => ?_) fuel 0 (bit a) (Nat.zero_le _) (by have : fuel = 200 := rfl; omega)
  · rw [Nat.sub_zero, itr_spn] at this
    exact this
  · show fX10_componentOf_l7 e t (n + 1) R (nI i) = _
    rw [fX10_componentOf_l7, h0, if_neg (nI_ge hi (by omega)), around_eq h, bd_s, nI_1]
  · show fX10_componentOf_l7 e t (n + 1) R (nI N) = _
    rw [fX10_componentOf_l7, h0, if_pos (nI_le (Nat.le_refl N) (by omega))]
theorem spn_mono (e : Int32) {N : Nat} (hN : N ≤ 8) (S : Int32) (m : Nat) {k : Nat} (hk : k < 32) (h : bt (spn e N m S) k = true) : bt (spn e N (m + 1) S) k = true := (sp_bits e hN _ hk).mpr (Or.inl h)
theorem spn_bound (e : Int32) {N : Nat} (hN : N ≤ 8) {S : Int32} (hS : ∀ k, k < 32 → bt S k = true → k < N) : ∀ (m : Nat) {k : Nat}, k < 32 → bt (spn e N m S) k = true → k < N
  | 0, k, hk, h => hS k hk h
  | m + 1, k, hk, h => by
    rcases (sp_bits e hN _ hk).mp h with q | q
    · exact spn_bound e hN hS m hk q
    · exact q.1
theorem ct_strict {p q : Nat → Bool} {n k : Nat} (hs : ∀ j, j < n → p j = true → q j = true) (hk : k < n) (hp : p k = false) (hq : q k = true) : fb_ct p n + 1 ≤ fb_ct q n := by
  have h1 := fb_ct_upd p true hk
  rw [hp] at h1
  have h2 : fb_ct (fun j => if j = k then true else p j) n ≤ fb_ct q n := fb_ct_sub (fun j hj hpj => by
    by_cases z : j = k
    · subst z; exact hq
    · rw [if_neg z] at hpj; exact hs j hj hpj)
  change fb_ct (fun j => if j = k then true else p j) n + 0 = fb_ct p n + 1 at h1
  omega
theorem ct_bound {p : Nat → Bool} {N n : Nat} (hN : N ≤ n) (h : ∀ k, k < n → p k = true → k < N) : fb_ct p n ≤ N := by
  rw [show n = N + (n - N) by omega, fb_ct_split]
  have h1 : fb_ct (fun k => p (N + k)) (n - N) = 0 := fb_ct_zero.mpr (fun k hk => by
    cases hp : p (N + k)
    · rfl
    · have := h (N + k) (by omega) hp; omega)
  have h2 := fb_ct_le p N
  omega
/-- a chain of sets that grow within N nodes stands still after N - 1 turns -/
theorem spn_still (e : Int32) {N : Nat} (hN : N ≤ 8) {S : Int32} (hS : ∀ k, k < 32 → bt S k = true → k < N) {k0 : Nat} (hk0 : k0 < 8) (hb : bt S k0 = true) : ∃ m, m + 1 ≤ N ∧ spn e N (m + 1) S = spn e N m S := by
  refine Classical.byContradiction fun hx => ?_
  have grow : ∀ m, m ≤ N → m + 1 ≤ fb_ct (bt (spn e N m S)) 8 := by
    intro m
    induction m with
    | zero => intro _; exact fb_ct_pos.mpr ⟨k0, hk0, hb⟩
    | succ m ih =>
      intro hm
      have h1 := ih (by omega)
      have h2 : ¬ spn e N (m + 1) S = spn e N m S := fun q => hx ⟨m, hm, q⟩
      have h3 : ∃ k, k < 32 ∧ bt (spn e N m S) k = false ∧ bt (spn e N (m + 1) S) k = true := by
        refine Classical.byContradiction fun hy => h2 (b_ext fun k hk => ?_)
        cases hp : bt (spn e N m S) k
        · cases hq : bt (spn e N (m + 1) S) k
          · rfl
          · exact absurd ⟨k, hk, hp, hq⟩ hy
        · exact spn_mono e hN S m hk hp
      obtain ⟨k, hk, hp, hq⟩ := h3
      have hkN := spn_bound e hN hS (m + 1) hk hq
      have := ct_strict (p := bt (spn e N m S)) (q := bt (spn e N (m + 1) S)) (n := 8) (fun j hj hpj => spn_mono e hN S m (by omega) hpj) (show k < 8 by omega) hp hq
      omega
  have h1 := grow N (Nat.le_refl N)
  have h2 := ct_bound (p := bt (spn e N N S)) (N := N) (n := 8) hN (fun k hk hp => spn_bound e hN hS N (by omega) hp)
  omega
theorem spn_stay (e : Int32) {N m : Nat} {S : Int32} (h : spn e N (m + 1) S = spn e N m S) : ∀ d, spn e N (m + d) S = spn e N m S
  | 0 => rfl
  | d + 1 => by
    show sp e N (spn e N (m + d) S) = _
    rw [spn_stay e h d]
    exact h
theorem spn_last (e : Int32) {N : Nat} (hN : N ≤ 8) {S : Int32} (hS : ∀ k, k < 32 → bt S k = true → k < N) {k0 : Nat} (hk0 : k0 < 8) (hb : bt S k0 = true) : ∀ d, spn e N (N - 1 + d) S = spn e N (N - 1) S := by
  obtain ⟨m, hm, h⟩ := spn_still e hN hS hk0 hb
  intro d
  have h1 := spn_stay e h (N - 1 + d - m)
  have h2 := spn_stay e h (N - 1 - m)
  rw [show m + (N - 1 + d - m) = N - 1 + d by omega] at h1
  rw [show m + (N - 1 - m) = N - 1 by omega] at h2
  rw [h1, h2]
theorem bit_in {a N : Nat} (ha : a < N) (hN : N ≤ 8) : ∀ k, k < 32 → bt (bit a) k = true → k < N := fun k hk h => by
  rw [bt_bit (by omega) k hk] at h
  have := of_decide_eq_true h
  omega
theorem bit_self {a : Nat} (ha : a < 32) : bt (bit a) a = true := by rw [bt_bit ha a ha]; exact decide_eq_true rfl
theorem component_eq {N a : Nat} (hN : N ≤ 8) (ha : a < N) (e : Int32) : fX2_component e (nI a) (nI N) = some (spn e N (N - 1) (bit a)) := by
  unfold fX2_component
  rw [of_eq]
  have key : ∀ (n len : Nat) (b R : Int32), 1 ≤ len → len ≤ N → N < n + len → R = spn e N (len - 1) (bit a) → ((len = 1 ∧ b = 0) ∨ (2 ≤ len ∧ b = spn e N (len - 2) (bit a))) → fX2_component_l11 e (nI N) n b R (nI len) = some (spn e N (N - 1) (bit a)) := by
    intro n
    induction n with
    | zero => intro len b R _ _ h; omega
    | succ n ih =>
      intro len b R h1 h2 h3 hR hb
      rw [fX2_component_l11]
      by_cases q : len = N
      · subst q
        rw [if_pos (nI_le (Nat.le_refl _) (by omega)), hR]
      · rw [if_neg (nI_ge (a := len) (b := N) (by omega) (by omega))]
        by_cases z : R = b
        · rw [if_pos z]
          rcases hb with ⟨rfl, rfl⟩ | ⟨h4, rfl⟩
          · have h5 : bt R a = bt 0 a := by rw [z]
            rw [hR, b_0] at h5
            have h6 : bt (bit a) a = true := bit_self (by omega)
            have h7 : bt (bit a) a = false := h5
            rw [h6] at h7; cases h7
          · rw [hR] at z
            have h5 : spn e N (len - 2 + 1) (bit a) = spn e N (len - 2) (bit a) := by rw [show len - 2 + 1 = len - 1 by omega]; exact z
            have h6 := spn_stay e h5 (N - 1 - (len - 2))
            rw [show len - 2 + (N - 1 - (len - 2)) = N - 1 by omega] at h6
            rw [hR, z, h6]
        · rw [if_neg z, spread_eq (by omega) hN, bd_s, nI_1]
          refine ih (len + 1) R _ (by omega) (by omega) (by omega) ?_ (Or.inr ⟨by omega, ?_⟩)
          · rw [hR, show len + 1 - 1 = len - 1 + 1 by omega]; rfl
          · rw [hR, show len + 1 - 2 = len - 1 by omega]
  exact key fuel 1 0 (bit a) (by omega) (by omega) (by have : fuel = 200 := rfl; omega) rfl (Or.inl ⟨rfl, rfl⟩)
def conn (e : Int32) (N : Nat) : Bool := decide (spn e N (N - 1) (bit 0) = fX6_firstOnes (nI N))
theorem compN_eq (e : Int32) {N a : Nat} (hN : N ≤ 8) (ha : a < N) : spn e N N (bit a) = spn e N (N - 1) (bit a) := by
  have := spn_last e hN (bit_in ha hN) (k0 := a) (by omega) (bit_self (by omega)) 1
  rw [show N - 1 + 1 = N by omega] at this
  exact this
theorem all_eq {N r : Nat} {re va : Nat → Int32} {no ro : Int32} {t : Nat → Int32} (h : SRn N r re va no ro t) : fX10_all t = fX6_firstOnes (nI N) := by
  unfold fX10_all fX6_firstOnes
  rw [h.2.2.2.2.2.1]
theorem isConnected_eq {N r : Nat} {re va : Nat → Int32} {no ro : Int32} {t : Nat → Int32} (h : SRn N r re va no ro t) (e : Int32) : fX10_isConnected e t = some (conn e N) := by
  have hN := h.2.1
  have hN2 := h.1
  unfold fX10_isConnected conn
  have h0 := componentOf_eq h e 0
  have h1 : fX10_componentOf e (0 : Int32) t = some (spn e N N (bit 0)) := h0
  rw [h1, bd_s, all_eq h, compN_eq e hN (by omega)]
  by_cases q : spn e N (N - 1) (bit 0) = fX6_firstOnes (nI N)
  · rw [if_pos q, decide_eq_true q]
  · rw [if_neg q, decide_eq_false q]
theorem areConnected_eq {N : Nat} (h1 : 1 ≤ N) (hN : N ≤ 8) (e : Int32) : fX2_areConnected e (nI N) = some (conn e N) := by
  unfold fX2_areConnected conn
  have h0 := component_eq (a := 0) hN (by omega) e
  have h2 : fX2_component e (0 : Int32) (nI N) = some (spn e N (N - 1) (bit 0)) := h0
  rw [h2, bd_s]
  by_cases q : spn e N (N - 1) (bit 0) = fX6_firstOnes (nI N)
  · rw [if_pos q, decide_eq_true q]
  · rw [if_neg q, decide_eq_false q]
/-- the component of a node -/
def cm (e : Int32) (N a : Nat) : Int32 := spn e N (N - 1) (bit a)
theorem cm_self (e : Int32) {N a : Nat} (hN : N ≤ 8) (ha : a < N) : bt (cm e N a) a = true := by
  have : ∀ m, bt (spn e N m (bit a)) a = true := by
    intro m
    induction m with
    | zero => exact bit_self (by omega)
    | succ m ih => exact spn_mono e hN _ m (by omega) ih
  exact this _
theorem cm_lt (e : Int32) {N a k : Nat} (hN : N ≤ 8) (ha : a < N) (hk : k < 32) (h : bt (cm e N a) k = true) : k < N := spn_bound e hN (bit_in ha hN) _ hk h
theorem cm_closed (e : Int32) {N a k j : Nat} (hN : N ≤ 8) (ha : a < N) (hk : k < N) (hj : j < N) (hjk : j ≠ k) (hadj : adj e k j) (h : bt (cm e N a) j = true) : bt (cm e N a) k = true := by
  have h1 : bt (sp e N (cm e N a)) k = true := (sp_bits e hN _ (by omega)).mpr (Or.inr ⟨hk, j, hj, hjk, hadj, h⟩)
  have h2 := spn_last e hN (bit_in ha hN) (k0 := a) (by omega) (bit_self (by omega)) 1
  have h3 : sp e N (cm e N a) = cm e N a := h2
  rw [h3] at h1
  exact h1
theorem cm_least (e : Int32) {N a : Nat} (hN : N ≤ 8) (ha : a < N) (T : Nat → Prop) (hT : T a) (hc : ∀ k j, k < N → j < N → j ≠ k → adj e k j → T j → T k) : ∀ {k}, k < 32 → bt (cm e N a) k = true → T k := by
  have : ∀ m {k}, k < 32 → bt (spn e N m (bit a)) k = true → T k := by
    intro m
    induction m with
    | zero =>
      intro k hk h
      have h' : bt (bit a) k = true := h
      rw [bt_bit (by omega) k hk] at h'
      rw [of_decide_eq_true h']; exact hT
    | succ m ih =>
      intro k hk h
      rcases (sp_bits e hN _ hk).mp h with q | ⟨q1, j, q2, q3, q4, q5⟩
      · exact ih hk q
      · exact hc k j q1 q2 q3 q4 (ih (by omega) q5)
  intro k hk h
  exact this _ hk h
theorem cm_trans (e : Int32) {N a b k : Nat} (hN : N ≤ 8) (ha : a < N) (hb : b < N) (hab : bt (cm e N a) b = true) (hk : k < 32) (h : bt (cm e N b) k = true) : bt (cm e N a) k = true :=
  cm_least e hN hb (fun x => bt (cm e N a) x = true) hab (fun k j hk hj hjk hadj hT => cm_closed e hN ha hk hj hjk hadj hT) hk h
theorem cm_symm (e : Int32) {N a b : Nat} (hN : N ≤ 8) (ha : a < N) (hb : b < 32) (h : bt (cm e N a) b = true) : bt (cm e N b) a = true := by
  refine cm_least e hN ha (fun x => x < N → bt (cm e N x) a = true) (fun _ => cm_self e hN ha) (fun k j hk hj hjk hadj hT _ => ?_) hb h (cm_lt e hN ha hb h)
  have h1 : bt (cm e N k) j = true := cm_closed e hN hk hj hk (fun z => hjk z.symm) ((adj_comm (by omega) (by omega) (fun z => hjk z.symm)).mp hadj) (cm_self e hN hk)
  exact cm_trans e hN hk hj h1 (by omega) (hT hj)
/-! ===== the smallest and the greatest of a set ===== -/
theorem lowest_eq (S : Int32) {m : Nat} (hm : m < 32) (hb : bt S m = true) (hl : ∀ k, k < m → bt S k = false) : fX10_lowest S = some (nI m) := by
  unfold fX10_lowest
  have key : ∀ (n i : Nat), i ≤ m → m < n + i → fX10_lowest_l2 S n (nI i) = some (nI m) := by
    intro n
    induction n with
    | zero => intro i h1 h2; omega
    | succ n ih =>
      intro i h1 h2
      rw [fX10_lowest_l2]
      by_cases q : i = m
      · subst q
        rw [if_neg (fun z => by have := (sh1_0 S hm).mp z; rw [hb] at this; cases this)]
      · rw [if_pos ((sh1_0 S (by omega)).mpr (hl i (by omega))), nI_1]
        exact ih (i + 1) (by omega) (by omega)
  exact key fuel 0 (Nat.zero_le _) (by have : fuel = 200 := rfl; omega)
theorem smallest_eq (S : Int32) {m : Nat} (hm : m < 8) (hb : bt S m = true) (hl : ∀ k, k < m → bt S k = false) : fX6_smallest S = some (nI m) := by
  unfold fX6_smallest
  have key : ∀ (n i : Nat), i ≤ m → m < n + i → fX6_smallest_l2 S n (nI i) = some (nI m) := by
    intro n
    induction n with
    | zero => intro i h1 h2; omega
    | succ n ih =>
      intro i h1 h2
      rw [fX6_smallest_l2, has_eq S (by omega), if_b]
      by_cases q : i = m
      · subst q
        rw [if_pos hb, ite_self]
      · rw [if_neg (show ¬ (7 : Int32) ≤ nI i from nI_ge (b := 7) (by omega) (by decide)), if_neg (by rw [hl i (by omega)]; simp), nI_1]
        exact ih (i + 1) (by omega) (by omega)
  exact key fuel 0 (Nat.zero_le _) (by have : fuel = 200 := rfl; omega)
theorem highest_eq (S : Int32) {m : Nat} (hm : m < 8) (hb : bt S m = true) (hl : ∀ k, m < k → k < 8 → bt S k = false) : fX10_highest S = some (nI m) := by
  unfold fX10_highest
  have key : ∀ (n i : Nat), m ≤ i → i < 8 → i - m < n → fX10_highest_l3 S n (nI i) = some (nI m) := by
    intro n
    induction n with
    | zero => intro i h1 h2 h3; omega
    | succ n ih =>
      intro i h1 h2 h3
      rw [fX10_highest_l3]
      by_cases q : i = m
      · subst q
        rw [if_neg (fun z => by have := (sh1_0 S (by omega)).mp z; rw [hb] at this; cases this)]
      · rw [if_pos ((sh1_0 S (by omega)).mpr (hl i (by omega) h2))]
        obtain ⟨j, rfl⟩ : ∃ j, i = j + 1 := ⟨i - 1, by omega⟩
        have e : nI (j + 1) + (-1) = nI j := pk_m1 j
        rw [e]
        exact ih j (by omega) (by omega) (by omega)
  exact key fuel 7 (by omega) (by omega) (by have : fuel = 200 := rfl; omega)
theorem greatest_eq (S : Int32) {m : Nat} (hm : m < 8) (hb : bt S m = true) (hl : ∀ k, m < k → k < 8 → bt S k = false) : fX6_greatest S = some (nI m) := by
  unfold fX6_greatest
  have key : ∀ (n i : Nat), m ≤ i → i < 8 → i - m < n → fX6_greatest_l3 S n (nI i) = some (nI m) := by
    intro n
    induction n with
    | zero => intro i h1 h2 h3; omega
    | succ n ih =>
      intro i h1 h2 h3
      rw [fX6_greatest_l3, has_eq S (by omega), if_b]
      by_cases q : i = m
      · subst q
        rw [if_pos hb, ite_self]
      · obtain ⟨j, rfl⟩ : ∃ j, i = j + 1 := ⟨i - 1, by omega⟩
        have e : nI (j + 1) + (-1) = nI j := pk_m1 j
        rw [if_neg (nI_nle (by omega) (by omega)), if_neg (by rw [hl (j + 1) (by omega) h2]; simp), e]
        exact ih j (by omega) (by omega) (by omega)
  exact key fuel 7 (by omega) (by omega) (by have : fuel = 200 := rfl; omega)
