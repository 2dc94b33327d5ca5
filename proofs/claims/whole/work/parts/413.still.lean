/-! ===== a flooding stands still after nodes * rounds steps ===== -/
section ST
variable {N r : Nat} {re : Nat → Int32} {f : Nat}
theorem KK_mono (hN : N ≤ 8) {k a u : Nat} (h : bt (KK re r N f k a) u = true) : bt (KK re r N f (k + 1) a) u = true := (kst_bits hN _ _ a).mpr (Or.inl h)
theorem KK_monoD (hN : N ≤ 8) {k a u : Nat} (d : Nat) (h : bt (KK re r N f k a) u = true) : bt (KK re r N f (k + d) a) u = true := by
  induction d with
  | zero => exact h
  | succ d ih => exact KK_mono hN ih
theorem KK_monoL (hN : N ≤ 8) {k m a u : Nat} (hkm : k ≤ m) (h : bt (KK re r N f k a) u = true) : bt (KK re r N f m a) u = true := by
  have := KK_monoD (re := re) (r := r) (f := f) hN (m - k) h
  rw [show k + (m - k) = m by omega] at this
  exact this
theorem eAt_per (s : Nat) : eAt re r (s + r) = eAt re r s := by
  unfold eAt
  by_cases q : r = 0
  · rw [if_pos q, if_pos q]
  · rw [if_neg q, if_neg q, Nat.add_mod_right]
theorem bool_iff {a b : Bool} (h : a = true ↔ b = true) : a = b := by cases a <;> cases b <;> simp_all
theorem kst_tok (hN : N ≤ 8) (e : Int32) {K K' : Nat → Int32} {u : Nat} (h : ∀ a, a < 8 → bt (K a) u = bt (K' a) u) : ∀ a, a < 8 → bt (kst N e K a) u = bt (kst N e K' a) u := by
  intro a ha
  refine bool_iff ?_
  rw [kst_bits hN, kst_bits hN, h a ha]
  constructor
  · rintro (q | ⟨q0, b, q1, q2, q3, q4⟩)
    · exact Or.inl q
    · exact Or.inr ⟨q0, b, q1, q2, q3, by rw [← h b (by omega)]; exact q4⟩
  · rintro (q | ⟨q0, b, q1, q2, q3, q4⟩)
    · exact Or.inl q
    · exact Or.inr ⟨q0, b, q1, q2, q3, by rw [h b (by omega)]; exact q4⟩
theorem KK_per (hN : N ≤ 8) {k u : Nat} (h : ∀ a, a < 8 → bt (KK re r N f (k + r) a) u = bt (KK re r N f k a) u) : ∀ j a, a < 8 → bt (KK re r N f (k + j + r) a) u = bt (KK re r N f (k + j) a) u := by
  intro j
  induction j with
  | zero => exact h
  | succ j ih =>
    intro a ha
    have e1 : k + (j + 1) + r = (k + j + r) + 1 := by omega
    rw [e1]
    show bt (kst N (eAt re r (f + (k + j + r))) (KK re r N f (k + j + r)) a) u = bt (kst N (eAt re r (f + (k + j))) (KK re r N f (k + j)) a) u
    have e2 : f + (k + j + r) = (f + (k + j)) + r := by omega
    rw [e2, eAt_per]
    exact kst_tok hN _ ih a ha
theorem KK_const (hN : N ≤ 8) (hr : 0 < r) {k u : Nat} (h : ∀ a, a < 8 → bt (KK re r N f (k + r) a) u = bt (KK re r N f k a) u) : ∀ j a, a < 8 → bt (KK re r N f (k + j) a) u = bt (KK re r N f k a) u := by
  have hm : ∀ m a, a < 8 → bt (KK re r N f (k + m * r) a) u = bt (KK re r N f k a) u := by
    intro m
    induction m with
    | zero => intro a _; rw [Nat.zero_mul, Nat.add_zero]
    | succ m ih =>
      intro a ha
      have e1 : k + (m + 1) * r = k + m * r + r := by rw [Nat.succ_mul]; omega
      rw [e1, KK_per hN h (m * r) a ha]
      exact ih a ha
  intro j a ha
  refine bool_iff ⟨fun q => ?_, fun q => KK_monoD hN j q⟩
  have h1 : k + j ≤ k + j * r := by
    have := Nat.le_mul_of_pos_right j hr
    omega
  rw [← hm j a ha]
  exact KK_monoL hN h1 q
theorem KK_dom (hN : N ≤ 8) : ∀ k a u, a < 8 → u < 32 → bt (KK re r N f k a) u = true → a = u ∨ (a < N ∧ u < N) := by
  intro k
  induction k with
  | zero =>
    intro a u ha hu h
    have h' : bt (bit a) u = true := h
    rw [bt_bit (by omega) u hu] at h'
    exact Or.inl (of_decide_eq_true h').symm
  | succ k ih =>
    intro a u ha hu h
    rcases (kst_bits hN _ _ a).mp h with q | ⟨q0, b, q1, q2, q3, q4⟩
    · exact ih a u ha hu q
    · rcases ih b u (by omega) hu q4 with z | z
      · exact Or.inr ⟨q0, by omega⟩
      · exact Or.inr ⟨q0, z.2⟩
theorem KK_turn (hN : N ≤ 8) {u : Nat} (hu : u < N) : ∃ m, m < N ∧ ∀ a, a < 8 → bt (KK re r N f (m * r + r) a) u = bt (KK re r N f (m * r) a) u := by
  refine Classical.byContradiction fun hx => ?_
  have grow : ∀ m, m ≤ N → m + 1 ≤ fb_ct (fun a => bt (KK re r N f (m * r) a) u) 8 := by
    intro m
    induction m with
    | zero => intro _; exact fb_ct_pos.mpr ⟨u, by omega, KK_self hN _ (by omega)⟩
    | succ m ih =>
      intro hm
      have h1 := ih (by omega)
      have h3 : ∃ k, k < 8 ∧ bt (KK re r N f (m * r) k) u = false ∧ bt (KK re r N f (m * r + r) k) u = true := by
        refine Classical.byContradiction fun hy => hx ⟨m, hm, fun k hk => ?_⟩
        cases hp : bt (KK re r N f (m * r) k) u
        · cases hq : bt (KK re r N f (m * r + r) k) u
          · rfl
          · exact absurd ⟨k, hk, hp, hq⟩ hy
        · exact KK_monoD hN r hp
      obtain ⟨k, hk, hp, hq⟩ := h3
      rw [Nat.succ_mul]
      have := ct_strict (p := fun a => bt (KK re r N f (m * r) a) u) (q := fun a => bt (KK re r N f (m * r + r) a) u) (n := 8) (fun j hj hpj => KK_monoD hN r hpj) hk hp hq
      omega
  have h1 := grow N (Nat.le_refl N)
  have h2 := ct_bound (p := fun a => bt (KK re r N f (N * r) a) u) (N := N) (n := 8) hN (fun k hk hp => by
    rcases KK_dom hN _ k u hk (by omega) hp with z | z
    · omega
    · exact z.1)
  omega
theorem KK_still (hN : N ≤ 8) {k a : Nat} (hk : N * r ≤ k) (ha : a < 8) : KK re r N f k a = KK re r N f (N * r) a := by
  by_cases q0 : r = 0
  · subst q0
    have : ∀ k, KK re 0 N f k a = KK re 0 N f 0 a := by
      intro k
      induction k with
      | zero => rfl
      | succ k ih =>
        rw [← ih]
        refine bt_ext fun u hu => ?_
        show bt (kst N (eAt re 0 (f + k)) (KK re 0 N f k) a) u = true ↔ _
        rw [kst_bits hN]
        constructor
        · rintro (q | ⟨_, b, _, _, q3, _⟩)
          · exact q
          · unfold adj eAt at q3
            rw [if_pos rfl, b_0] at q3; cases q3
        · exact Or.inl
    rw [Nat.mul_zero]
    exact this k
  · refine bt_ext fun u hu => ?_
    by_cases hu2 : u < N
    · obtain ⟨m, hm, h⟩ := KK_turn (re := re) (r := r) (f := f) hN hu2
      have hc := KK_const hN (by omega) h
      have e0 : m * r ≤ N * r := Nat.mul_le_mul_right r (by omega)
      have h1 := hc (k - m * r) a ha
      have h2 := hc (N * r - m * r) a ha
      rw [show m * r + (k - m * r) = k by omega] at h1
      rw [show m * r + (N * r - m * r) = N * r by omega] at h2
      rw [h1, h2]
    · have h1 : ∀ j, bt (KK re r N f j a) u = true ↔ a = u := fun j => by
        constructor
        · intro q
          rcases KK_dom hN j a u ha hu q with z | z
          · exact z
          · omega
        · intro q
          subst q
          exact KK_self hN j ha
      rw [h1, h1]
end ST
/-! ===== the first step at which something holds ===== -/
def TP (p : Nat → Bool) (M : Nat) (o : Int32) : Prop := (∃ k, k < M ∧ p k = true ∧ (∀ j, j < k → p j = false) ∧ o = nI k) ∨ ((∀ k, k < M → p k = false) ∧ o = -9)
theorem nI_n9 {k : Nat} (h : k < 2 ^ 31) : ¬ nI k = (-9 : Int32) := fun z => by
  have h1 : (nI k).toInt = (-9 : Int32).toInt := by rw [z]
  rw [nI_toInt h] at h1
  have h2 : (-9 : Int32).toInt = -9 := rfl
  omega
theorem TP_one {p : Nat → Bool} {M : Nat} {o o' : Int32} (h : TP p M o) (h' : TP p M o') : o = o' := by
  rcases h with ⟨k, h1, h2, h3, rfl⟩ | ⟨h1, rfl⟩
  · rcases h' with ⟨m, g1, g2, g3, rfl⟩ | ⟨g1, rfl⟩
    · rcases Nat.lt_or_ge k m with z | z
      · have := g3 k z; rw [h2] at this; cases this
      · rcases Nat.lt_or_ge m k with w | w
        · have := h3 m w; rw [g2] at this; cases this
        · rw [show k = m by omega]
    · have := g1 k h1; rw [h2] at this; cases this
  · rcases h' with ⟨m, g1, g2, g3, rfl⟩ | ⟨g1, rfl⟩
    · have := h1 m g1; rw [g2] at this; cases this
    · rfl
theorem TP_cong {p q : Nat → Bool} {M : Nat} {o : Int32} (h : TP p M o) (e : ∀ k, k < M → p k = q k) : TP q M o := by
  rcases h with ⟨k, h1, h2, h3, h4⟩ | ⟨h1, h2⟩
  · exact Or.inl ⟨k, h1, by rw [← e k h1]; exact h2, fun j hj => by rw [← e j (by omega)]; exact h3 j hj, h4⟩
  · exact Or.inr ⟨fun k hk => by rw [← e k hk]; exact h1 k hk, h2⟩
theorem TP_ext {p : Nat → Bool} {M M' : Nat} {o : Int32} (h : TP p (M + 1) o) (hM : M + 1 ≤ M') (e : ∀ k, M ≤ k → p k = p M) : TP p M' o := by
  rcases h with ⟨k, h1, h2, h3, h4⟩ | ⟨h1, h2⟩
  · exact Or.inl ⟨k, by omega, h2, h3, h4⟩
  · refine Or.inr ⟨fun k hk => ?_, h2⟩
    rcases Nat.lt_or_ge k (M + 1) with z | z
    · exact h1 k z
    · rw [e k (by omega)]; exact h1 M (by omega)
theorem TP_step {p : Nat → Bool} {s : Nat} {o : Int32} (h : TP p s o) (hs : s < 1000) : TP p (s + 1) (if o = -9 ∧ p s = true then nI s else o) := by
  rcases h with ⟨k, h1, h2, h3, rfl⟩ | ⟨h1, rfl⟩
  · rw [if_neg (fun z => nI_n9 (by omega) z.1)]
    exact Or.inl ⟨k, by omega, h2, h3, rfl⟩
  · cases hp : p s
    · rw [if_neg (fun z => by cases z.2)]
      refine Or.inr ⟨fun k hk => ?_, rfl⟩
      by_cases z : k = s
      · subst z; exact hp
      · exact h1 k (by omega)
    · rw [if_pos ⟨rfl, rfl⟩]
      exact Or.inl ⟨s, by omega, hp, h1, rfl⟩
theorem mono_le {p : Nat → Bool} (mp : ∀ k, p k = true → p (k + 1) = true) {k m : Nat} (h : k ≤ m) (hp : p k = true) : p m = true := by
  have : ∀ d, p (k + d) = true := by
    intro d
    induction d with
    | zero => exact hp
    | succ d ih => exact mp _ ih
  have := this (m - k)
  rw [show k + (m - k) = m by omega] at this
  exact this
def mx (x y : Int32) : Int32 := if x = -9 then -9 else if y = -9 then -9 else if y ≤ x then x else y
theorem TP_and {p q : Nat → Bool} {M : Nat} {x y : Int32} (mp : ∀ k, p k = true → p (k + 1) = true) (mq : ∀ k, q k = true → q (k + 1) = true) (hp : TP p M x) (hq : TP q M y) (hM : M < 1000) : TP (fun k => p k && q k) M (mx x y) := by
  unfold mx
  rcases hp with ⟨k, h1, h2, h3, rfl⟩ | ⟨h1, rfl⟩
  · rw [if_neg (nI_n9 (by omega))]
    rcases hq with ⟨m, g1, g2, g3, rfl⟩ | ⟨g1, rfl⟩
    · rw [if_neg (nI_n9 (by omega))]
      by_cases z : m ≤ k
      · rw [if_pos (nI_le z (by omega))]
        refine Or.inl ⟨k, h1, ?_, fun j hj => ?_, rfl⟩
        · show (p k && q k) = true
          rw [h2, mono_le mq z g2]; rfl
        · show (p j && q j) = false
          rw [h3 j hj]; rfl
      · rw [if_neg (nI_ge (by omega) (by omega))]
        refine Or.inl ⟨m, g1, ?_, fun j hj => ?_, rfl⟩
        · show (p m && q m) = true
          rw [g2, mono_le mp (show k ≤ m by omega) h2]; rfl
        · show (p j && q j) = false
          rw [g3 j hj, Bool.and_false]
    · rw [if_pos rfl]
      refine Or.inr ⟨fun j hj => ?_, rfl⟩
      show (p j && q j) = false
      rw [g1 j hj, Bool.and_false]
  · rw [if_pos rfl]
    refine Or.inr ⟨fun j hj => ?_, rfl⟩
    show (p j && q j) = false
    rw [h1 j hj]; rfl
/-- a loop that looks for the first step at which something holds -/
theorem srch {σ β : Type} (F : Nat → Nat → σ → Option β) (M : Nat) (p : Nat → Bool) (I : Nat → σ → Prop) (A : Nat → σ → β) (Z : σ → β)
    (h0 : ∀ n i s, i < M → I i s → p i = false → ∃ s', I (i + 1) s' ∧ F (n + 1) i s = F n (i + 1) s')
    (h1 : ∀ n i s, i < M → I i s → p i = true → F (n + 1) i s = some (A i s))
    (h2 : ∀ n s, I M s → F (n + 1) M s = some (Z s)) :
    ∀ n i s, i ≤ M → M < n + i → I i s → (∀ j, j < i → p j = false) → ∃ o, F n i s = some o ∧ ((∃ k s', k < M ∧ p k = true ∧ (∀ j, j < k → p j = false) ∧ I k s' ∧ o = A k s') ∨ ((∀ k, k < M → p k = false) ∧ ∃ s', I M s' ∧ o = Z s')) := by
  intro n
  induction n with
  | zero => intro i s hi hn; omega
  | succ n ih =>
    intro i s hi hn hI hj
    rcases Nat.lt_or_ge i M with h | h
    · cases hp : p i
      · obtain ⟨s', hI', e⟩ := h0 n i s h hI hp
        rw [e]
        refine ih (i + 1) s' h (by omega) hI' (fun j hj2 => ?_)
        by_cases z : j = i
        · subst z; exact hp
        · exact hj j (by omega)
      · exact ⟨_, h1 n i s h hI hp, Or.inl ⟨i, s, h, hp, hj, hI, rfl⟩⟩
    · have e : i = M := by omega
      subst e
      exact ⟨_, h2 n s hI, Or.inr ⟨hj, s, hI, rfl⟩⟩
