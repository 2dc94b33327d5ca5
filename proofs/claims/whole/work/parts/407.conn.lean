/-! ===== neighbours of a set, components ===== -/
def itr {σ : Type} (g : Nat → σ → σ) : Nat → Nat → σ → σ
  | _, 0, s => s
  | i, d + 1, s => itr g (i + 1) d (g i s)
theorem itr_succ {σ : Type} (g : Nat → σ → σ) : ∀ (d i : Nat) (s : σ), itr g i (d + 1) s = g (i + d) (itr g i d s)
  | 0, _, _ => rfl
  | d + 1, i, s => by
    show itr g (i + 1) (d + 1) (g i s) = g (i + (d + 1)) (itr g (i + 1) d (g i s))
    rw [itr_succ g d (i + 1) (g i s), show i + 1 + d = i + (d + 1) by omega]
theorem cdet {σ β : Type} (F : Nat → Nat → σ → Option β) (N : Nat) (g : Nat → σ → σ) (K : σ → Option β)
    (h0 : ∀ n i s, i < N → F (n + 1) i s = F n (i + 1) (g i s)) (h1 : ∀ n s, F (n + 1) N s = K s) :
    ∀ n i s, i ≤ N → N < n + i → F n i s = K (itr g i (N - i) s) := by
  intro n
  induction n with
  | zero => intro i s hi hn; omega
  | succ n ih =>
    intro i s hi hn
    rcases Nat.lt_or_ge i N with h | h
    · rw [h0 n i s h, ih (i + 1) _ h (by omega), show N - i = N - (i + 1) + 1 by omega]; rfl
    · have e : i = N := by omega
      subst e
      rw [h1, Nat.sub_self]; rfl
theorem itr_inv {σ : Type} (g : Nat → σ → σ) (I : Nat → σ → Prop) (N : Nat) (h : ∀ i s, i < N → I i s → I (i + 1) (g i s)) : ∀ d i s, i + d ≤ N → I i s → I (i + d) (itr g i d s) := by
  intro d
  induction d with
  | zero => intro i s _ hI; exact hI
  | succ d ih =>
    intro i s hi hI
    rw [show i + (d + 1) = i + 1 + d by omega]
    exact ih (i + 1) (g i s) (by omega) (h i s (by omega) hI)
/-- the set of node k -/
def bit (k : Nat) : Int32 := (1 : Int32) <<< (nI k &&& 31)
theorem bt_bit {a : Nat} (ha : a < 32) : ∀ i, i < 32 → bt (bit a) i = decide (i = a) := by
  intro i hi
  unfold bit
  rw [b_shl a ha 1 hi, bt_one]
  by_cases q : i = a
  · subst q; simp
  · rw [decide_eq_false q]
    by_cases z : a ≤ i
    · rw [decide_eq_true z, decide_eq_false (by omega)]; rfl
    · rw [decide_eq_false z]; rfl
theorem of_eq (a : Nat) : fX6_of (nI a) = bit a := rfl
theorem has_eq (S : Int32) {a : Nat} (ha : a < 32) : fX6_has S (nI a) = bt S a := by
  unfold fX6_has
  have h : (S &&& ((1 : Int32) <<< (nI a &&& 31)) = 0) ↔ bt S a = false := and_one (e := S) ha (bt_bit ha)
  cases hb : bt S a
  · rw [if_pos (h.mpr hb)]
  · rw [if_neg (fun z => by have := h.mp z; rw [hb] at this; cases this)]
theorem connects_eq (e : Int32) {a b : Nat} (ha : a < 8) (hb : b < 8) : fX2_connects e (nI a) (nI b) = bt e (pix a b) := by
  unfold fX2_connects
  rw [between_eq]
  have h := and_one (e := e) (pix_le a ha b hb) (bt_pair a ha b hb)
  cases hc : bt e (pix a b)
  · rw [if_pos (h.mpr hc)]
  · rw [if_neg (fun z => by have := h.mp z; rw [hc] at this; cases this)]
theorem pand_eq (e : Int32) {a b : Nat} (ha : a < 8) (hb : b < 8) : (e &&& fX10_pair (nI a) (nI b) = 0) ↔ bt e (pix a b) = false := and_one (pix_le a ha b hb) (bt_pair a ha b hb)
def bi (c : Bool) (k : Nat) : Int32 := if c = true then bit k else 0
theorem bi_sh (S : Int32) {a b : Nat} (ha : a < 32) : ((S >>> (nI a &&& 31)) &&& (1 : Int32)) <<< (nI b &&& 31) = bi (bt S a) b := by
  rw [sh1 S ha]
  unfold bi bit
  cases bt S a
  · simp
  · simp
theorem bt_bi (c : Bool) {k i : Nat} (hk : k < 32) (hi : i < 32) : bt (bi c k) i = (c && decide (i = k)) := by
  unfold bi
  cases c
  · simp [b_0]
  · simp [bt_bit hk i hi]
def stp (e S : Int32) (b a : Nat) (R : Int32) : Int32 := if bt e (pix a b) = true then (R ||| bi (bt S a) b) ||| bi (bt S b) a else R
def inn (e S : Int32) (b : Nat) (R : Int32) : Int32 := itr (fun a R => stp e S b a R) 0 b R
def sp (e : Int32) (N : Nat) (S : Int32) : Int32 := itr (fun b R => inn e S b R) 0 N S
theorem or_assoc32 (x y z : Int32) : x ||| (y ||| z) = (x ||| y) ||| z := b_ext fun i _ => by rw [b_or, b_or, b_or, b_or, Bool.or_assoc]
theorem around_eq {N r : Nat} {re va : Nat → Int32} {no ro : Int32} {t : Nat → Int32} (h : SRn N r re va no ro t) (e S : Int32) : fX10_around e S t = some (sp e N S) := by
  have hN := h.2.1
  have h0 : t 0 = nI N := h.2.2.2.2.2.1
  unfold fX10_around
  have hin : ∀ (k : Int32 → Int32 → Option Int32) (b : Nat) (R : Int32), b < N → fX10_around_l19 k e S (nI b) t fuel R 0 = k (inn e S b R) (nI (b + 1)) := by
    intro k b R hb
    have := cdet (fun n a R => fX10_around_l19 k e S (nI b) t n R (nI a)) b (fun a R => stp e S b a R) (fun R => k R (nI (b + 1))) (fun n a R ha => ?_) (fun n R => ?_) fuel 0 R (Nat.zero_le _) (by have : fuel = 200 := rfl; omega)
    · exact this
    · show fX10_around_l19 k e S (nI b) t (n + 1) R (nI a) = fX10_around_l19 k e S (nI b) t n (stp e S b a R) (nI (a + 1))
      rw [fX10_around_l19, if_neg (nI_ge ha (by omega)), bi_sh S (by omega), bi_sh S (by omega), nI_1, or_assoc32]
      unfold stp
      have hp := pand_eq e (a := a) (b := b) (by omega) (by omega)
      cases hc : bt e (pix a b)
      · rw [if_pos (hp.mpr hc), if_neg (by simp)]
      · rw [if_neg (fun z => by have := hp.mp z; rw [hc] at this; cases this), if_pos rfl]
    · show fX10_around_l19 k e S (nI b) t (n + 1) R (nI b) = _
      rw [fX10_around_l19, if_pos (nI_le (Nat.le_refl b) (by omega)), nI_1]
  have := cdet (fun n b R => fX10_around_l5 e S t n R (nI b)) N (fun b R => inn e S b R) some (fun n b R hb => ?_) (fun n R => ?_) fuel 0 S (Nat.zero_le _) (by have : fuel = 200 := rfl; omega)
  · exact this
  · show fX10_around_l5 e S t (n + 1) R (nI b) = _
    rw [fX10_around_l5, h0, if_neg (nI_ge hb (by omega)), hin _ b R hb]
  · show fX10_around_l5 e S t (n + 1) R (nI N) = _
    rw [fX10_around_l5, h0, if_pos (nI_le (Nat.le_refl N) (by omega))]
theorem spread_eq {N : Nat} (h1 : 1 ≤ N) (hN : N ≤ 8) (e S : Int32) : fX2_spread e S (nI N) = some (sp e N S) := by
  unfold fX2_spread
  have hin : ∀ (k : Int32 → Int32 → Option Int32) (b : Nat) (R : Int32), b < N → fX2_spread_l14 k e S (nI N) (nI b) fuel R 0 = k (inn e S b R) (nI (b + 1)) := by
    intro k b R hb
    have := cdet (fun n a R => fX2_spread_l14 k e S (nI N) (nI b) n R (nI a)) b (fun a R => stp e S b a R) (fun R => k R (nI (b + 1))) (fun n a R ha => ?_) (fun n R => ?_) fuel 0 R (Nat.zero_le _) (by have : fuel = 200 := rfl; omega)
    · exact this
    · show fX2_spread_l14 k e S (nI N) (nI b) (n + 1) R (nI a) = fX2_spread_l14 k e S (nI N) (nI b) n (stp e S b a R) (nI (a + 1))
      rw [fX2_spread_l14, if_neg (nI_ge ha (by omega)), connects_eq e (by omega) (by omega), has_eq S (by omega), if_b, if_b]
      unfold fX2_spread_b51 stp bi
      rw [has_eq S (by omega), if_b, if_b, nI_1, of_eq, of_eq]
      cases bt e (pix a b) <;> cases bt S a <;> cases bt S b <;> rfl
    · show fX2_spread_l14 k e S (nI N) (nI b) (n + 1) R (nI b) = _
      rw [fX2_spread_l14, if_pos (nI_le (Nat.le_refl b) (by omega)), nI_1]
  have := cdet (fun n b R => fX2_spread_l5 e S (nI N) n R (nI b)) N (fun b R => inn e S b R) some (fun n b R hb => ?_) (fun n R => ?_) fuel 1 S h1 (by have : fuel = 200 := rfl; omega)
  · have e2 : sp e N S = itr (fun b R => inn e S b R) 1 (N - 1) S := by
      unfold sp
      rw [show N = N - 1 + 1 by omega]
      rfl
    rw [e2]
    exact this
  · show fX2_spread_l5 e S (nI N) (n + 1) R (nI b) = _
    rw [fX2_spread_l5, if_neg (nI_ge hb (by omega)), hin _ b R hb]
  · show fX2_spread_l5 e S (nI N) (n + 1) R (nI N) = _
    rw [fX2_spread_l5, if_pos (nI_le (Nat.le_refl N) (by omega))]
/-- the bits of sp, by pairs -/
theorem sp_pairs (e : Int32) {N : Nat} (hN : N ≤ 8) (S : Int32) {k : Nat} (hk : k < 32) : bt (sp e N S) k = true ↔ bt S k = true ∨ ∃ a b, a < b ∧ b < N ∧ bt e (pix a b) = true ∧ ((k = b ∧ bt S a = true) ∨ (k = a ∧ bt S b = true)) := by
  have hstp : ∀ (b a : Nat) (R : Int32), a < b → b < N → (bt (stp e S b a R) k = true ↔ bt R k = true ∨ (bt e (pix a b) = true ∧ ((k = b ∧ bt S a = true) ∨ (k = a ∧ bt S b = true)))) := by
    intro b a R ha hb
    unfold stp
    cases hc : bt e (pix a b)
    · simp
    · rw [if_pos rfl, b_or, b_or, bt_bi _ (by omega) hk, bt_bi _ (by omega) hk]
      simp only [Bool.or_eq_true, Bool.and_eq_true, decide_eq_true_eq]
      constructor
      · rintro ((q | ⟨q1, q2⟩) | ⟨q1, q2⟩)
        · exact Or.inl q
        · exact Or.inr ⟨trivial, Or.inl ⟨q2, q1⟩⟩
        · exact Or.inr ⟨trivial, Or.inr ⟨q2, q1⟩⟩
      · rintro (q | ⟨_, (⟨q1, q2⟩ | ⟨q1, q2⟩)⟩)
        · exact Or.inl (Or.inl q)
        · exact Or.inl (Or.inr ⟨q2, q1⟩)
        · exact Or.inr ⟨q2, q1⟩
  have hinn : ∀ (b : Nat) (R : Int32), b < N → (bt (inn e S b R) k = true ↔ bt R k = true ∨ ∃ a, a < b ∧ bt e (pix a b) = true ∧ ((k = b ∧ bt S a = true) ∨ (k = a ∧ bt S b = true))) := by
    intro b R hb
    have := itr_inv (fun a R => stp e S b a R) (fun i Q => bt Q k = true ↔ bt R k = true ∨ ∃ a, a < i ∧ bt e (pix a b) = true ∧ ((k = b ∧ bt S a = true) ∨ (k = a ∧ bt S b = true))) b (fun i Q hi hI => ?_) b 0 R (by omega) (by simp)
    · rw [Nat.zero_add] at this; exact this
    · show bt (stp e S b i Q) k = true ↔ _
      rw [hstp b i Q hi hb, hI]
      constructor
      · rintro ((q | ⟨a, q1, q2⟩) | q)
        · exact Or.inl q
        · exact Or.inr ⟨a, by omega, q2⟩
        · exact Or.inr ⟨i, by omega, q⟩
      · rintro (q | ⟨a, q1, q2⟩)
        · exact Or.inl (Or.inl q)
        · by_cases z : a = i
          · subst z; exact Or.inr q2
          · exact Or.inl (Or.inr ⟨a, by omega, q2⟩)
  have := itr_inv (fun b R => inn e S b R) (fun i Q => bt Q k = true ↔ bt S k = true ∨ ∃ a b, a < b ∧ b < i ∧ bt e (pix a b) = true ∧ ((k = b ∧ bt S a = true) ∨ (k = a ∧ bt S b = true))) N (fun i Q hi hI => ?_) N 0 S (by omega) (by simp)
  · rw [Nat.zero_add] at this; exact this
  · show bt (inn e S i Q) k = true ↔ _
    rw [hinn i Q hi, hI]
    constructor
    · rintro ((q | ⟨a, b, q1, q2, q3⟩) | ⟨a, q1, q2⟩)
      · exact Or.inl q
      · exact Or.inr ⟨a, b, q1, by omega, q3⟩
      · exact Or.inr ⟨a, i, q1, by omega, q2⟩
    · rintro (q | ⟨a, b, q1, q2, q3⟩)
      · exact Or.inl (Or.inl q)
      · by_cases z : b = i
        · subst z; exact Or.inr ⟨a, q1, q3⟩
        · exact Or.inl (Or.inr ⟨a, b, q1, by omega, q3⟩)
/-- two nodes are neighbours -/
def adj (e : Int32) (a b : Nat) : Prop := bt e (pix a b) = true
theorem adj_comm {e : Int32} {a b : Nat} (ha : a < 8) (hb : b < 8) (hab : a ≠ b) : adj e a b ↔ adj e b a := by
  unfold adj
  rw [pix_comm a ha b hb hab]
theorem sp_bits (e : Int32) {N : Nat} (hN : N ≤ 8) (S : Int32) {k : Nat} (hk : k < 32) : bt (sp e N S) k = true ↔ bt S k = true ∨ (k < N ∧ ∃ j, j < N ∧ j ≠ k ∧ adj e k j ∧ bt S j = true) := by
  rw [sp_pairs e hN S hk]
  constructor
  · rintro (q | ⟨a, b, q1, q2, q3, (⟨rfl, q4⟩ | ⟨rfl, q4⟩)⟩)
    · exact Or.inl q
    · exact Or.inr ⟨q2, a, by omega, by omega, (adj_comm (by omega) (by omega) (by omega)).mp q3, q4⟩
    · exact Or.inr ⟨by omega, b, q2, by omega, q3, q4⟩
  · rintro (q | ⟨q1, j, q2, q3, q4, q5⟩)
    · exact Or.inl q
    · rcases Nat.lt_or_ge k j with z | z
      · exact Or.inr ⟨k, j, z, q2, q4, Or.inr ⟨rfl, q5⟩⟩
      · exact Or.inr ⟨j, k, by omega, q1, (adj_comm (by omega) (by omega) (by omega)).mp q4, Or.inl ⟨rfl, q5⟩⟩
