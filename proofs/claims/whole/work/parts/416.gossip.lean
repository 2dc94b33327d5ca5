/-! ===== gossip ===== -/
theorem cinv2 {σ τ β γ : Type} (F : Nat → Nat → σ → Option β) (G : Nat → Nat → τ → Option γ) (N : Nat) (I : Nat → σ → τ → Prop) (K : σ → Option β) (L : τ → Option γ)
    (h0 : ∀ n i s t, i < N → I i s t → ∃ s' t', I (i + 1) s' t' ∧ F (n + 1) i s = F n (i + 1) s' ∧ G (n + 1) i t = G n (i + 1) t')
    (h1 : ∀ n s t, I N s t → F (n + 1) N s = K s ∧ G (n + 1) N t = L t) :
    ∀ n i s t, i ≤ N → N < n + i → I i s t → ∃ s' t', I N s' t' ∧ F n i s = K s' ∧ G n i t = L t' := by
  intro n
  induction n with
  | zero => intro i s t hi hn; omega
  | succ n ih =>
    intro i s t hi hn hI
    rcases Nat.lt_or_ge i N with h | h
    · obtain ⟨s', t', hI', e1, e2⟩ := h0 n i s t h hI
      rw [e1, e2]
      exact ih (i + 1) s' t' h (by omega) hI'
    · have e : i = N := by omega
      subst e
      exact ⟨s, t, hI, h1 n s t hI⟩
/-- c is learned before m, or with it and is not greater -/
def lx (Tl : Nat → Int32) (a c m : Nat) : Prop := (Tl (8 * a + c)).toInt < (Tl (8 * a + m)).toInt ∨ ((Tl (8 * a + c)).toInt = (Tl (8 * a + m)).toInt ∧ c ≤ m)
theorem lx_trans {Tl : Nat → Int32} {a c m k : Nat} (h : lx Tl a c m) (h2 : lx Tl a m k) : lx Tl a c k := by unfold lx at *; omega
theorem lx_anti {Tl : Nat → Int32} {a c m : Nat} (h : lx Tl a c m) (h2 : lx Tl a m c) : c = m := by unfold lx at *; omega
theorem lx_refl {Tl : Nat → Int32} {a c : Nat} : lx Tl a c c := Or.inr ⟨rfl, Nat.le_refl c⟩
def GN (N st a : Nat) (gk gs gn tk ts : Int32) (Tl : Nat → Int32) : Prop := gk = tk ∧ gs = ts ∧ bt tk a = true ∧ (∀ u, u < 32 → bt tk u = true → u < N ∧ (Tl (8 * a + u)).toInt < (st : Int)) ∧ ∃ m, m < N ∧ gn = nI m ∧ bt tk m = true ∧ ∀ c, c < N → bt tk c = true → lx Tl a c m
def GS (N st : Nat) (Gk Gs Gn Tk Ts Tl : Nat → Int32) : Prop := ∀ a, a < N → GN N st a (Gk a) (Gs a) (Gn a) (Tk a) (Ts a) Tl
theorem low_both {S : Int32} (h : ∃ u, u < 8 ∧ bt S u = true) : ∃ m, m < 8 ∧ bt S m = true ∧ fX6_smallest S = some (nI m) ∧ fX10_lowest S = some (nI m) := by
  obtain ⟨u, hu, hb⟩ := h
  have h1 := fi_lt (p := bt S) (n := 8) hu hb
  exact ⟨_, h1, fa_first_yes _ _ h1, smallest_eq _ h1 (fa_first_yes _ _ h1) (fa_first_no _ _), lowest_eq _ (by omega) (fa_first_yes _ _ h1) (fa_first_no _ _)⟩
theorem bt_diff (S K : Int32) {u : Nat} (hu : u < 32) : bt (S &&& (K ^^^ (-1 : Int32))) u = (bt S u && !bt K u) := by
  rw [b_and, b_xor, b_m1 u hu]
  cases bt K u <;> rfl
theorem ne0_bit {S : Int32} (h : ¬ S = 0) : ∃ u, u < 32 ∧ bt S u = true := Classical.byContradiction fun z => h (b_ext fun u hu => by
  rw [b_0]; exact ts_nt' (fun w => z ⟨u, hu, w⟩))
section GO
variable {N r : Nat} {re va : Nat → Int32} {no ro : Int32} {t : Nat → Int32}
theorem eight (a i : Nat) : (8 : Int32) * nI a + nI i = nI (8 * a + i) := by
  have : (8 : Int32) * nI a = nI (8 * a) := pk_mul 8 a
  rw [this, nI_add]
theorem newest_eq (h : SRn N r re va no ro t) {a m : Nat} (ha : a < N) {Tk Tl : Nat → Int32} (hs : bt (Tk a) a = true) (hm : m < N) (hk : bt (Tk a) m = true) (hx : ∀ c, c < N → bt (Tk a) c = true → lx Tl a c m) : fX10_newest (nI a) t Tk Tl = some (nI m) := by
  obtain ⟨a1, a2, a3, a4, a5, a6, a7, a8, a9⟩ := id h
  unfold fX10_newest
  let J : Nat → Nat → Prop := fun i b => b < N ∧ bt (Tk a) b = true ∧ ∀ c, c < i → bt (Tk a) c = true → lx Tl a c b
  have g0 : ∀ (n i : Nat) (b : Nat), i < N → J i b → ∃ b', J (i + 1) b' ∧ fX10_newest_l4 (nI a) t Tk Tl (n + 1) (nI b) (nI i) = fX10_newest_l4 (nI a) t Tk Tl n (nI b') (nI (i + 1)) := by
    intro n i b hi ⟨hb1, hb2, hb3⟩
    rw [fX10_newest_l4, a6, if_neg (nI_ge hi (by omega)), ck_t (inb_t (by omega) (by decide)), nI_clamp (by omega)]
    unfold fX10_newest_b33
    rw [eight, eight, if_pos (show (0 : Int32) = 0 from rfl), if_neg (show ¬ (1 : Int32) = 0 by decide), ck_t (inb_t (by omega) (by decide)), ck_t (inb_t (by omega) (by decide)), ck_t (inb_t (by omega) (by decide)), ck_t (inb_t (by omega) (by decide)), nI_clamp (by omega), nI_clamp (by omega), nI_1]
    have keep : lx Tl a i b ∨ bt (Tk a) i = false → J (i + 1) b := fun z => ⟨hb1, hb2, fun c hc hck => by
      by_cases w : c = i
      · subst w
        rcases z with z | z
        · exact z
        · rw [z] at hck; cases hck
      · exact hb3 c (by omega) hck⟩
    have take : bt (Tk a) i = true → lx Tl a b i → J (i + 1) i := fun z1 z2 => ⟨hi, z1, fun c hc hck => by
      by_cases w : c = i
      · subst w; exact lx_refl
      · exact lx_trans (hb3 c (by omega) hck) z2⟩
    cases hc : bt (Tk a) i
    · rw [if_neg (fun z => by have := (sh1_1 _ (by omega)).mp z; rw [hc] at this; cases this)]
      exact ⟨b, keep (Or.inr hc), rfl⟩
    · rw [if_pos ((sh1_1 _ (by omega)).mpr hc)]
      by_cases z1 : Tl (8 * a + b) < Tl (8 * a + i)
      · rw [if_pos z1]
        exact ⟨i, take hc (Or.inl ((fa_lt _ _).mp z1)), rfl⟩
      · rw [if_neg z1]
        rw [fa_lt] at z1
        by_cases z2 : Tl (8 * a + i) = Tl (8 * a + b)
        · rw [if_pos z2]
          by_cases z3 : i ≤ b
          · rw [if_pos (nI_le z3 (by omega))]
            exact ⟨b, keep (Or.inl (Or.inr ⟨by rw [z2], z3⟩)), rfl⟩
          · rw [if_neg (nI_ge (by omega) (by omega))]
            exact ⟨i, take hc (Or.inr ⟨by rw [z2], by omega⟩), rfl⟩
        · rw [if_neg z2]
          refine ⟨b, keep (Or.inl (Or.inl ?_)), rfl⟩
          have : (Tl (8 * a + i)).toInt ≠ (Tl (8 * a + b)).toInt := fun w => z2 ((fa_eq _ _).mpr w)
          omega
  have g1 : ∀ (n : Nat) (b : Nat), J N b → fX10_newest_l4 (nI a) t Tk Tl (n + 1) (nI b) (nI N) = some (nI b) := by
    intro n b _
    rw [fX10_newest_l4, a6, if_pos (nI_le (Nat.le_refl N) (by omega))]
  obtain ⟨b, hb, q⟩ := cinv (fun n i (b : Nat) => fX10_newest_l4 (nI a) t Tk Tl n (nI b) (nI i)) N J (fun b => some (nI b)) g0 g1 fuel 0 a (Nat.zero_le _) (by have : fuel = 200 := rfl; omega) ⟨ha, hs, fun c hc => by omega⟩
  have e : b = m := lx_anti (hx b hb.1 hb.2.1) (hb.2.2 m hm hk)
  rw [e] at q
  exact q
theorem choice_both (h : SRn N r re va no ro t) {ρ st a : Nat} (hρ : ρ < 3) (hst : st < 1000) (ha : a < N) {Gk Gs Gn Tk Ts Tl : Nat → Int32} (hG : GN N st a (Gk a) (Gs a) (Gn a) (Tk a) (Ts a) Tl) : ∃ m, m < N ∧ fX4_choice (nI a) Gk Gs Gn (nI ρ) (nI st) no = some (nI m) ∧ fX10_choice (nI ρ) (nI a) (nI st) t Tk Ts Tl = some (nI m) := by
  obtain ⟨a1, a2, a3, a4, a5, a6, a7, a8, a9⟩ := id h
  obtain ⟨e1, e2, e3, e4, m, m1, m2, m3, m4⟩ := hG
  unfold fX4_choice fX10_choice
  have e : fX7_nodes no = nI N := a4
  rw [nI_clamp (by omega), e1, e2, m2, e, a6]
  have hin : inb (nI a) 8 = true := inb_t (by omega) (by decide)
  by_cases q0 : ρ = 0
  · subst q0
    rw [if_pos (show nI 0 = 0 from rfl), if_pos (show nI 0 = 0 from rfl), ck_t hin, ck_t hin, ck_t hin, ck_t hin, ck_t hin, ck_t hin]
    unfold fX4_choice_b37 fX10_choice_b37
    by_cases z : Tk a &&& (Ts a ^^^ (-1 : Int32)) = 0
    · rw [if_pos z, if_pos z]
      obtain ⟨k, k1, k2, k3, k4⟩ := low_both (S := Tk a) ⟨a, by omega, e3⟩
      rw [k3, k4]
      exact ⟨k, (e4 k (by omega) k2).1, rfl, rfl⟩
    · rw [if_neg z, if_neg z]
      obtain ⟨u, hu, hb⟩ := ne0_bit z
      have hb' := hb
      rw [bt_diff _ _ hu, Bool.and_eq_true] at hb'
      have := (e4 u hu hb'.1).1
      obtain ⟨k, k1, k2, k3, k4⟩ := low_both (S := Tk a &&& (Ts a ^^^ (-1 : Int32))) ⟨u, by omega, hb⟩
      rw [k3, k4]
      rw [bt_diff _ _ (by omega), Bool.and_eq_true] at k2
      exact ⟨k, (e4 k (by omega) k2.1).1, rfl, rfl⟩
  · rw [if_neg (nI_ne0 (by omega) (by omega)), if_neg (nI_ne0 (by omega) (by omega))]
    by_cases q1 : ρ = 1
    · subst q1
      rw [if_pos (show nI 1 = 1 from rfl), if_pos (show nI 1 = 1 from rfl), ck_t hin, newest_eq h ha e3 m1 m3 m4]
      exact ⟨m, m1, rfl, rfl⟩
    · have q2 : ¬ nI ρ = 1 := fun z => q1 ((nI_eq (a := ρ) (b := 1) (by omega) (by omega)).mp z)
      rw [if_neg q2, if_neg q2, if_neg (nI_nle (by omega) (by omega)), ck_t (nz_t (by omega) (by omega)), ck_t (nz_t (by omega) (by omega)), ck_t hin, pk_rem (by omega) (by omega) (by omega)]
      have hm : st % N < N := Nat.mod_lt _ (by omega)
      unfold fX4_choice_b82
      rw [ck_t hin, nI_clamp (by omega), e1, has_eq _ (by omega), if_b]
      cases hc : bt (Tk a) (st % N)
      · rw [if_neg (by simp), if_neg (fun z => by have := (sh1_1 _ (by omega)).mp z; rw [hc] at this; cases this)]
        exact ⟨a, ha, rfl, rfl⟩
      · rw [if_pos rfl, if_pos ((sh1_1 _ (by omega)).mpr hc)]
        exact ⟨st % N, hm, rfl, rfl⟩
/-- the tokens that reach a node -/
theorem tokensSentBy_eq (h : SRn N r re va no ro t) (R : Int32) {C : Nat → Int32} {ch : Nat → Nat} (hC : ∀ a, a < N → C a = nI (ch a) ∧ ch a < N) : ∃ T, fX4_tokensSentBy R C no = some T ∧ ∀ u, u < 32 → (bt T u = true ↔ ∃ a, a < N ∧ bt R a = true ∧ ch a = u) := by
  obtain ⟨a1, a2, a3, a4, a5, a6, a7, a8, a9⟩ := id h
  have e : fX7_nodes no = nI N := a4
  unfold fX4_tokensSentBy
  have g0 : ∀ (n i : Nat) (s : Int32), i < N → (∀ u, u < 32 → (bt s u = true ↔ ∃ a, a < i ∧ bt R a = true ∧ ch a = u)) → ∃ s', (∀ u, u < 32 → (bt s' u = true ↔ ∃ a, a < i + 1 ∧ bt R a = true ∧ ch a = u)) ∧ fX4_tokensSentBy_l4 R C no (n + 1) s (nI i) = fX4_tokensSentBy_l4 R C no n s' (nI (i + 1)) := by
    intro n i s hi hs
    rw [fX4_tokensSentBy_l4, e, if_neg (nI_ge hi (by omega)), has_eq R (by omega), if_b, ck_t (inb_t (by omega) (by decide)), nI_clamp (by omega), nI_1, (hC i hi).1, of_eq]
    cases hb : bt R i
    · rw [if_neg (by simp)]
      refine ⟨s, fun u hu => ?_, rfl⟩
      rw [hs u hu]
      constructor
      · rintro ⟨a, q1, q2⟩; exact ⟨a, by omega, q2⟩
      · rintro ⟨a, q1, q2, q3⟩
        by_cases z : a = i
        · subst z; rw [hb] at q2; cases q2
        · exact ⟨a, by omega, q2, q3⟩
    · rw [if_pos rfl]
      refine ⟨_, fun u hu => ?_, rfl⟩
      have hci := (hC i hi).2
      rw [b_or, Bool.or_eq_true, hs u hu, bt_bit (by omega) u hu, decide_eq_true_eq]
      constructor
      · rintro (⟨a, q1, q2⟩ | q)
        · exact ⟨a, by omega, q2⟩
        · exact ⟨i, by omega, hb, q.symm⟩
      · rintro ⟨a, q1, q2, q3⟩
        by_cases z : a = i
        · subst z; exact Or.inr q3.symm
        · exact Or.inl ⟨a, by omega, q2, q3⟩
  have g1 : ∀ (n : Nat) (s : Int32), (∀ u, u < 32 → (bt s u = true ↔ ∃ a, a < N ∧ bt R a = true ∧ ch a = u)) → fX4_tokensSentBy_l4 R C no (n + 1) s (nI N) = some s := by
    intro n s _
    rw [fX4_tokensSentBy_l4, e, if_pos (nI_le (Nat.le_refl N) (by omega))]
  obtain ⟨s', hs, q⟩ := cinv (fun n i s => fX4_tokensSentBy_l4 R C no n s (nI i)) N (fun i s => ∀ u, u < 32 → (bt s u = true ↔ ∃ a, a < i ∧ bt R a = true ∧ ch a = u)) some g0 g1 fuel 0 0 (Nat.zero_le _) (by have : fuel = 200 := rfl; omega) (fun u hu => by simp [b_0])
  exact ⟨s', q, hs⟩
/-- node b hears token u: x sends it -/
def hrd (e : Int32) (N : Nat) (ch : Nat → Nat) (b u : Nat) : Prop := ∃ x, x < N ∧ x ≠ b ∧ adj e b x ∧ ch x = u
/-- what the class knows after a step at node b -/
def LK (e : Int32) (N : Nat) (ch : Nat → Nat) (b : Nat) (gk gn gk' gn' : Int32) : Prop := (∀ u, u < 32 → (bt gk' u = true ↔ bt gk u = true ∨ hrd e N ch b u)) ∧ (((∀ u, u < 32 → hrd e N ch b u → bt gk u = true) ∧ gn' = gn) ∨ ∃ m, m < N ∧ gn' = nI m ∧ hrd e N ch b m ∧ bt gk m = false ∧ ∀ u, u < 32 → hrd e N ch b u → bt gk u = false → u ≤ m)
theorem learn_eq {b : Nat} (hN : N ≤ 8) (hb : b < N) {e T : Int32} {ch : Nat → Nat} (hch : ∀ a, a < N → ch a < N) (hT : ∀ u, u < 32 → (bt T u = true ↔ hrd e N ch b u)) (Gk Gn : Nat → Int32) : ∃ k' n', fX4_learn (nI b) T Gk Gn = some (upd Gk b k', upd Gn b n') ∧ LK e N ch b (Gk b) (Gn b) k' n' := by
  unfold fX4_learn
  rw [ck_t (inb_t (by omega) (by decide)), ck_t (inb_t (by omega) (by decide)), ck_t (inb_t (by omega) (by decide)), nI_clamp (by omega)]
  by_cases z : T &&& (Gk b ^^^ (-1 : Int32)) = 0
  · rw [if_pos z]
    have hz : ∀ u, u < 32 → hrd e N ch b u → bt (Gk b) u = true := fun u hu hh => by
      have h1 := bt_diff T (Gk b) hu
      rw [z, b_0, (hT u hu).mpr hh, Bool.true_and] at h1
      cases hq : bt (Gk b) u
      · rw [hq] at h1; cases h1
      · rfl
    refine ⟨Gk b, Gn b, by rw [fa_upd_same rfl, fa_upd_same rfl], fun u hu => ⟨Or.inl, fun w => ?_⟩, Or.inl ⟨hz, rfl⟩⟩
    rcases w with w | w
    · exact w
    · exact hz u hu w
  · rw [if_neg z]
    obtain ⟨u0, hu0, hb0⟩ := ne0_bit z
    have hd : ∀ u, u < 32 → (bt (T &&& (Gk b ^^^ (-1 : Int32))) u = true ↔ hrd e N ch b u ∧ bt (Gk b) u = false) := fun u hu => by
      rw [bt_diff _ _ hu, Bool.and_eq_true, hT u hu, Bool.not_eq_true']
    have hlt : ∀ u, hrd e N ch b u → u < N := fun u ⟨x, x1, _, _, x4⟩ => by have := hch x x1; omega
    obtain ⟨m, hm1, hm2, hm3⟩ := fb_last (p := fun u => bt (T &&& (Gk b ^^^ (-1 : Int32))) u = true) (n := 8) ⟨u0, by have := hlt u0 ((hd u0 hu0).mp hb0).1; omega, hb0⟩
    rw [greatest_eq _ hm1 hm2 (fun k k1 k2 => ts_nt' (hm3 k k1 k2)), bd_s, ck_t (inb_t (by omega) (by decide))]
    have hmm := (hd m (by omega)).mp hm2
    refine ⟨_, _, rfl, fun u hu => ?_, Or.inr ⟨m, hlt m hmm.1, rfl, hmm.1, hmm.2, fun u hu h1 h2 => ?_⟩⟩
    · rw [b_or, Bool.or_eq_true, hd u hu]
      constructor
      · rintro (w | w)
        · exact Or.inl w
        · exact Or.inr w.1
      · rintro (w | w)
        · exact Or.inl w
        · cases hq : bt (Gk b) u
          · exact Or.inr ⟨w, rfl⟩
          · exact Or.inl rfl
    · rcases Nat.lt_or_ge m u with w | w
      · exact absurd ((hd u hu).mpr ⟨h1, h2⟩) (hm3 u w (by have := hlt u h1; omega))
      · exact w
theorem hears_eq (h : SRn N r re va no ro t) (e : Int32) {C : Nat → Int32} {ch : Nat → Nat} (hC : ∀ a, a < N → C a = nI (ch a) ∧ ch a < N) (Gs : Nat → Int32) (st : Int32) (Gk Gn : Nat → Int32) : ∃ Gk' Gn', fX4_advance_l62 e Gs C st no fuel 0 Gk Gn = some (Gk', Gs, Gn', C, st + 1) ∧ ∀ b, b < N → LK e N ch b (Gk b) (Gn b) (Gk' b) (Gn' b) := by
  obtain ⟨a1, a2, a3, a4, a5, a6, a7, a8, a9⟩ := id h
  have en : fX7_nodes no = nI N := a4
  let J : Nat → (Nat → Int32) × (Nat → Int32) → Prop := fun i s => (∀ b, b < i → LK e N ch b (Gk b) (Gn b) (s.1 b) (s.2 b)) ∧ ∀ b, i ≤ b → s.1 b = Gk b ∧ s.2 b = Gn b
  have g0 : ∀ (n i : Nat) (s : (Nat → Int32) × (Nat → Int32)), i < N → J i s → ∃ s' : (Nat → Int32) × (Nat → Int32), J (i + 1) s' ∧ fX4_advance_l62 e Gs C st no (n + 1) (nI i) s.1 s.2 = fX4_advance_l62 e Gs C st no n (nI (i + 1)) s'.1 s'.2 := by
    intro n i s hi ⟨hs1, hs2⟩
    obtain ⟨R, r1, r2⟩ := neighbours_eq a2 hi e
    obtain ⟨T, t1, t2⟩ := tokensSentBy_eq h R hC
    have hT : ∀ u, u < 32 → (bt T u = true ↔ hrd e N ch i u) := fun u hu => by
      rw [t2 u hu]
      unfold hrd
      constructor
      · rintro ⟨a, q1, q2, q3⟩
        have := (r2 a (by omega)).mp q2
        exact ⟨a, q1, this.2.1, this.2.2, q3⟩
      · rintro ⟨a, q1, q2, q3, q4⟩
        exact ⟨a, q1, (r2 a (by omega)).mpr ⟨q1, q2, q3⟩, q4⟩
    obtain ⟨k', n', l1, l2⟩ := learn_eq a2 hi (fun a ha => (hC a ha).2) hT s.1 s.2
    rw [fX4_advance_l62, en, if_neg (nI_ge hi (by omega)), r1, bd_s, t1, bd_s, l1, bd_s, nI_1]
    refine ⟨(upd s.1 i k', upd s.2 i n'), ⟨fun b hb => ?_, fun b hb => ?_⟩, rfl⟩
    · by_cases z : b = i
      · subst z
        show LK e N ch b (Gk b) (Gn b) (upd s.1 b k' b) (upd s.2 b n' b)
        rw [upd_same, upd_same, ← (hs2 b (Nat.le_refl b)).1, ← (hs2 b (Nat.le_refl b)).2]
        exact l2
      · show LK e N ch b (Gk b) (Gn b) (upd s.1 i k' b) (upd s.2 i n' b)
        rw [upd_ne _ _ z, upd_ne _ _ z]
        exact hs1 b (by omega)
    · show upd s.1 i k' b = Gk b ∧ upd s.2 i n' b = Gn b
      rw [upd_ne _ _ (by omega), upd_ne _ _ (by omega)]
      exact hs2 b (by omega)
  have g1 : ∀ (n : Nat) (s : (Nat → Int32) × (Nat → Int32)), J N s → fX4_advance_l62 e Gs C st no (n + 1) (nI N) s.1 s.2 = some (s.1, Gs, s.2, C, st + 1) := by
    intro n s _
    rw [fX4_advance_l62, en, if_pos (nI_le (Nat.le_refl N) (by omega))]
  obtain ⟨s', hs, q⟩ := cinv (fun n i (s : (Nat → Int32) × (Nat → Int32)) => fX4_advance_l62 e Gs C st no n (nI i) s.1 s.2) N J (fun s => some (s.1, Gs, s.2, C, st + 1)) g0 g1 fuel 0 (Gk, Gn) (Nat.zero_le _) (by have : fuel = 200 := rfl; omega) ⟨fun b hb => by omega, fun b _ => ⟨rfl, rfl⟩⟩
  exact ⟨s'.1, s'.2, q, hs.1⟩
/-- what the reference knows after a step -/
theorem talk_eq (h : SRn N r re va no ro t) (e : Int32) {C : Nat → Int32} {ch : Nat → Nat} (hC : ∀ a, a < N → C a = nI (ch a) ∧ ch a < N) (Ts : Nat → Int32) (st : Int32) (Tk Tl : Nat → Int32) : ∃ Tk' Tl', fX10_talks_l63 st e t Ts C fuel 0 Tk Tl = some (Tk', Ts, Tl', C) ∧ ∀ b, b < N → (∀ u, u < 32 → (bt (Tk' b) u = true ↔ bt (Tk b) u = true ∨ hrd e N ch b u)) ∧ ∀ u, u < 8 → (bt (Tk b) u = false → hrd e N ch b u → Tl' (8 * b + u) = st) ∧ ((bt (Tk b) u = true ∨ ¬ hrd e N ch b u) → Tl' (8 * b + u) = Tl (8 * b + u)) := by
  obtain ⟨a1, a2, a3, a4, a5, a6, a7, a8, a9⟩ := id h
  -- x sends to b, done before (a, i)
  let H : Nat → Nat → Nat → Nat → Prop := fun a i b u => ∃ x, x < N ∧ x ≠ b ∧ adj e b x ∧ ch x = u ∧ (x < a ∨ (x = a ∧ b < i))
  let J : Nat → Nat → (Nat → Int32) × (Nat → Int32) → Prop := fun a i s => ∀ b, b < N → (∀ u, u < 32 → (bt (s.1 b) u = true ↔ bt (Tk b) u = true ∨ H a i b u)) ∧ ∀ u, u < 8 → (bt (Tk b) u = false → H a i b u → s.2 (8 * b + u) = st) ∧ ((bt (Tk b) u = true ∨ ¬ H a i b u) → s.2 (8 * b + u) = Tl (8 * b + u))
  have Jc : ∀ a i a' i' s, (∀ b u, b < N → (H a i b u ↔ H a' i' b u)) → J a i s → J a' i' s := fun a i a' i' s hh hJ b hb => by
    obtain ⟨h1, h2⟩ := hJ b hb
    refine ⟨fun u hu => by rw [h1 u hu, hh b u hb], fun u hu => ⟨fun w1 w2 => (h2 u hu).1 w1 ((hh b u hb).mpr w2), fun w => (h2 u hu).2 ?_⟩⟩
    rcases w with w | w
    · exact Or.inl w
    · exact Or.inr (fun z => w ((hh b u hb).mp z))
  have hin : ∀ (kk : Int32 → (Nat → Int32) → (Nat → Int32) → Option ((Nat → Int32) × (Nat → Int32) × (Nat → Int32) × (Nat → Int32))) (a : Nat) (s : (Nat → Int32) × (Nat → Int32)), a < N → J a 0 s → ∃ s' : (Nat → Int32) × (Nat → Int32), J a N s' ∧ fX10_talks_l77 kk st e (nI a) t Ts C fuel 0 s.1 s.2 = kk (nI (a + 1)) s'.1 s'.2 := by
    intro kk a s ha hs
    refine cinv (fun n i (s : (Nat → Int32) × (Nat → Int32)) => fX10_talks_l77 kk st e (nI a) t Ts C n (nI i) s.1 s.2) N (fun i s => J a i s) (fun s => kk (nI (a + 1)) s.1 s.2) (fun n i s hi hs => ?_) (fun n s _ => ?_) fuel 0 s (Nat.zero_le _) (by have : fuel = 200 := rfl; omega) hs
    · show ∃ s' : (Nat → Int32) × (Nat → Int32), J a (i + 1) s' ∧ fX10_talks_l77 kk st e (nI a) t Ts C (n + 1) (nI i) s.1 s.2 = _
      obtain ⟨c1, c2⟩ := hC a ha
      rw [fX10_talks_l77, a6, if_neg (nI_ge hi (by omega)), nI_1, nI_clamp (by omega), nI_clamp (by omega), c1, eight]
      have nochange : (¬ (i ≠ a ∧ adj e i a)) → ∀ b u, b < N → (H a i b u ↔ H a (i + 1) b u) := fun z b u hb => by
        constructor
        · rintro ⟨x, x1, x2, x3, x4, x5⟩; exact ⟨x, x1, x2, x3, x4, by omega⟩
        · rintro ⟨x, x1, x2, x3, x4, x5⟩
          refine ⟨x, x1, x2, x3, x4, ?_⟩
          by_cases w : x = a ∧ b = i
          · obtain ⟨rfl, rfl⟩ := w
            exact absurd ⟨fun y => x2 y.symm, x3⟩ z
          · omega
      by_cases q : a = i
      · rw [if_pos (by rw [q])]
        exact ⟨s, Jc _ _ _ _ s (nochange (fun z => z.1 q.symm)) hs, rfl⟩
      · rw [if_neg (fun z => q ((nI_eq (by omega) (by omega)).mp z))]
        have hp := pand_eq e (a := a) (b := i) (by omega) (by omega)
        by_cases q2 : bt e (pix a i) = true
        · have had : adj e i a := (adj_comm (by omega) (by omega) q).mp q2
          rw [if_neg (fun z => by have := hp.mp z; rw [q2] at this; cases this), ck_t (inb_t (by omega) (by decide)), ck_t (inb_t (by omega) (by decide)), ck_t (inb_t (by omega) (by decide)), ck_t (inb_t (by omega) (by decide)), ck_t (inb_t (by omega) (by decide)), ck_t (inb_t (by omega) (by decide)), ck_t (inb_t (by omega) (by decide)), nI_clamp (by omega)]
          have hHn : ∀ u, H a (i + 1) i u ↔ H a i i u ∨ u = ch a := fun u => by
            constructor
            · rintro ⟨x, x1, x2, x3, x4, x5⟩
              by_cases w : x = a
              · subst w; exact Or.inr x4.symm
              · exact Or.inl ⟨x, x1, x2, x3, x4, by omega⟩
            · rintro (⟨x, x1, x2, x3, x4, x5⟩ | w)
              · exact ⟨x, x1, x2, x3, x4, by omega⟩
              · exact ⟨a, ha, q, had, w.symm, by omega⟩
          have hHo : ∀ b u, b ≠ i → (H a (i + 1) b u ↔ H a i b u) := fun b u hb => by
            constructor
            · rintro ⟨x, x1, x2, x3, x4, x5⟩; exact ⟨x, x1, x2, x3, x4, by omega⟩
            · rintro ⟨x, x1, x2, x3, x4, x5⟩; exact ⟨x, x1, x2, x3, x4, by omega⟩
          obtain ⟨i1, i2⟩ := hs i hi
          by_cases q3 : bt (s.1 i) (ch a) = true
          · rw [if_neg (fun z => by have := (sh1_0 _ (by omega)).mp z; rw [q3] at this; cases this)]
            have hold := (i1 (ch a) (by omega)).mp q3
            refine ⟨s, fun b hb => ?_, rfl⟩
            by_cases w : b = i
            · subst w
              refine ⟨fun u hu => ?_, fun u hu => ?_⟩
              · rw [i1 u hu, hHn u]
                constructor
                · rintro (y | y)
                  · exact Or.inl y
                  · exact Or.inr (Or.inl y)
                · rintro (y | (y | y))
                  · exact Or.inl y
                  · exact Or.inr y
                  · rw [y]; exact hold
              · refine ⟨fun w1 w2 => ?_, fun w => ?_⟩
                · rcases (hHn u).mp w2 with y | y
                  · exact (i2 u hu).1 w1 y
                  · rw [y] at w1
                    rcases hold with y2 | y2
                    · rw [w1] at y2; cases y2
                    · rw [← y] at y2; exact (i2 u hu).1 (by rw [y]; exact w1) y2
                · refine (i2 u hu).2 ?_
                  rcases w with w | w
                  · exact Or.inl w
                  · exact Or.inr (fun z => w ((hHn u).mpr (Or.inl z)))
            · have := hs b hb
              refine ⟨fun u hu => by rw [this.1 u hu, hHo b u w], fun u hu => ⟨fun w1 w2 => (this.2 u hu).1 w1 ((hHo b u w).mp w2), fun y => (this.2 u hu).2 ?_⟩⟩
              rcases y with y | y
              · exact Or.inl y
              · exact Or.inr (fun z => y ((hHo b u w).mpr z))
          · have q4 : bt (s.1 i) (ch a) = false := ts_nt' q3
            rw [if_pos ((sh1_0 _ (by omega)).mpr q4)]
            have hn1 : bt (Tk i) (ch a) = false := ts_nt' (fun z => q3 ((i1 (ch a) (by omega)).mpr (Or.inl z)))
            have hn2 : ¬ H a i i (ch a) := fun z => q3 ((i1 (ch a) (by omega)).mpr (Or.inr z))
            refine ⟨(upd s.1 i (s.1 i ||| bit (ch a)), upd s.2 (8 * i + ch a) st), fun b hb => ?_, rfl⟩
            show (∀ u, u < 32 → (bt (upd s.1 i (s.1 i ||| bit (ch a)) b) u = true ↔ bt (Tk b) u = true ∨ H a (i + 1) b u)) ∧ ∀ u, u < 8 → (bt (Tk b) u = false → H a (i + 1) b u → upd s.2 (8 * i + ch a) st (8 * b + u) = st) ∧ ((bt (Tk b) u = true ∨ ¬ H a (i + 1) b u) → upd s.2 (8 * i + ch a) st (8 * b + u) = Tl (8 * b + u))
            by_cases w : b = i
            · subst w
              refine ⟨fun u hu => ?_, fun u hu => ?_⟩
              · rw [upd_same, b_or, Bool.or_eq_true, i1 u hu, hHn u, bt_bit (by omega) u hu, decide_eq_true_eq, or_assoc]
              · by_cases y : u = ch a
                · subst y
                  rw [upd_same]
                  refine ⟨fun _ _ => rfl, fun y => ?_⟩
                  rcases y with y | y
                  · rw [hn1] at y; cases y
                  · exact absurd ((hHn (ch a)).mpr (Or.inr rfl)) y
                · rw [upd_ne _ _ (by omega)]
                  refine ⟨fun w1 w2 => ?_, fun w => (i2 u hu).2 ?_⟩
                  · rcases (hHn u).mp w2 with y2 | y2
                    · exact (i2 u hu).1 w1 y2
                    · exact absurd y2 y
                  · rcases w with w | w
                    · exact Or.inl w
                    · exact Or.inr (fun z => w ((hHn u).mpr (Or.inl z)))
            · rw [upd_ne _ _ w]
              have := hs b hb
              refine ⟨fun u hu => by rw [this.1 u hu, hHo b u w], fun u hu => ?_⟩
              rw [upd_ne _ _ (by omega)]
              refine ⟨fun w1 w2 => (this.2 u hu).1 w1 ((hHo b u w).mp w2), fun y => (this.2 u hu).2 ?_⟩
              rcases y with y | y
              · exact Or.inl y
              · exact Or.inr (fun z => y ((hHo b u w).mpr z))
        · rw [if_pos (hp.mpr (ts_nt' q2))]
          exact ⟨s, Jc _ _ _ _ s (nochange (fun z => q2 ((adj_comm (by omega) (by omega) (fun y => q y.symm)).mp z.2))) hs, rfl⟩
    · show fX10_talks_l77 kk st e (nI a) t Ts C (n + 1) (nI N) s.1 s.2 = _
      rw [fX10_talks_l77, a6, if_pos (nI_le (Nat.le_refl N) (by omega)), nI_1]
  have g0 : ∀ (n a : Nat) (s : (Nat → Int32) × (Nat → Int32)), a < N → J a 0 s → ∃ s' : (Nat → Int32) × (Nat → Int32), J (a + 1) 0 s' ∧ fX10_talks_l63 st e t Ts C (n + 1) (nI a) s.1 s.2 = fX10_talks_l63 st e t Ts C n (nI (a + 1)) s'.1 s'.2 := by
    intro n a s ha hs
    obtain ⟨s', h1, h2⟩ := hin (fX10_talks_l63 st e t Ts C n) a s ha hs
    rw [fX10_talks_l63, a6, if_neg (nI_ge ha (by omega)), h2]
    refine ⟨s', Jc _ _ _ _ s' (fun b u hb => ?_) h1, rfl⟩
    constructor
    · rintro ⟨x, x1, x2, x3, x4, x5⟩; exact ⟨x, x1, x2, x3, x4, by omega⟩
    · rintro ⟨x, x1, x2, x3, x4, x5⟩; exact ⟨x, x1, x2, x3, x4, by omega⟩
  have g1 : ∀ (n : Nat) (s : (Nat → Int32) × (Nat → Int32)), J N 0 s → fX10_talks_l63 st e t Ts C (n + 1) (nI N) s.1 s.2 = some (s.1, Ts, s.2, C) := by
    intro n s _
    rw [fX10_talks_l63, a6, if_pos (nI_le (Nat.le_refl N) (by omega))]
  have hnone : ∀ b u, ¬ H 0 0 b u := fun b u ⟨x, _, _, _, _, x5⟩ => by omega
  obtain ⟨s', hs, q⟩ := cinv (fun n a (s : (Nat → Int32) × (Nat → Int32)) => fX10_talks_l63 st e t Ts C n (nI a) s.1 s.2) N (fun a s => J a 0 s) (fun s => some (s.1, Ts, s.2, C)) g0 g1 fuel 0 (Tk, Tl) (Nat.zero_le _) (by have : fuel = 200 := rfl; omega) (fun b hb => ⟨fun u hu => ⟨Or.inl, fun w => w.elim id (fun z => absurd z (hnone b u))⟩, fun u hu => ⟨fun _ w => absurd w (hnone b u), fun _ => rfl⟩⟩)
  have hall : ∀ b u, H N 0 b u ↔ hrd e N ch b u := fun b u => by
    constructor
    · rintro ⟨x, x1, x2, x3, x4, x5⟩; exact ⟨x, x1, x2, x3, x4⟩
    · rintro ⟨x, x1, x2, x3, x4⟩; exact ⟨x, x1, x2, x3, x4, by omega⟩
  refine ⟨s'.1, s'.2, q, fun b hb => ⟨fun u hu => ?_, fun u hu => ⟨fun w1 w2 => ?_, fun w => ?_⟩⟩⟩
  · rw [(hs b hb).1 u hu, hall]
  · exact ((hs b hb).2 u hu).1 w1 ((hall b u).mpr w2)
  · refine ((hs b hb).2 u hu).2 ?_
    rcases w with w | w
    · exact Or.inl w
    · exact Or.inr (fun z => w ((hall b u).mp z))
end GO
