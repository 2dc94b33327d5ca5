/-! ===== gossip: a step, the answers ===== -/
section GP
variable {N r : Nat} {re va : Nat → Int32} {no ro : Int32} {t : Nat → Int32}
theorem GN_step {st b : Nat} (hN : N ≤ 8) (hb : b < N) {e : Int32} {ch : Nat → Nat} (hch : ∀ a, a < N → ch a < N) {gk gs gn tk ts gk' gn' tk' : Int32} {Tl Tl' : Nat → Int32} (gs' : Int32) (hG : GN N st b gk gs gn tk ts Tl) (hL : LK e N ch b gk gn gk' gn') (hT1 : ∀ u, u < 32 → (bt tk' u = true ↔ bt tk u = true ∨ hrd e N ch b u)) (hst : st < 1000) (hT2 : ∀ u, u < 8 → (bt tk u = false → hrd e N ch b u → Tl' (8 * b + u) = nI st) ∧ ((bt tk u = true ∨ ¬ hrd e N ch b u) → Tl' (8 * b + u) = Tl (8 * b + u))) : GN N (st + 1) b gk' gs' gn' tk' gs' Tl' := by
  obtain ⟨e1, e2, e3, e4, m, m1, m2, m3, m4⟩ := hG
  subst e1
  obtain ⟨l1, l2⟩ := hL
  have hlt : ∀ u, hrd e N ch b u → u < N := fun u ⟨x, x1, _, _, x4⟩ => by have := hch x x1; omega
  have est : (nI st).toInt = (st : Int) := nI_toInt (by omega)
  refine ⟨bt_ext (fun u hu => by rw [l1 u hu, hT1 u hu]), rfl, (hT1 b (by omega)).mpr (Or.inl e3), fun u hu hk => ?_, ?_⟩
  · cases hq : bt gk u
    · rcases (hT1 u hu).mp hk with w | w
      · rw [hq] at w; cases w
      · have := hlt u w
        rw [(hT2 u (by omega)).1 hq w, est]
        exact ⟨this, by omega⟩
    · have := e4 u hu hq
      rw [(hT2 u (by omega)).2 (Or.inl hq)]
      exact ⟨this.1, by omega⟩
  · rcases l2 with ⟨n1, n2⟩ | ⟨k, k1, k2, k3, k4, k5⟩
    · refine ⟨m, m1, by rw [n2, m2], (hT1 m (by omega)).mpr (Or.inl m3), fun c hc hk => ?_⟩
      have hck : bt gk c = true := by
        rcases (hT1 c (by omega)).mp hk with w | w
        · exact w
        · exact n1 c (by omega) w
      have := m4 c hc hck
      unfold lx at *
      rw [(hT2 c (by omega)).2 (Or.inl hck), (hT2 m (by omega)).2 (Or.inl m3)]
      exact this
    · refine ⟨k, k1, k2, (hT1 k (by omega)).mpr (Or.inr k3), fun c hc hk => ?_⟩
      unfold lx
      rw [(hT2 k (by omega)).1 k4 k3, est]
      cases hq : bt gk c
      · rcases (hT1 c (by omega)).mp hk with w | w
        · rw [hq] at w; cases w
        · rw [(hT2 c (by omega)).1 hq w, est]
          exact Or.inr ⟨rfl, k5 c (by omega) w hq⟩
      · rw [(hT2 c (by omega)).2 (Or.inl hq)]
        exact Or.inl (e4 c (by omega) hq).2
theorem gstep (h : SRn N r re va no ro t) {ρ st : Nat} (hρ : ρ < 3) (hst : st < 1000) {Gk Gs Gn Tk Ts Tl : Nat → Int32} (Gc Tc : Nat → Int32) (hG : GS N st Gk Gs Gn Tk Ts Tl) : ∃ Gk' Gs' Gn' Gc' Tk' Ts' Tl' Tc', fX4_advance Gk Gs Gn Gc (nI ρ) (nI st) re no ro = some (Gk', Gs', Gn', Gc', nI (st + 1)) ∧ fX10_talks (nI ρ) (nI st) t Tk Ts Tl Tc = some (Tk', Ts', Tl', Tc') ∧ GS N (st + 1) Gk' Gs' Gn' Tk' Ts' Tl' := by
  obtain ⟨a1, a2, a3, a4, a5, a6, a7, a8, a9⟩ := id h
  have en : fX7_nodes no = nI N := a4
  unfold fX4_advance fX10_talks
  rw [edgesAt_eq h (by omega), bd_s]
  have he := edgesAtStep_eq h (s := st) (by omega)
  generalize eAt re r st = e at he
  let I : Nat → (Nat → Int32) × (Nat → Int32) → (Nat → Int32) × (Nat → Int32) → Prop := fun i s u => (∀ a, a < i → s.1 a = u.1 a ∧ s.2 a = u.2 a ∧ ∃ m, m < N ∧ u.2 a = nI m) ∧ ∀ a, i ≤ a → s.1 a = Gs a ∧ u.1 a = Ts a
  have g0 : ∀ (n i : Nat) (s u : (Nat → Int32) × (Nat → Int32)), i < N → I i s u → ∃ s' u' : (Nat → Int32) × (Nat → Int32), I (i + 1) s' u' ∧ fX4_advance_l2 Gk Gn (nI ρ) (nI st) re no ro (n + 1) (nI i) s.1 s.2 = fX4_advance_l2 Gk Gn (nI ρ) (nI st) re no ro n (nI (i + 1)) s'.1 s'.2 ∧ fX10_talks_l9 (nI ρ) (nI st) e t Tk Tl (n + 1) (nI i) u.1 u.2 = fX10_talks_l9 (nI ρ) (nI st) e t Tk Tl n (nI (i + 1)) u'.1 u'.2 := by
    intro n i s u hi ⟨h1, h2⟩
    have hg := hG i hi
    have hs := h2 i (Nat.le_refl i)
    rw [← hs.1, ← hs.2] at hg
    obtain ⟨m, m1, m2, m3⟩ := choice_both h hρ hst hi (Gk := Gk) (Gs := s.1) (Gn := Gn) (Tk := Tk) (Ts := u.1) (Tl := Tl) hg
    have hin : inb (nI i) 8 = true := inb_t (by omega) (by decide)
    rw [fX4_advance_l2, fX10_talks_l9, en, a6, if_neg (nI_ge hi (by omega)), if_neg (nI_ge hi (by omega)), m2, m3, bd_s, bd_s, ck_t hin, ck_t hin, ck_t hin, ck_t hin, ck_t hin, ck_t hin, ck_t hin, ck_t hin, nI_clamp (by omega), nI_1, upd_same, upd_same, of_eq]
    refine ⟨(upd s.1 i (s.1 i ||| bit m), upd s.2 i (nI m)), (upd u.1 i (u.1 i ||| bit m), upd u.2 i (nI m)), ⟨fun a ha => ?_, fun a ha => ?_⟩, rfl, rfl⟩
    · show upd s.1 i (s.1 i ||| bit m) a = upd u.1 i (u.1 i ||| bit m) a ∧ upd s.2 i (nI m) a = upd u.2 i (nI m) a ∧ ∃ k, k < N ∧ upd u.2 i (nI m) a = nI k
      by_cases z : a = i
      · subst z
        rw [upd_same, upd_same, upd_same, upd_same]
        exact ⟨by rw [hg.2.1], rfl, m, m1, rfl⟩
      · rw [upd_ne _ _ z, upd_ne _ _ z, upd_ne _ _ z, upd_ne _ _ z]
        exact h1 a (by omega)
    · show upd s.1 i (s.1 i ||| bit m) a = Gs a ∧ upd u.1 i (u.1 i ||| bit m) a = Ts a
      rw [upd_ne _ _ (by omega), upd_ne _ _ (by omega)]
      exact h2 a (by omega)
  have g1 : ∀ (n : Nat) (s u : (Nat → Int32) × (Nat → Int32)), I N s u → fX4_advance_l2 Gk Gn (nI ρ) (nI st) re no ro (n + 1) (nI N) s.1 s.2 = fX4_advance_l62 e s.1 s.2 (nI st) no fuel 0 Gk Gn ∧ fX10_talks_l9 (nI ρ) (nI st) e t Tk Tl (n + 1) (nI N) u.1 u.2 = fX10_talks_l63 (nI st) e t u.1 u.2 fuel 0 Tk Tl := by
    intro n s u _
    rw [fX4_advance_l2, fX10_talks_l9, en, a6, if_pos (nI_le (Nat.le_refl N) (by omega)), if_pos (nI_le (Nat.le_refl N) (by omega)), he, bd_s]
    exact ⟨rfl, rfl⟩
  obtain ⟨s, u, hI, q1, q2⟩ := cinv2 (fun n i (s : (Nat → Int32) × (Nat → Int32)) => fX4_advance_l2 Gk Gn (nI ρ) (nI st) re no ro n (nI i) s.1 s.2) (fun n i (u : (Nat → Int32) × (Nat → Int32)) => fX10_talks_l9 (nI ρ) (nI st) e t Tk Tl n (nI i) u.1 u.2) N I (fun s => fX4_advance_l62 e s.1 s.2 (nI st) no fuel 0 Gk Gn) (fun u => fX10_talks_l63 (nI st) e t u.1 u.2 fuel 0 Tk Tl) g0 g1 fuel 0 (Gs, Gc) (Ts, Tc) (Nat.zero_le _) (by have : fuel = 200 := rfl; omega) ⟨fun a ha => by omega, fun a _ => ⟨rfl, rfl⟩⟩
  have hch : ∀ a, a < N → u.2 a = nI ((u.2 a).toNatClampNeg) ∧ (u.2 a).toNatClampNeg < N := fun a ha => by
    obtain ⟨_, _, m, m1, m2⟩ := hI.1 a ha
    rw [m2, nI_clamp (by omega)]
    exact ⟨rfl, m1⟩
  have hch2 : ∀ a, a < N → s.2 a = nI ((u.2 a).toNatClampNeg) ∧ (u.2 a).toNatClampNeg < N := fun a ha => by
    rw [(hI.1 a ha).2.1]
    exact hch a ha
  obtain ⟨Gk', Gn', c1, c2⟩ := hears_eq h e hch2 s.1 (nI st) Gk Gn
  obtain ⟨Tk', Tl', d1, d2⟩ := talk_eq h e hch u.1 (nI st) Tk Tl
  dsimp only at q1 q2
  rw [c1, nI_1] at q1
  rw [d1] at q2
  refine ⟨Gk', s.1, Gn', s.2, Tk', u.1, Tl', u.2, q1, q2, fun b hb => ?_⟩
  have := GN_step a2 hb (fun a ha => (hch a ha).2) (s.1 b) (hG b hb) (c2 b hb) (d2 b hb).1 hst (d2 b hb).2
  rw [← (hI.1 b hb).1]
  exact this
theorem gbegin_eq (x : Int32) (Gk Gs Gn : Nat → Int32) (y z : Int32) : fX4_begin x Gk Gs Gn y z = some (fb_put Gk bit 0 8, fb_put Gs (fun _ => 0) 0 8, fb_put Gn nI 0 8, x, 0) := by
  unfold fX4_begin
  have g0 : ∀ (n i : Nat) (s : (Nat → Int32) × (Nat → Int32) × (Nat → Int32)), i < 8 → (s = (fb_put Gk bit 0 i, fb_put Gs (fun _ => 0) 0 i, fb_put Gn nI 0 i)) → ∃ s' : (Nat → Int32) × (Nat → Int32) × (Nat → Int32), (s' = (fb_put Gk bit 0 (i + 1), fb_put Gs (fun _ => 0) 0 (i + 1), fb_put Gn nI 0 (i + 1))) ∧ fX4_begin_l12 x 0 (n + 1) (nI i) s.1 s.2.1 s.2.2 = fX4_begin_l12 x 0 n (nI (i + 1)) s'.1 s'.2.1 s'.2.2 := by
    intro n i s hi hs
    have hin : inb (nI i) 8 = true := inb_t (by omega) (by decide)
    refine ⟨_, rfl, ?_⟩
    rw [fX4_begin_l12, if_neg (show ¬ (8 : Int32) ≤ nI i from nI_ge (b := 8) hi (by decide)), ck_t hin, ck_t hin, ck_t hin, nI_clamp (by omega), nI_1, of_eq, hs]
    dsimp only
    rw [← fb_put_succ Gk bit 0 i, ← fb_put_succ Gs (fun _ => 0) 0 i, ← fb_put_succ Gn nI 0 i, Nat.zero_add]
  have g1 : ∀ (n : Nat) (s : (Nat → Int32) × (Nat → Int32) × (Nat → Int32)), (s = (fb_put Gk bit 0 8, fb_put Gs (fun _ => 0) 0 8, fb_put Gn nI 0 8)) → fX4_begin_l12 x 0 (n + 1) (nI 8) s.1 s.2.1 s.2.2 = some (s.1, s.2.1, s.2.2, x, 0) := by
    intro n s _
    rw [fX4_begin_l12, if_pos (show (8 : Int32) ≤ nI 8 by decide)]
  obtain ⟨s', hs, q⟩ := cinv (fun n i (s : (Nat → Int32) × (Nat → Int32) × (Nat → Int32)) => fX4_begin_l12 x 0 n (nI i) s.1 s.2.1 s.2.2) 8 (fun i s => s = (fb_put Gk bit 0 i, fb_put Gs (fun _ => 0) 0 i, fb_put Gn nI 0 i)) (fun s => some (s.1, s.2.1, s.2.2, x, 0)) g0 g1 fuel 0 (Gk, Gs, Gn) (Nat.zero_le _) (by decide) (by rw [fb_put_0, fb_put_0, fb_put_0])
  rw [hs] at q
  exact q
theorem starts_eq (Tk Ts Tl : Nat → Int32) : ∃ Ts' Tl', fX10_starts Tk Ts Tl = some (fb_put Tk bit 0 8, Ts', Tl') ∧ (∀ a, a < 8 → Ts' a = 0) ∧ ∀ a, a < 8 → Tl' (9 * a) = -1 := by
  unfold fX10_starts
  rw [alone_eq, bd_s]
  have g0 : ∀ (n i : Nat) (s : (Nat → Int32) × (Nat → Int32)), i < 8 → ((∀ a, a < i → s.1 a = 0) ∧ ∀ a, a < i → s.2 (9 * a) = -1) → ∃ s' : (Nat → Int32) × (Nat → Int32), ((∀ a, a < i + 1 → s'.1 a = 0) ∧ ∀ a, a < i + 1 → s'.2 (9 * a) = -1) ∧ fX10_starts_l6 (fb_put Tk bit 0 8) (n + 1) (nI i) s.1 s.2 = fX10_starts_l6 (fb_put Tk bit 0 8) n (nI (i + 1)) s'.1 s'.2 := by
    intro n i s hi ⟨h1, h2⟩
    have e9 : (9 : Int32) * nI i = nI (9 * i) := pk_mul 9 i
    rw [fX10_starts_l6, if_neg (show ¬ (8 : Int32) ≤ nI i from nI_ge (b := 8) hi (by decide)), e9, ck_t (inb_t (by omega) (by decide)), ck_t (inb_t (by omega) (by decide)), nI_clamp (by omega), nI_clamp (by omega), nI_1]
    refine ⟨(upd s.1 i 0, upd s.2 (9 * i) (-1)), ⟨fun a ha => ?_, fun a ha => ?_⟩, rfl⟩
    · show upd s.1 i 0 a = 0
      by_cases z : a = i
      · subst z; rw [upd_same]
      · rw [upd_ne _ _ z]; exact h1 a (by omega)
    · show upd s.2 (9 * i) (-1) (9 * a) = -1
      by_cases z : a = i
      · subst z; rw [upd_same]
      · rw [upd_ne _ _ (by omega)]; exact h2 a (by omega)
  have g1 : ∀ (n : Nat) (s : (Nat → Int32) × (Nat → Int32)), ((∀ a, a < 8 → s.1 a = 0) ∧ ∀ a, a < 8 → s.2 (9 * a) = -1) → fX10_starts_l6 (fb_put Tk bit 0 8) (n + 1) (nI 8) s.1 s.2 = some (fb_put Tk bit 0 8, s.1, s.2) := by
    intro n s _
    rw [fX10_starts_l6, if_pos (show (8 : Int32) ≤ nI 8 by decide)]
  obtain ⟨s', hs, q⟩ := cinv (fun n i (s : (Nat → Int32) × (Nat → Int32)) => fX10_starts_l6 (fb_put Tk bit 0 8) n (nI i) s.1 s.2) 8 (fun i s => (∀ a, a < i → s.1 a = 0) ∧ ∀ a, a < i → s.2 (9 * a) = -1) (fun s => some (fb_put Tk bit 0 8, s.1, s.2)) g0 g1 fuel 0 (Ts, Tl) (Nat.zero_le _) (by decide) ⟨fun a ha => by omega, fun a ha => by omega⟩
  exact ⟨s'.1, s'.2, q, hs.1, hs.2⟩
theorem GS_begin (hN : N ≤ 8) (Gk Gs Gn Tk : Nat → Int32) {Ts Tl : Nat → Int32} (h1 : ∀ a, a < 8 → Ts a = 0) (h2 : ∀ a, a < 8 → Tl (9 * a) = -1) : GS N 0 (fb_put Gk bit 0 8) (fb_put Gs (fun _ => 0) 0 8) (fb_put Gn nI 0 8) (fb_put Tk bit 0 8) Ts Tl := by
  intro a ha
  rw [fb_put_in (Nat.zero_le _) (by omega), fb_put_in (Nat.zero_le _) (by omega), fb_put_in (Nat.zero_le _) (by omega), fb_put_in (Nat.zero_le _) (by omega), Nat.sub_zero]
  have hu : ∀ u, u < 32 → bt (bit a) u = true → u = a := fun u hu z => by
    rw [bt_bit (by omega) u hu] at z
    exact of_decide_eq_true z
  refine ⟨rfl, (h1 a (by omega)).symm, bit_self (by omega), fun u hu' z => ?_, a, ha, rfl, bit_self (by omega), fun c hc z => ?_⟩
  · have := hu u hu' z
    subst this
    refine ⟨ha, ?_⟩
    rw [show 8 * u + u = 9 * u by omega, h2 u (by omega)]
    decide
  · have := hu c (by omega) z
    subst this
    exact lx_refl
theorem isRule_eq (x : Int32) : fX9_isRule x = ndx 3 x := by
  have e : fX9_isRule x = fX10_in x (nI 0) (nI 2) := rfl
  rw [e, in_rng x (by decide) (by decide)]
  unfold ndx
  congr 1
  exact propext ⟨fun z => ⟨z.1, by have := z.2; omega⟩, fun z => ⟨z.1, by have := z.2; omega⟩⟩
theorem inRule_eq (x : Int32) : fX10_in x 0 2 = ndx 3 x := isRule_eq x
theorem sim_gossip (hS : SR re va no ro t) (x y z : Int32) (Gk Gs Gn Gc : Nat → Int32) (Gr Gt : Int32) (Tk Ts Tl Tc : Nat → Int32) : ∃ o9 o10, fX9_gossip x y z re no ro Gk Gs Gn Gc Gr Gt = some o9 ∧ fX10_gossip x y z t Tk Ts Tl Tc = some o10 ∧ o9.1 = o10.1 := by
  obtain ⟨N, r, h⟩ := id hS
  have hN := h.2.1
  unfold fX9_gossip fX10_gossip
  rw [isRule_eq, inRule_eq, hasNode_eq h, isNode_eq h, isStep_eq, isTime_eq, if_b, if_b, if_b, if_b, if_b, if_b]
  by_cases q : ndx 3 x = true
  · by_cases q2 : ndx N y = true
    · by_cases q3 : ndx 100 z = true
      · rw [if_pos q, if_pos q, if_pos q2, if_pos q2, if_pos q3, if_pos q3]
        obtain ⟨ρ, hρ, rfl⟩ := ndx_of q (by omega)
        obtain ⟨a, ha, rfl⟩ := ndx_of q2 (by omega)
        obtain ⟨m, hm, rfl⟩ := ndx_of q3 (by omega)
        obtain ⟨Ts', Tl', p1, p2, p3⟩ := starts_eq Tk Ts Tl
        rw [gbegin_eq, bd_s, p1, bd_s]
        dsimp only
        have key : ∀ (n i : Nat) (Gk Gs Gn Gc Tk Ts Tl Tc : Nat → Int32), i ≤ m → m < n + i → GS N i Gk Gs Gn Tk Ts Tl → ∃ o9 o10, fX9_gossip_l38 (nI a) (nI m) re no ro (nI ρ) n (nI i) Gk Gs Gn Gc (nI i) = some o9 ∧ fX10_gossip_l33 (nI ρ) (nI a) (nI m) t n (nI i) Tk Ts Tl Tc = some o10 ∧ o9.1 = o10.1 := by
          intro n
          induction n with
          | zero => intro i _ _ _ _ _ _ _ _ h1 h2; omega
          | succ n ih =>
            intro i Gk Gs Gn Gc Tk Ts Tl Tc h1 h2 hG
            rw [fX9_gossip_l38, fX10_gossip_l33]
            rcases Nat.lt_or_ge i m with w | w
            · obtain ⟨Gk', Gs', Gn', Gc', Tk', Ts', Tl', Tc', c1, c2, c3⟩ := gstep h hρ (by omega) Gc Tc hG
              rw [if_neg (nI_ge w (by omega)), if_neg (nI_ge w (by omega)), c1, c2, bd_s, bd_s, nI_1]
              exact ih (i + 1) _ _ _ _ _ _ _ _ w (by omega) c3
            · have e1 : fX4_tokensOf (nI a) Gk no = some (Gk a) := tokensOf_eq h Gk ha
              rw [if_pos (nI_le w (by omega)), if_pos (nI_le w (by omega)), e1, bd_s, ck_t (inb_t (by omega) (by decide)), nI_clamp (by omega)]
              exact ⟨_, _, rfl, rfl, (hG a ha).1⟩
        exact key fuel 0 _ _ _ _ _ _ _ _ (Nat.zero_le _) (by have : fuel = 200 := rfl; omega) (GS_begin hN Gk Gs Gn Tk p2 p3)
      · rw [if_pos q, if_pos q, if_pos q2, if_pos q2, if_neg q3, if_neg q3]; exact ⟨_, _, rfl, rfl, rfl⟩
    · rw [if_pos q, if_pos q, if_neg q2, if_neg q2]; exact ⟨_, _, rfl, rfl, rfl⟩
  · rw [if_neg q, if_neg q]; exact ⟨_, _, rfl, rfl, rfl⟩
/-- all know all -/
def aka (K : Nat → Int32) (N i : Nat) : Bool := decide (∀ a, a < i → K a = fX6_firstOnes (nI N))
theorem allKnowAll_eq (h : SRn N r re va no ro t) (K : Nat → Int32) : fX4_allKnowAll K no = some (aka K N N) := by
  obtain ⟨a1, a2, a3, a4, a5, a6, a7, a8, a9⟩ := id h
  have e : fX7_nodes no = nI N := a4
  unfold fX4_allKnowAll
  have key : ∀ (n i : Nat), i ≤ N → N < n + i → (∀ a, a < i → K a = fX6_firstOnes (nI N)) → fX4_allKnowAll_l2 K no n (nI i) = some (aka K N N) := by
    intro n
    induction n with
    | zero => intro i h1 h2; omega
    | succ n ih =>
      intro i h1 h2 hs
      rw [fX4_allKnowAll_l2, e]
      rcases Nat.lt_or_ge i N with q | q
      · rw [if_neg (nI_ge q (by omega)), ck_t (inb_t (by omega) (by decide)), nI_clamp (by omega), nI_1]
        by_cases z : K i = fX6_firstOnes (nI N)
        · rw [if_pos z]
          refine ih (i + 1) q (by omega) (fun a ha => ?_)
          by_cases w : a = i
          · subst w; exact z
          · exact hs a (by omega)
        · rw [if_neg z]
          have : aka K N N = false := decide_eq_false (fun w => z (w i q))
          rw [this]
      · rw [if_pos (nI_le q (by omega))]
        have : aka K N N = true := decide_eq_true (fun a ha => hs a (by omega))
        rw [this]
  exact key fuel 0 (by omega) (by have : fuel = 200 := rfl; omega) (fun a ha => by omega)
theorem allKnow_eq (h : SRn N r re va no ro t) (K : Nat → Int32) : fX10_allKnow t K = some (aka K N N) := by
  obtain ⟨a1, a2, a3, a4, a5, a6, a7, a8, a9⟩ := id h
  unfold fX10_allKnow
  have g0 : ∀ (n i : Nat) (s : Int32), i < N → s = b2i (aka K N i) → ∃ s', s' = b2i (aka K N (i + 1)) ∧ fX10_allKnow_l4 t K (n + 1) s (nI i) = fX10_allKnow_l4 t K n s' (nI (i + 1)) := by
    intro n i s hi hs
    refine ⟨_, rfl, ?_⟩
    rw [fX10_allKnow_l4, all_eq h, a6, if_neg (nI_ge hi (by omega)), ck_t (inb_t (by omega) (by decide)), nI_clamp (by omega), nI_1, hs]
    by_cases z : ∀ a, a < i → K a = fX6_firstOnes (nI N)
    · have d1 : aka K N i = true := decide_eq_true z
      rw [d1, if_neg (by decide)]
      by_cases w : K i = fX6_firstOnes (nI N)
      · have d2 : aka K N (i + 1) = true := decide_eq_true (fun a ha => by
          by_cases y : a = i
          · subst y; exact w
          · exact z a (by omega))
        rw [if_pos w, d2]; rfl
      · have d2 : aka K N (i + 1) = false := decide_eq_false (fun y => w (y i (by omega)))
        rw [if_neg w, d2]; rfl
    · have d1 : aka K N i = false := decide_eq_false z
      have d2 : aka K N (i + 1) = false := decide_eq_false (fun y => z (fun a ha => y a (by omega)))
      rw [d1, d2, if_pos b2i_f]; rfl
  have g1 : ∀ (n : Nat) (s : Int32), s = b2i (aka K N N) → fX10_allKnow_l4 t K (n + 1) s (nI N) = some (aka K N N) := by
    intro n s hs
    rw [fX10_allKnow_l4, a6, if_pos (nI_le (Nat.le_refl N) (by omega)), hs, ck_t (isb_b _), i2b_b]
  obtain ⟨s', hs, q⟩ := cinv (fun n i s => fX10_allKnow_l4 t K n s (nI i)) N (fun i s => s = b2i (aka K N i)) (fun _ => some (aka K N N)) g0 g1 fuel 0 1 (Nat.zero_le _) (by have : fuel = 200 := rfl; omega) (by
    have d1 : aka K N 0 = true := decide_eq_true (fun a ha => by omega)
    rw [d1]; rfl)
  exact q
theorem sim_gossipTime (hS : SR re va no ro t) (x : Int32) (Gk Gs Gn Gc : Nat → Int32) (Gr Gt : Int32) (Tk Ts Tl Tc : Nat → Int32) : ∃ o9 o10, fX9_gossipTime x re no ro Gk Gs Gn Gc Gr Gt = some o9 ∧ fX10_gossipTime x t Tk Ts Tl Tc = some o10 ∧ o9.1 = o10.1 := by
  obtain ⟨N, r, h⟩ := id hS
  have hN := h.2.1
  unfold fX9_gossipTime fX10_gossipTime
  rw [isRule_eq, inRule_eq, if_b, if_b]
  by_cases q : ndx 3 x = true
  · rw [if_pos q, if_pos q]
    obtain ⟨ρ, hρ, rfl⟩ := ndx_of q (by omega)
    obtain ⟨Ts', Tl', p1, p2, p3⟩ := starts_eq Tk Ts Tl
    rw [gbegin_eq, bd_s, p1, bd_s]
    dsimp only
    have key : ∀ (n i : Nat) (Gk Gs Gn Gc Tk Ts Tl Tc : Nat → Int32), i ≤ 100 → 100 < n + i → GS N i Gk Gs Gn Tk Ts Tl → ∃ o9 o10, fX9_gossipTime_l19 re no ro (nI ρ) n (nI i) Gk Gs Gn Gc (nI i) = some o9 ∧ fX10_gossipTime_l17 (nI ρ) t n (nI i) Tk Ts Tl Tc = some o10 ∧ o9.1 = o10.1 := by
      intro n
      induction n with
      | zero => intro i _ _ _ _ _ _ _ _ h1 h2; omega
      | succ n ih =>
        intro i Gk Gs Gn Gc Tk Ts Tl Tc h1 h2 hG
        rw [fX9_gossipTime_l19, fX10_gossipTime_l17]
        unfold fX10_gossipTime_b42
        rcases Nat.lt_or_ge i 100 with w | w
        · have e1 : ¬ (99 : Int32) < nI i := nI_nlt (a := 99) (by omega) (by decide)
          have ek : aka Gk N N = aka Tk N N := by
            unfold aka
            refine bool_iff ?_
            rw [decide_eq_true_eq, decide_eq_true_eq]
            constructor
            · exact fun z a ha => by rw [← (hG a ha).1]; exact z a ha
            · exact fun z a ha => by rw [(hG a ha).1]; exact z a ha
          rw [if_neg e1, if_neg e1, if_neg e1, allKnowAll_eq h, allKnow_eq h, bd_s, bd_s, ek, if_b, if_b]
          by_cases z : aka Tk N N = true
          · rw [if_pos z, if_pos z]; exact ⟨_, _, rfl, rfl, rfl⟩
          · obtain ⟨Gk', Gs', Gn', Gc', Tk', Ts', Tl', Tc', c1, c2, c3⟩ := gstep h hρ (by omega) Gc Tc hG
            rw [if_neg z, if_neg z, c1, c2, bd_s, bd_s, nI_1]
            exact ih (i + 1) _ _ _ _ _ _ _ _ w (by omega) c3
        · have e1 : (99 : Int32) < nI i := nI_lt (a := 99) (by omega) (by omega)
          rw [if_pos e1, if_pos e1, if_pos e1]
          exact ⟨_, _, rfl, rfl, rfl⟩
    exact key fuel 0 _ _ _ _ _ _ _ _ (Nat.zero_le _) (by have : fuel = 200 := rfl; omega) (GS_begin hN Gk Gs Gn Tk p2 p3)
  · rw [if_neg q, if_neg q]; exact ⟨_, _, rfl, rfl, rfl⟩
end GP
