/-! ===== a whole text ===== -/
section TXT
variable {w w2 : Wd} {X : Tx} {D : Dk} {T : Tk} {p q nd d : Nat}
theorem le_nx (hp : p ≤ X.1) : p ≤ nx X p := by
  obtain ⟨a1, -, a3, -⟩ := tk_ok hp
  show p ≤ (tk X p).2.2
  omega
theorem st_le (hp : p ≤ X.1) : (tk X p).2.1 ≤ X.1 := (tk_ok hp).2.1
/-- what a line's outcome keeps -/
def LW (X : Tx) (p : Nat) : (Nat × Nat) ⊕ (Dk × Tk × Nat) → Prop
  | .inl z => 1 ≤ z.1 ∧ z.1 ≤ 6 ∧ z.2 ≤ X.1
  | .inr z => WP z.1 z.2.1 ∧ p ≤ z.2.2 ∧ z.2.2 ≤ X.1
theorem wh_w {lo hi : Nat} (hp : p ≤ X.1) {r : (Nat × Nat) ⊕ (Nat × Nat)} (h : whS X lo hi p = r) : (∀ z, r = .inl z → 1 ≤ z.1 ∧ z.1 ≤ 6 ∧ z.2 ≤ X.1) ∧ ∀ z, r = .inr z → lo ≤ z.1 ∧ z.1 ≤ hi ∧ z.2 = nx X p := by
  subst h
  refine ⟨fun z e => ?_, fun z e => ?_⟩
  · have := st_le hp
    unfold whS at e
    by_cases c : (tk X p).1 = 2
    · rw [if_pos c] at e
      by_cases y : lo ≤ vlT X (tk X p) ∧ vlT X (tk X p) ≤ hi
      · rw [if_pos y] at e; cases e
      · rw [if_neg y] at e; cases e
        exact ⟨by simp, by simp, this⟩
    · rw [if_neg c] at e; cases e
      exact ⟨by simp, by simp, this⟩
  · obtain ⟨v, p2⟩ := z
    obtain ⟨-, a1, a2, -, a3⟩ := wh_r e
    exact ⟨a1, a2, a3⟩
theorem ad_lt {P : Pk} {v n : Nat} {s : Int32} (h : ∀ i, i < P.1 → P.2.1 i < n) (hv : v < n) : ∀ i, i < (adP P v s).1 → (adP P v s).2.1 i < n := by
  intro i hi
  show va_up P.2.1 P.1 v i < n
  by_cases c : i = P.1
  · rw [c, va_up_self]; exact hv
  · rw [va_up_ne _ _ c]
    exact h i (by have : i < P.1 + 1 := hi; omega)
theorem pr_w {ov N a on : Nat} {P : Pk} (hp : p ≤ X.1) {r : (Nat × Nat) ⊕ (Nat × Nat × Nat)} (h : prS X ov P N a on p = r) : (∀ z, r = .inl z → 1 ≤ z.1 ∧ z.1 ≤ 6 ∧ z.2 ≤ X.1) ∧ ∀ z, r = .inr z → 0 < ov ∧ P.1 < N ∧ z.1 < a ∧ (on = 1 → ∀ i, i < P.1 → P.2.1 i ≠ z.1) ∧ p ≤ z.2.2 ∧ z.2.2 ≤ X.1 := by
  have p1 := nx_le hp
  have p2 := nx_le p1
  have p3 := nx_le p2
  have l0 := le_nx hp
  have l1 := le_nx p1
  have l2 := le_nx p2
  have s0 := st_le hp
  have s1 := st_le p1
  have s2 := st_le p2
  unfold prS at h
  by_cases c1 : 0 < ov
  · rw [if_pos c1] at h
    by_cases c2 : P.1 < N
    · rw [if_pos c2] at h
      by_cases c3 : (tk X (nx X p)).1 = 2
      · rw [if_pos c3] at h
        by_cases c4 : vlT X (tk X (nx X p)) < a
        · rw [if_pos c4] at h
          by_cases c5 : on = 1 ∧ inR P.2.1 (vlT X (tk X (nx X p))) P.1 = true
          · rw [if_pos c5] at h
            subst h
            exact ⟨fun z e => by cases e; exact ⟨by simp, by simp, s1⟩, fun z e => by cases e⟩
          · rw [if_neg c5] at h
            by_cases c6 : (tk X (nx X (nx X p))).1 = 2
            · rw [if_pos c6] at h
              subst h
              refine ⟨(fun z e => by cases e), fun z e => ?_⟩
              cases e
              refine ⟨c1, c2, c4, fun o1 => inR_n (nbt (fun y => c5 ⟨o1, y⟩)), ?_, p3⟩
              show p ≤ nx X (nx X (nx X p))
              omega
            · rw [if_neg c6] at h
              subst h
              exact ⟨fun z e => by cases e; exact ⟨by simp, by simp, s2⟩, fun z e => by cases e⟩
        · rw [if_neg c4] at h
          subst h
          exact ⟨fun z e => by cases e; exact ⟨by simp, by simp, s1⟩, fun z e => by cases e⟩
      · rw [if_neg c3] at h
        subst h
        exact ⟨fun z e => by cases e; exact ⟨by simp, by simp, s1⟩, fun z e => by cases e⟩
    · rw [if_neg c2] at h
      subst h
      exact ⟨fun z e => by cases e; exact ⟨by simp, by simp, s0⟩, fun z e => by cases e⟩
  · rw [if_neg c1] at h
    subst h
    exact ⟨fun z e => by cases e; exact ⟨by simp, by simp, s0⟩, fun z e => by cases e⟩
theorem dk_w {ov : Nat} (hp : p ≤ X.1) {r : (Nat × Nat) ⊕ (Nat × Nat × Bool × Nat)} (h : dkS X ov p = r) : (∀ z, r = .inl z → 1 ≤ z.1 ∧ z.1 ≤ 6 ∧ z.2 ≤ X.1) ∧ ∀ z, r = .inr z → ¬ 0 < ov ∧ (1 ≤ z.1 ∧ z.1 ≤ 3) ∧ (2 ≤ z.2.1 ∧ z.2.1 ≤ 24) ∧ p ≤ z.2.2.2 ∧ z.2.2.2 ≤ X.1 := by
  have p1 := nx_le hp
  have p2 := nx_le p1
  have l0 := le_nx hp
  have l1 := le_nx p1
  have s0 := st_le hp
  have s1 := st_le p1
  unfold dkS at h
  by_cases c1 : 0 < ov
  · rw [if_pos c1] at h
    subst h
    exact ⟨fun z e => by cases e; exact ⟨by simp, by simp, s0⟩, fun z e => by cases e⟩
  · rw [if_neg c1] at h
    unfold dkO at h
    by_cases c2 : iwS X (tk X (nx X p)) 6 = true
    · rw [if_pos c2] at h
      cases e : whS X 1 3 (nx X (nx X p)) with
      | inl z =>
        rw [e] at h
        subst h
        exact ⟨fun y f => by cases f; exact (wh_w p2 e).1 z rfl, fun y f => by cases f⟩
      | inr z =>
        rw [e] at h
        obtain ⟨a1, a2, a3⟩ := (wh_w p2 e).2 z rfl
        have q3 : z.2 ≤ X.1 := by rw [a3]; exact nx_le p2
        have l2 : p ≤ z.2 := by have := le_nx p2; rw [a3]; omega
        have q4 := nx_le q3
        have l3 := le_nx q3
        have h : dkL X z.1 z.2 = r := h
        unfold dkL at h
        by_cases c3 : iwS X (tk X z.2) 7 = true
        · rw [if_pos c3] at h
          cases e2 : whS X 2 24 (nx X z.2) with
          | inl y =>
            rw [e2] at h
            subst h
            exact ⟨fun x f => by cases f; exact (wh_w q4 e2).1 y rfl, fun x f => by cases f⟩
          | inr y =>
            rw [e2] at h
            obtain ⟨b1, b2, b3⟩ := (wh_w q4 e2).2 y rfl
            have q5 : y.2 ≤ X.1 := by rw [b3]; exact nx_le q4
            have l4 : p ≤ y.2 := by have := le_nx q4; rw [b3]; omega
            have q6 := nx_le q5
            have l5 := le_nx q5
            have h : dkE X z.1 y.1 y.2 = r := h
            unfold dkE at h
            by_cases c4 : iwS X (tk X y.2) 8 = true
            · rw [if_pos c4] at h
              subst h
              refine ⟨(fun x f => by cases f), fun x f => ?_⟩
              cases f
              exact ⟨c1, ⟨a1, a2⟩, ⟨b1, b2⟩, by show p ≤ nx X y.2; omega, q6⟩
            · rw [if_neg c4] at h
              by_cases c5 : iwS X (tk X y.2) 9 = true
              · rw [if_pos c5] at h
                subst h
                refine ⟨(fun x f => by cases f), fun x f => ?_⟩
                cases f
                exact ⟨c1, ⟨a1, a2⟩, ⟨b1, b2⟩, by show p ≤ nx X y.2; omega, q6⟩
              · rw [if_neg c5] at h
                subst h
                exact ⟨fun x f => by cases f; exact ⟨by simp, by simp, st_le q5⟩, fun x f => by cases f⟩
        · rw [if_neg c3] at h
          subst h
          exact ⟨fun x f => by cases f; exact ⟨by simp, by simp, st_le q3⟩, fun x f => by cases f⟩
    · rw [if_neg c2] at h
      subst h
      exact ⟨fun x f => by cases f; exact ⟨by simp, by simp, s1⟩, fun x f => by cases f⟩
theorem bn_w {ov nb : Nat} (hp : p ≤ X.1) {r : (Nat × Nat) ⊕ (Nat × Nat)} (h : bnS X ov nb p = r) : (∀ z, r = .inl z → 1 ≤ z.1 ∧ z.1 ≤ 6 ∧ z.2 ≤ X.1) ∧ ∀ z, r = .inr z → 0 < ov ∧ nb < 6 ∧ (2 ≤ z.1 ∧ z.1 ≤ 8) ∧ p ≤ z.2 ∧ z.2 ≤ X.1 := by
  have p1 := nx_le hp
  have l0 := le_nx hp
  have s0 := st_le hp
  unfold bnS at h
  by_cases c1 : 0 < ov
  · rw [if_pos c1] at h
    by_cases c2 : nb < 6
    · rw [if_pos c2] at h
      obtain ⟨a1, a2⟩ := wh_w p1 h
      refine ⟨a1, fun z e => ?_⟩
      obtain ⟨b1, b2, b3⟩ := a2 z e
      have := le_nx p1
      exact ⟨c1, c2, ⟨b1, b2⟩, by rw [b3]; omega, by rw [b3]; exact nx_le p1⟩
    · rw [if_neg c2] at h
      subst h
      exact ⟨fun z e => by cases e; exact ⟨by simp, by simp, s0⟩, fun z e => by cases e⟩
  · rw [if_neg c1] at h
    subst h
    exact ⟨fun z e => by cases e; exact ⟨by simp, by simp, s0⟩, fun z e => by cases e⟩
theorem ln_w (hp : p ≤ X.1) (hW : WP D T) : LW X p (lnS X D T p) := by
  have hd := hW.d
  obtain ⟨k1, k2, k3, k4, k5, k6⟩ := hW
  obtain ⟨w1, w2', w3, w4⟩ := k6
  unfold lnS
  by_cases c0 : iwS X (tk X p) 0 = true
  · rw [if_pos c0]
    cases e : dkS X D.2.2.1 p with
    | inl z => exact (dk_w hp e).1 z rfl
    | inr z =>
      obtain ⟨a1, a2, a3, a4, a5⟩ := (dk_w hp e).2 z rfl
      refine ⟨⟨k1, k2, a2.2, fun _ => a3, fun y => absurd (show 0 < z.1 by omega) y, w1, w2', w3, w4⟩, a4, a5⟩
  rw [if_neg c0]
  by_cases c1 : iwS X (tk X p) 1 = true
  · rw [if_pos c1]
    cases e : bnS X D.2.2.1 D.1 p with
    | inl z => exact (bn_w hp e).1 z rfl
    | inr z =>
      obtain ⟨a1, a2, a3, a4, a5⟩ := (bn_w hp e).2 z rfl
      have hn : dnt (adD D z.1) = dnt D + z.1 := ad_dnt
      refine ⟨⟨(show D.1 + 1 ≤ 6 by omega), fun b hb => ?_, k3, k4, fun y => absurd a1 y, ⟨w1.1, fun i hi => ?_⟩, ⟨w2'.1, fun i hi => ?_⟩, w3, ⟨w4.1, fun i hi => ?_⟩⟩, a4, a5⟩
      · show 2 ≤ va_up D.2.1 D.1 z.1 b ∧ va_up D.2.1 D.1 z.1 b ≤ 8
        by_cases y : b = D.1
        · rw [y, va_up_self]; exact a3
        · rw [va_up_ne _ _ y]
          exact k2 b (by have : b < D.1 + 1 := hb; omega)
      · have := w1.2 i hi
        show T.1.2.1 i < dnt (adD D z.1)
        omega
      · have := w2'.2 i hi
        show T.2.1.2.1 i < dnt (adD D z.1)
        omega
      · have := w4.2 i hi
        show T.2.2.2.2.1 i < dnt (adD D z.1)
        omega
  rw [if_neg c1]
  by_cases c2 : iwS X (tk X p) 2 = true
  · rw [if_pos c2]
    cases e : prS X D.2.2.1 T.1 12 (dnt D) 1 p with
    | inl z => exact (pr_w hp e).1 z rfl
    | inr z =>
      obtain ⟨a1, a2, a3, a4, a5, a6⟩ := (pr_w hp e).2 z rfl
      exact ⟨⟨k1, k2, k3, k4, fun y => absurd a1 y, ⟨(show T.1.1 + 1 ≤ 12 by omega), ad_lt w1.2 a3⟩, w2', w3, w4⟩, a5, a6⟩
  rw [if_neg c2]
  by_cases c3 : iwS X (tk X p) 3 = true
  · rw [if_pos c3]
    cases e : prS X D.2.2.1 T.2.1 16 (dnt D) 0 p with
    | inl z => exact (pr_w hp e).1 z rfl
    | inr z =>
      obtain ⟨a1, a2, a3, a4, a5, a6⟩ := (pr_w hp e).2 z rfl
      refine ⟨⟨k1, k2, k3, k4, fun y => absurd a1 y, w1, ⟨(show T.2.1.1 + 1 ≤ 16 by omega), ad_lt w2'.2 a3⟩, ⟨w3.1, fun i hi => ?_, w3.2.2⟩, w4⟩, a5, a6⟩
      have := w3.2.1 i hi
      show T.2.2.1.2.1 i < T.2.1.1 + 1
      omega
  rw [if_neg c3]
  by_cases c4 : iwS X (tk X p) 4 = true
  · rw [if_pos c4]
    cases e : prS X D.2.2.1 T.2.2.1 4 T.2.1.1 1 p with
    | inl z => exact (pr_w hp e).1 z rfl
    | inr z =>
      obtain ⟨a1, a2, a3, a4, a5, a6⟩ := (pr_w hp e).2 z rfl
      refine ⟨⟨k1, k2, k3, k4, fun y => absurd a1 y, w1, w2', ⟨(show T.2.2.1.1 + 1 ≤ 4 by omega), ad_lt w3.2.1 a3, fun i k hik hk => ?_⟩, w4⟩, a5, a6⟩
      have hk : k < T.2.2.1.1 + 1 := hk
      show va_up T.2.2.1.2.1 T.2.2.1.1 z.1 i ≠ va_up T.2.2.1.2.1 T.2.2.1.1 z.1 k
      rw [va_up_ne _ _ (show i ≠ T.2.2.1.1 by omega)]
      by_cases y : k = T.2.2.1.1
      · rw [y, va_up_self]
        exact a4 rfl i (by omega)
      · rw [va_up_ne _ _ y]
        exact w3.2.2 i k hik (by omega)
  rw [if_neg c4]
  by_cases c5 : iwS X (tk X p) 5 = true
  · rw [if_pos c5]
    cases e : prS X D.2.2.1 T.2.2.2 6 (dnt D) 1 p with
    | inl z => exact (pr_w hp e).1 z rfl
    | inr z =>
      obtain ⟨a1, a2, a3, a4, a5, a6⟩ := (pr_w hp e).2 z rfl
      exact ⟨⟨k1, k2, k3, k4, fun y => absurd a1 y, w1, w2', w3, ⟨(show T.2.2.2.1 + 1 ≤ 6 by omega), ad_lt w4.2 a3⟩⟩, a5, a6⟩
  rw [if_neg c5]
  exact ⟨by simp, by simp, st_le hp⟩
/-- a text, line by line -/
def paS (X : Tx) : Nat → Dk → Tk → Nat → (Nat × Nat) ⊕ (Dk × Tk)
  | 0, _, _, _ => .inl (1, 0)
  | n + 1, D, T, p => match lnS X D T p with
    | .inl z => .inl z
    | .inr z => if (tk X z.2.2).1 = 0 then (if z.1.1 = 0 then .inl (6, X.1) else .inr (z.1, z.2.1)) else if (tk X z.2.2).1 = 3 then paS X n z.1 z.2.1 (nx X z.2.2) else .inl (1, (tk X z.2.2).2.1)
theorem pa_l {n : Nat} {z : Nat × Nat} (h : lnS X D T p = .inl z) : paS X (n + 1) D T p = .inl z := by
  show (match lnS X D T p with
    | .inl z => (Sum.inl z : (Nat × Nat) ⊕ (Dk × Tk))
    | .inr z => if (tk X z.2.2).1 = 0 then (if z.1.1 = 0 then .inl (6, X.1) else .inr (z.1, z.2.1)) else if (tk X z.2.2).1 = 3 then paS X n z.1 z.2.1 (nx X z.2.2) else .inl (1, (tk X z.2.2).2.1)) = _
  rw [h]
theorem pa_r {n : Nat} {D1 : Dk} {T1 : Tk} {p2 : Nat} (h : lnS X D T p = .inr (D1, T1, p2)) : paS X (n + 1) D T p = if (tk X p2).1 = 0 then (if D1.1 = 0 then .inl (6, X.1) else .inr (D1, T1)) else if (tk X p2).1 = 3 then paS X n D1 T1 (nx X p2) else .inl (1, (tk X p2).2.1) := by
  show (match lnS X D T p with
    | .inl z => (Sum.inl z : (Nat × Nat) ⊕ (Dk × Tk))
    | .inr z => if (tk X z.2.2).1 = 0 then (if z.1.1 = 0 then .inl (6, X.1) else .inr (z.1, z.2.1)) else if (tk X z.2.2).1 = 3 then paS X n z.1 z.2.1 (nx X z.2.2) else .inl (1, (tk X z.2.2).2.1)) = _
  rw [h]
theorem x_93 {f o2 : Nat} (h8 : (w 4 0).1 8 = nI f) (hf : 1 ≤ f ∧ f ≤ 6) : fX4_tellAll_93 o2 w = some ((), w) := by
  unfold fX4_tellAll_93
  simp (disch := omega) only [↓mo_1, ↓mo_2, ad_m1, ite_m1_lt, ite_m2_lt, ite_le_m1, ite_eq_m1, ite_eq_m2, ite_m1_m1, ite_m2_m2, ite_T, ite_F, ite_nz, ite_zz, ite_m1_le, ite_m1_eq, oi_none, oi_some, ob_some, lw_def, ck_true, ckp_su, ite_lt_t, ite_lt_f, ite_le_t, ite_le_f, ite_eq_t, ite_eq_f, ck_inb, nI_add, sb_nI, mu_nI, nI_clamp, sO_at, sO_sO, Nat.add_sub_cancel, Nat.zero_add, Nat.add_zero, li_0, li_1, li_2, li_3, li_4, li_5, li_6, li_7, li_8, li_9, li_10, li_11, li_12, li_16, li_20, li_24, li_31, li_32, li_48, li_49, li_73, li_74, li_75, li_97, li_98, li_99, li_100, li_101, li_109, li_110, li_255, li_680, li_700, li_9999, li_65536, li_65537, h8]
theorem x_loop (hX : TxO X) (hq : q < 2) {o2 : Nat} : ∀ n p i D T, p ≤ X.1 → X.1 + 1 ≤ n + p → i ≤ p → WP D T → ∀ (m : Nat) (w : Wd), n + 1 < m → PX w q X D T (tk X p) → (w 4 0).1 8 = nI 0 → (w 4 0).1 9 = nI 0 → match paS X n D T p with
    | .inl (f, pl) => (1 ≤ f ∧ f ≤ 6 ∧ pl ≤ X.1) ∧ ∃ w2 : Wd, fX4_tellAll_54 o2 m w (nI 1) (nI i) = some ((), w2) ∧ XB w w2 q f pl
    | .inr (D2, T2) => (WP D2 T2 ∧ 0 < D2.1) ∧ ∃ w2 : Wd, fX4_tellAll_54 o2 m w (nI 1) (nI i) = some ((), w2) ∧ XF q w w2 ∧ RSh (w2 5 q) D2 ∧ RT w2 q T2 ∧ (w2 4 0).1 8 = nI 0 ∧ (w2 4 0).1 9 = nI 0 := by
  intro n
  have h7 := hX.1
  induction n with
  | zero => intro p i D T hp hn; omega
  | succ n ih =>
    intro p i D T hp hn hi hW m w hm h h8 h9
    obtain ⟨m, rfl⟩ : ∃ z, m = z + 2 := ⟨m - 2, by omega⟩
    have hE := h.1.1
    have hw := ln_w hp hW
    have g := x_line hX hp hq hW h
    have u1 : fX4_tellAll_54 o2 (m + 2) w (nI 1) (nI i) = ob (fX4_takeLine w) (fun r14 w15 => if (r14 : Int32) = 0 then lw (nI i + 1) (fun x4_17 => fX4_tellAll_54 o2 (m + 1) w15 (0) (x4_17)) else ob (fX4_takeSemicolon w15) (fun r18 w19 => if (r18 : Int32) = 0 then lw (nI i + 1) (fun x4_21 => fX4_tellAll_54 o2 (m + 1) w19 (0) (x4_21)) else lw (nI i + 1) (fun x4_22 => fX4_tellAll_54 o2 (m + 1) w19 (1) (x4_22)))) := by
      rw [fX4_tellAll_54.eq_2]
      simp (disch := omega) only [↓mo_1, ↓mo_2, ad_m1, ite_m1_lt, ite_m2_lt, ite_le_m1, ite_eq_m1, ite_eq_m2, ite_m1_m1, ite_m2_m2, ite_T, ite_F, ite_nz, ite_zz, ite_m1_le, ite_m1_eq, oi_none, oi_some, ob_some, lw_def, ck_true, ckp_su, ite_lt_t, ite_lt_f, ite_le_t, ite_le_f, ite_eq_t, ite_eq_f, ck_inb, nI_add, sb_nI, mu_nI, nI_clamp, sO_at, sO_sO, Nat.add_sub_cancel, Nat.zero_add, Nat.add_zero, li_0, li_1, li_2, li_3, li_4, li_5, li_6, li_7, li_8, li_9, li_10, li_11, li_12, li_16, li_20, li_24, li_31, li_32, li_48, li_49, li_73, li_74, li_75, li_97, li_98, li_99, li_100, li_101, li_109, li_110, li_255, li_680, li_700, li_9999, li_65536, li_65537, hE]
    have u2 : ∀ (w9 : Wd) (x : Int32), fX4_tellAll_54 o2 (m + 1) w9 (nI 0) x = fX4_tellAll_93 o2 w9 := by
      intro w9 x
      rw [fX4_tellAll_54.eq_2]
      simp (disch := omega) only [↓mo_1, ↓mo_2, ad_m1, ite_m1_lt, ite_m2_lt, ite_le_m1, ite_eq_m1, ite_eq_m2, ite_m1_m1, ite_m2_m2, ite_T, ite_F, ite_nz, ite_zz, ite_m1_le, ite_m1_eq, oi_none, oi_some, ob_some, lw_def, ck_true, ckp_su, ite_lt_t, ite_lt_f, ite_le_t, ite_le_f, ite_eq_t, ite_eq_f, ck_inb, nI_add, sb_nI, mu_nI, nI_clamp, sO_at, sO_sO, Nat.add_sub_cancel, Nat.zero_add, Nat.add_zero, li_0, li_1, li_2, li_3, li_4, li_5, li_6, li_7, li_8, li_9, li_10, li_11, li_12, li_16, li_20, li_24, li_31, li_32, li_48, li_49, li_73, li_74, li_75, li_97, li_98, li_99, li_100, li_101, li_109, li_110, li_255, li_680, li_700, li_9999, li_65536, li_65537]
    cases e : lnS X D T p with
    | inl z =>
      obtain ⟨f, pl⟩ := z
      rw [pa_l e]
      rw [e] at g hw
      obtain ⟨w15, g1, g2⟩ := g
      refine ⟨hw, w15, ?_, g2⟩
      rw [u1]
      simp (disch := omega) only [↓mo_1, ↓mo_2, ad_m1, ite_m1_lt, ite_m2_lt, ite_le_m1, ite_eq_m1, ite_eq_m2, ite_m1_m1, ite_m2_m2, ite_T, ite_F, ite_nz, ite_zz, ite_m1_le, ite_m1_eq, oi_none, oi_some, ob_some, lw_def, ck_true, ckp_su, ite_lt_t, ite_lt_f, ite_le_t, ite_le_f, ite_eq_t, ite_eq_f, ck_inb, nI_add, sb_nI, mu_nI, nI_clamp, sO_at, sO_sO, Nat.add_sub_cancel, Nat.zero_add, Nat.add_zero, li_0, li_1, li_2, li_3, li_4, li_5, li_6, li_7, li_8, li_9, li_10, li_11, li_12, li_16, li_20, li_24, li_31, li_32, li_48, li_49, li_73, li_74, li_75, li_97, li_98, li_99, li_100, li_101, li_109, li_110, li_255, li_680, li_700, li_9999, li_65536, li_65537, g1, u2]
      exact x_93 g2.2.1 ⟨hw.1, hw.2.1⟩
    | inr z =>
      obtain ⟨D1, T1, p2⟩ := z
      rw [pa_r e]
      rw [e] at g hw
      obtain ⟨w15, g1, g2, g3, g4, g5⟩ := g
      obtain ⟨hW1, hp12, hp2⟩ := hw
      have hp12 : p ≤ p2 := hp12
      have hp2 : p2 ≤ X.1 := hp2
      have t4 := g3.2.1.1
      obtain ⟨s1, s2, s3, s4, s5, -, -, s8, s9⟩ := tk_ok hp2
      by_cases c0 : (tk X p2).1 = 0
      · have ts : fX4_takeSemicolon w15 = some (nI 0, w15) := by
          unfold fX4_takeSemicolon
          rw [c0] at t4
          simp (disch := omega) only [↓mo_1, ↓mo_2, ad_m1, ite_m1_lt, ite_m2_lt, ite_le_m1, ite_eq_m1, ite_eq_m2, ite_m1_m1, ite_m2_m2, ite_T, ite_F, ite_nz, ite_zz, ite_m1_le, ite_m1_eq, oi_none, oi_some, ob_some, lw_def, ck_true, ckp_su, ite_lt_t, ite_lt_f, ite_le_t, ite_le_f, ite_eq_t, ite_eq_f, ck_inb, nI_add, sb_nI, mu_nI, nI_clamp, sO_at, sO_sO, Nat.add_sub_cancel, Nat.zero_add, Nat.add_zero, li_0, li_1, li_2, li_3, li_4, li_5, li_6, li_7, li_8, li_9, li_10, li_11, li_12, li_16, li_20, li_24, li_31, li_32, li_48, li_49, li_73, li_74, li_75, li_97, li_98, li_99, li_100, li_101, li_109, li_110, li_255, li_680, li_700, li_9999, li_65536, li_65537, t4]
        have u3 : fX4_tellAll_54 o2 (m + 2) w (nI 1) (nI i) = fX4_tellAll_93 o2 w15 := by
          rw [u1]
          simp (disch := omega) only [↓mo_1, ↓mo_2, ad_m1, ite_m1_lt, ite_m2_lt, ite_le_m1, ite_eq_m1, ite_eq_m2, ite_m1_m1, ite_m2_m2, ite_T, ite_F, ite_nz, ite_zz, ite_m1_le, ite_m1_eq, oi_none, oi_some, ob_some, lw_def, ck_true, ckp_su, ite_lt_t, ite_lt_f, ite_le_t, ite_le_f, ite_eq_t, ite_eq_f, ck_inb, nI_add, sb_nI, mu_nI, nI_clamp, sO_at, sO_sO, Nat.add_sub_cancel, Nat.zero_add, Nat.add_zero, li_0, li_1, li_2, li_3, li_4, li_5, li_6, li_7, li_8, li_9, li_10, li_11, li_12, li_16, li_20, li_24, li_31, li_32, li_48, li_49, li_73, li_74, li_75, li_97, li_98, li_99, li_100, li_101, li_109, li_110, li_255, li_680, li_700, li_9999, li_65536, li_65537, g1, ts, u2]
        have k8 : (w15 4 0).1 8 = nI 0 := by rw [g4]; exact h8
        have k9 : (w15 4 0).1 9 = nI 0 := by rw [g5]; exact h9
        have kp := g3.2.2.1
        have kb := g3.2.2.2.2.1.2.2.1
        have kE := g3.1.1
        rw [if_pos c0]
        by_cases c1 : D1.1 = 0
        · rw [if_pos c1]
          obtain ⟨w16, a1, a2, a3, a4⟩ := x_stopAt (w := w15) (f := nI 6) (pl := nI X.1)
          refine ⟨⟨by omega, by omega, Nat.le_refl _⟩, w16, ?_, g2.tr a2.xf, a3, a4⟩
          rw [u3]
          rw [c1] at kb
          unfold fX4_tellAll_93
          simp (disch := omega) only [↓mo_1, ↓mo_2, ad_m1, ite_m1_lt, ite_m2_lt, ite_le_m1, ite_eq_m1, ite_eq_m2, ite_m1_m1, ite_m2_m2, ite_T, ite_F, ite_nz, ite_zz, ite_m1_le, ite_m1_eq, oi_none, oi_some, ob_some, lw_def, ck_true, ckp_su, ite_lt_t, ite_lt_f, ite_le_t, ite_le_f, ite_eq_t, ite_eq_f, ck_inb, nI_add, sb_nI, mu_nI, nI_clamp, sO_at, sO_sO, Nat.add_sub_cancel, Nat.zero_add, Nat.add_zero, li_0, li_1, li_2, li_3, li_4, li_5, li_6, li_7, li_8, li_9, li_10, li_11, li_12, li_16, li_20, li_24, li_31, li_32, li_48, li_49, li_73, li_74, li_75, li_97, li_98, li_99, li_100, li_101, li_109, li_110, li_255, li_680, li_700, li_9999, li_65536, li_65537, k8, kp, kb, kE, a1]
        · rw [if_neg c1]
          have hb6 : D1.1 ≤ 6 := hW1.1
          refine ⟨⟨hW1, by omega⟩, w15, ?_, g2, g3.2.2.2.2.1, g3.2.2.2.2.2, k8, k9⟩
          rw [u3]
          unfold fX4_tellAll_93
          simp (disch := omega) only [↓mo_1, ↓mo_2, ad_m1, ite_m1_lt, ite_m2_lt, ite_le_m1, ite_eq_m1, ite_eq_m2, ite_m1_m1, ite_m2_m2, ite_T, ite_F, ite_nz, ite_zz, ite_m1_le, ite_m1_eq, oi_none, oi_some, ob_some, lw_def, ck_true, ckp_su, ite_lt_t, ite_lt_f, ite_le_t, ite_le_f, ite_eq_t, ite_eq_f, ck_inb, nI_add, sb_nI, mu_nI, nI_clamp, sO_at, sO_sO, Nat.add_sub_cancel, Nat.zero_add, Nat.add_zero, li_0, li_1, li_2, li_3, li_4, li_5, li_6, li_7, li_8, li_9, li_10, li_11, li_12, li_16, li_20, li_24, li_31, li_32, li_48, li_49, li_73, li_74, li_75, li_97, li_98, li_99, li_100, li_101, li_109, li_110, li_255, li_680, li_700, li_9999, li_65536, li_65537, k8, kp, kb]
      · show match (if (tk X p2).1 = 0 then (if D1.1 = 0 then Sum.inl (6, X.1) else Sum.inr (D1, T1)) else if (tk X p2).1 = 3 then paS X n D1 T1 (nx X p2) else Sum.inl (1, (tk X p2).2.1)) with
          | .inl (f, pl) => _
          | .inr (D2, T2) => _
        rw [if_neg c0]
        by_cases c3 : (tk X p2).1 = 3
        · rw [if_pos c3]
          obtain ⟨w19, a1, a2, a3⟩ := x_mv hX hp2 g3
          have ts : fX4_takeSemicolon w15 = some (nI 1, w19) := by
            unfold fX4_takeSemicolon
            rw [c3] at t4
            simp (disch := omega) only [↓mo_1, ↓mo_2, ad_m1, ite_m1_lt, ite_m2_lt, ite_le_m1, ite_eq_m1, ite_eq_m2, ite_m1_m1, ite_m2_m2, ite_T, ite_F, ite_nz, ite_zz, ite_m1_le, ite_m1_eq, oi_none, oi_some, ob_some, lw_def, ck_true, ckp_su, ite_lt_t, ite_lt_f, ite_le_t, ite_le_f, ite_eq_t, ite_eq_f, ck_inb, nI_add, sb_nI, mu_nI, nI_clamp, sO_at, sO_sO, Nat.add_sub_cancel, Nat.zero_add, Nat.add_zero, li_0, li_1, li_2, li_3, li_4, li_5, li_6, li_7, li_8, li_9, li_10, li_11, li_12, li_16, li_20, li_24, li_31, li_32, li_48, li_49, li_73, li_74, li_75, li_97, li_98, li_99, li_100, li_101, li_109, li_110, li_255, li_680, li_700, li_9999, li_65536, li_65537, t4, a1]
          have n1 : nx X p2 = (tk X p2).2.1 + 1 := s5 c3
          have u3 : fX4_tellAll_54 o2 (m + 2) w (nI 1) (nI i) = fX4_tellAll_54 o2 (m + 1) w19 (nI 1) (nI (i + 1)) := by
            rw [u1]
            simp (disch := omega) only [↓mo_1, ↓mo_2, ad_m1, ite_m1_lt, ite_m2_lt, ite_le_m1, ite_eq_m1, ite_eq_m2, ite_m1_m1, ite_m2_m2, ite_T, ite_F, ite_nz, ite_zz, ite_m1_le, ite_m1_eq, oi_none, oi_some, ob_some, lw_def, ck_true, ckp_su, ite_lt_t, ite_lt_f, ite_le_t, ite_le_f, ite_eq_t, ite_eq_f, ck_inb, nI_add, sb_nI, mu_nI, nI_clamp, sO_at, sO_sO, Nat.add_sub_cancel, Nat.zero_add, Nat.add_zero, li_0, li_1, li_2, li_3, li_4, li_5, li_6, li_7, li_8, li_9, li_10, li_11, li_12, li_16, li_20, li_24, li_31, li_32, li_48, li_49, li_73, li_74, li_75, li_97, li_98, li_99, li_100, li_101, li_109, li_110, li_255, li_680, li_700, li_9999, li_65536, li_65537, g1, ts]
          have r := ih (nx X p2) (i + 1) D1 T1 (nx_le hp2) (by omega) (by omega) hW1 (m + 1) w19 (by omega) a3 (by rw [a2.2.2 8 (by decide) (by decide) (by decide) (by decide), g4]; exact h8) (by rw [a2.2.2 9 (by decide) (by decide) (by decide) (by decide), g5]; exact h9)
          rw [u3]
          cases e2 : paS X n D1 T1 (nx X p2) with
          | inl z =>
            obtain ⟨f, pl⟩ := z
            rw [e2] at r
            obtain ⟨r1, w2, r2, r3, r4⟩ := r
            exact ⟨r1, w2, r2, (g2.tr a2.xf).tr r3, r4⟩
          | inr z =>
            obtain ⟨D2, T2⟩ := z
            rw [e2] at r
            obtain ⟨r1, w2, r2, r3, r4⟩ := r
            exact ⟨r1, w2, r2, (g2.tr a2.xf).tr r3, r4⟩
        · rw [if_neg c3]
          obtain ⟨w19, a1, a2, a3, a4⟩ := x_stopAt (w := w15) (f := nI 1) (pl := nI (tk X p2).2.1)
          have kst := g3.2.1.2.1
          have ts : fX4_takeSemicolon w15 = some (nI 0, w19) := by
            unfold fX4_takeSemicolon
            simp (disch := omega) only [↓mo_1, ↓mo_2, ad_m1, ite_m1_lt, ite_m2_lt, ite_le_m1, ite_eq_m1, ite_eq_m2, ite_m1_m1, ite_m2_m2, ite_T, ite_F, ite_nz, ite_zz, ite_m1_le, ite_m1_eq, oi_none, oi_some, ob_some, lw_def, ck_true, ckp_su, ite_lt_t, ite_lt_f, ite_le_t, ite_le_f, ite_eq_t, ite_eq_f, ck_inb, nI_add, sb_nI, mu_nI, nI_clamp, sO_at, sO_sO, Nat.add_sub_cancel, Nat.zero_add, Nat.add_zero, li_0, li_1, li_2, li_3, li_4, li_5, li_6, li_7, li_8, li_9, li_10, li_11, li_12, li_16, li_20, li_24, li_31, li_32, li_48, li_49, li_73, li_74, li_75, li_97, li_98, li_99, li_100, li_101, li_109, li_110, li_255, li_680, li_700, li_9999, li_65536, li_65537, t4, kst, a1, isb_0]
          refine ⟨⟨by omega, by omega, s2⟩, w19, ?_, g2.tr a2.xf, a3, a4⟩
          rw [u1]
          simp (disch := omega) only [↓mo_1, ↓mo_2, ad_m1, ite_m1_lt, ite_m2_lt, ite_le_m1, ite_eq_m1, ite_eq_m2, ite_m1_m1, ite_m2_m2, ite_T, ite_F, ite_nz, ite_zz, ite_m1_le, ite_m1_eq, oi_none, oi_some, ob_some, lw_def, ck_true, ckp_su, ite_lt_t, ite_lt_f, ite_le_t, ite_le_f, ite_eq_t, ite_eq_f, ck_inb, nI_add, sb_nI, mu_nI, nI_clamp, sO_at, sO_sO, Nat.add_sub_cancel, Nat.zero_add, Nat.add_zero, li_0, li_1, li_2, li_3, li_4, li_5, li_6, li_7, li_8, li_9, li_10, li_11, li_12, li_16, li_20, li_24, li_31, li_32, li_48, li_49, li_73, li_74, li_75, li_97, li_98, li_99, li_100, li_101, li_109, li_110, li_255, li_680, li_700, li_9999, li_65536, li_65537, g1, ts, u2]
          exact x_93 a3 ⟨by omega, by omega⟩
/-! the reference -/
theorem MFr.tr {w3 : Wd} (h : MFr d w w2) (h2 : MFr d w2 w3) : MFr d w w3 := ⟨fun c i a b => (h2.1 c i a b).trans (h.1 c i a b), h2.2.1.trans h.2.1, h2.2.2.1.trans h.2.2.1, fun k a => (h2.2.2.2 k a).trans (h.2.2.2 k a)⟩
theorem o_31 (hd : d < nd) (h4 : (w 11 0).2.2.1 4 = d + 1) (h : (w 11 0).1 9 = nI 5) : fX11_readAll_31 nd w = some ((), w) := by
  unfold fX11_readAll_31
  simp (disch := omega) only [↓mo_1, ↓mo_2, ad_m1, ite_m1_lt, ite_m2_lt, ite_le_m1, ite_eq_m1, ite_eq_m2, ite_m1_m1, ite_m2_m2, ite_T, ite_F, ite_nz, ite_zz, ite_m1_le, ite_m1_eq, oi_none, oi_some, ob_some, lw_def, ck_true, ckp_su, ite_lt_t, ite_lt_f, ite_le_t, ite_le_f, ite_eq_t, ite_eq_f, ck_inb, nI_add, sb_nI, mu_nI, nI_clamp, sO_at, sO_sO, Nat.add_sub_cancel, Nat.zero_add, Nat.add_zero, li_0, li_1, li_2, li_3, li_4, li_5, li_6, li_7, li_8, li_9, li_10, li_11, li_12, li_16, li_20, li_24, li_31, li_32, li_48, li_49, li_73, li_74, li_75, li_97, li_98, li_99, li_100, li_101, li_109, li_110, li_255, li_680, li_700, li_9999, li_65536, li_65537, h4, o_fl h]
  split <;> rfl
theorem m_loop (hX : TxO X) (hd : d < nd) : ∀ n p D T, p ≤ X.1 → X.1 + 1 ≤ n + p → WP D T → ∀ (m : Nat) (w : Wd), n + 1 < m → PM w d X D T (tk X p) → match paS X n D T p with
    | .inl (f, pl) => ∃ w2 : Wd, fX11_readAll_2 nd m w (nI 1) = some ((), w2) ∧ MFr d w w2 ∧ (w2 11 0).1 12 = nI f ∧ (w2 11 0).1 13 = nI pl
    | .inr (D2, T2) => ∃ w2 : Wd, fX11_readAll_2 nd m w (nI 1) = some ((), w2) ∧ MFr d w w2 ∧ RDm (w2 10 d) D2 ∧ RTm (w2 10 d) D2 T2 ∧ (w2 11 0).1 12 = (w 11 0).1 12 := by
  intro n
  have h7 := hX.1
  induction n with
  | zero => intro p D T hp hn; omega
  | succ n ih =>
    intro p D T hp hn hW m w hm h
    obtain ⟨m, rfl⟩ : ∃ z, m = z + 2 := ⟨m - 2, by omega⟩
    have hw := ln_w hp hW
    have g := m_line hX hp hd hW h
    have u1 : fX11_readAll_2 nd (m + 2) w (nI 1) = ob (fX11_readLine nd w) (fun _ w6 => ob (fX11_eatsSemicolon nd w6) (fun r7 w8 => fX11_readAll_2 nd (m + 1) w8 (r7))) := by
      rw [fX11_readAll_2.eq_2]
      simp (disch := omega) only [↓mo_1, ↓mo_2, ad_m1, ite_m1_lt, ite_m2_lt, ite_le_m1, ite_eq_m1, ite_eq_m2, ite_m1_m1, ite_m2_m2, ite_T, ite_F, ite_nz, ite_zz, ite_m1_le, ite_m1_eq, oi_none, oi_some, ob_some, lw_def, ck_true, ckp_su, ite_lt_t, ite_lt_f, ite_le_t, ite_le_f, ite_eq_t, ite_eq_f, ck_inb, nI_add, sb_nI, mu_nI, nI_clamp, sO_at, sO_sO, Nat.add_sub_cancel, Nat.zero_add, Nat.add_zero, li_0, li_1, li_2, li_3, li_4, li_5, li_6, li_7, li_8, li_9, li_10, li_11, li_12, li_16, li_20, li_24, li_31, li_32, li_48, li_49, li_73, li_74, li_75, li_97, li_98, li_99, li_100, li_101, li_109, li_110, li_255, li_680, li_700, li_9999, li_65536, li_65537]
    have u2 : ∀ (w9 : Wd), fX11_readAll_2 nd (m + 1) w9 (nI 0) = if (((w9 11 0).1 9) : Int32) = 1 then fX11_readAll_31 nd w9 else ob (fX11_flaw nd w9 (1)) (fun _ w4 => fX11_readAll_31 nd w4) := by
      intro w9
      rw [fX11_readAll_2.eq_2]
      simp (disch := omega) only [↓mo_1, ↓mo_2, ad_m1, ite_m1_lt, ite_m2_lt, ite_le_m1, ite_eq_m1, ite_eq_m2, ite_m1_m1, ite_m2_m2, ite_T, ite_F, ite_nz, ite_zz, ite_m1_le, ite_m1_eq, oi_none, oi_some, ob_some, lw_def, ck_true, ckp_su, ite_lt_t, ite_lt_f, ite_le_t, ite_le_f, ite_eq_t, ite_eq_f, ck_inb, nI_add, sb_nI, mu_nI, nI_clamp, sO_at, sO_sO, Nat.add_sub_cancel, Nat.zero_add, Nat.add_zero, li_0, li_1, li_2, li_3, li_4, li_5, li_6, li_7, li_8, li_9, li_10, li_11, li_12, li_16, li_20, li_24, li_31, li_32, li_48, li_49, li_73, li_74, li_75, li_97, li_98, li_99, li_100, li_101, li_109, li_110, li_255, li_680, li_700, li_9999, li_65536, li_65537]
    cases e : lnS X D T p with
    | inl z =>
      obtain ⟨f, pl⟩ := z
      rw [pa_l e]
      rw [e] at g
      obtain ⟨w6, g1, g2⟩ := g
      have k5 := g2.2.1
      have k4 : (w6 11 0).2.2.1 4 = d + 1 := by rw [g2.1.2.2.1]; exact h.2.2.1
      refine ⟨w6, ?_, g2.1.fr, g2.2.2.1, g2.2.2.2⟩
      have es : fX11_eatsSemicolon nd w6 = some (nI 0, w6) := by
        unfold fX11_eatsSemicolon fX11_eatsSemicolon_13
        simp (disch := omega) only [↓mo_1, ↓mo_2, ad_m1, ite_m1_lt, ite_m2_lt, ite_le_m1, ite_eq_m1, ite_eq_m2, ite_m1_m1, ite_m2_m2, ite_T, ite_F, ite_nz, ite_zz, ite_m1_le, ite_m1_eq, oi_none, oi_some, ob_some, lw_def, ck_true, ckp_su, ite_lt_t, ite_lt_f, ite_le_t, ite_le_f, ite_eq_t, ite_eq_f, ck_inb, nI_add, sb_nI, mu_nI, nI_clamp, sO_at, sO_sO, Nat.add_sub_cancel, Nat.zero_add, Nat.add_zero, li_0, li_1, li_2, li_3, li_4, li_5, li_6, li_7, li_8, li_9, li_10, li_11, li_12, li_16, li_20, li_24, li_31, li_32, li_48, li_49, li_73, li_74, li_75, li_97, li_98, li_99, li_100, li_101, li_109, li_110, li_255, li_680, li_700, li_9999, li_65536, li_65537, k5, isb_0]
      rw [u1]
      simp (disch := omega) only [↓mo_1, ↓mo_2, ad_m1, ite_m1_lt, ite_m2_lt, ite_le_m1, ite_eq_m1, ite_eq_m2, ite_m1_m1, ite_m2_m2, ite_T, ite_F, ite_nz, ite_zz, ite_m1_le, ite_m1_eq, oi_none, oi_some, ob_some, lw_def, ck_true, ckp_su, ite_lt_t, ite_lt_f, ite_le_t, ite_le_f, ite_eq_t, ite_eq_f, ck_inb, nI_add, sb_nI, mu_nI, nI_clamp, sO_at, sO_sO, Nat.add_sub_cancel, Nat.zero_add, Nat.add_zero, li_0, li_1, li_2, li_3, li_4, li_5, li_6, li_7, li_8, li_9, li_10, li_11, li_12, li_16, li_20, li_24, li_31, li_32, li_48, li_49, li_73, li_74, li_75, li_97, li_98, li_99, li_100, li_101, li_109, li_110, li_255, li_680, li_700, li_9999, li_65536, li_65537, g1, es, u2, k5, o_fl k5]
      exact o_31 hd k4 k5
    | inr z =>
      obtain ⟨D1, T1, p2⟩ := z
      rw [pa_r e]
      rw [e] at g hw
      obtain ⟨w6, g1, g2, g3, g4⟩ := g
      obtain ⟨hW1, hp12, hp2⟩ := hw
      have hp12 : p ≤ p2 := hp12
      have hp2 : p2 ≤ X.1 := hp2
      have t4 := g3.2.1.1
      have kl := sg_lt (k := (tk X p2).1)
      have kp := g3.2.2.1
      have kb := g3.2.2.2.1.2.2.1
      have y0 := sg_0 (k := (tk X p2).1)
      have y3 := sg_3 (k := (tk X p2).1)
      obtain ⟨s1, s2, s3, s4, s5, -, -, s8, s9⟩ := tk_ok hp2
      have hb6 : D1.1 ≤ 6 := hW1.1
      by_cases c0 : (tk X p2).1 = 0
      · rw [if_pos c0]
        have z1 : (w6 11 0).1 9 = nI 1 := by rw [t4, y0.mpr c0]
        have es : fX11_eatsSemicolon nd w6 = some (nI 0, w6) := by
          unfold fX11_eatsSemicolon fX11_eatsSemicolon_13
          simp (disch := omega) only [↓mo_1, ↓mo_2, ad_m1, ite_m1_lt, ite_m2_lt, ite_le_m1, ite_eq_m1, ite_eq_m2, ite_m1_m1, ite_m2_m2, ite_T, ite_F, ite_nz, ite_zz, ite_m1_le, ite_m1_eq, oi_none, oi_some, ob_some, lw_def, ck_true, ckp_su, ite_lt_t, ite_lt_f, ite_le_t, ite_le_f, ite_eq_t, ite_eq_f, ck_inb, nI_add, sb_nI, mu_nI, nI_clamp, sO_at, sO_sO, Nat.add_sub_cancel, Nat.zero_add, Nat.add_zero, li_0, li_1, li_2, li_3, li_4, li_5, li_6, li_7, li_8, li_9, li_10, li_11, li_12, li_16, li_20, li_24, li_31, li_32, li_48, li_49, li_73, li_74, li_75, li_97, li_98, li_99, li_100, li_101, li_109, li_110, li_255, li_680, li_700, li_9999, li_65536, li_65537, z1, isb_0]
        have u3 : fX11_readAll_2 nd (m + 2) w (nI 1) = fX11_readAll_31 nd w6 := by
          rw [u1]
          simp (disch := omega) only [↓mo_1, ↓mo_2, ad_m1, ite_m1_lt, ite_m2_lt, ite_le_m1, ite_eq_m1, ite_eq_m2, ite_m1_m1, ite_m2_m2, ite_T, ite_F, ite_nz, ite_zz, ite_m1_le, ite_m1_eq, oi_none, oi_some, ob_some, lw_def, ck_true, ckp_su, ite_lt_t, ite_lt_f, ite_le_t, ite_le_f, ite_eq_t, ite_eq_f, ck_inb, nI_add, sb_nI, mu_nI, nI_clamp, sO_at, sO_sO, Nat.add_sub_cancel, Nat.zero_add, Nat.add_zero, li_0, li_1, li_2, li_3, li_4, li_5, li_6, li_7, li_8, li_9, li_10, li_11, li_12, li_16, li_20, li_24, li_31, li_32, li_48, li_49, li_73, li_74, li_75, li_97, li_98, li_99, li_100, li_101, li_109, li_110, li_255, li_680, li_700, li_9999, li_65536, li_65537, g1, es, u2, z1]
        rw [u3]
        by_cases c1 : D1.1 = 0
        · rw [if_pos c1]
          obtain ⟨w12, a1, a2⟩ := m_fl (nd := nd) (f := 6) g3.2.1
          refine ⟨w12, ?_, g2.tr a2.1.fr, a2.2.2.1, by rw [a2.2.2.2, s9 c0]⟩
          rw [c1] at kb
          unfold fX11_readAll_31
          simp (disch := omega) only [↓mo_1, ↓mo_2, ad_m1, ite_m1_lt, ite_m2_lt, ite_le_m1, ite_eq_m1, ite_eq_m2, ite_m1_m1, ite_m2_m2, ite_T, ite_F, ite_nz, ite_zz, ite_m1_le, ite_m1_eq, oi_none, oi_some, ob_some, lw_def, ck_true, ckp_su, ite_lt_t, ite_lt_f, ite_le_t, ite_le_f, ite_eq_t, ite_eq_f, ck_inb, nI_add, sb_nI, mu_nI, nI_clamp, sO_at, sO_sO, Nat.add_sub_cancel, Nat.zero_add, Nat.add_zero, li_0, li_1, li_2, li_3, li_4, li_5, li_6, li_7, li_8, li_9, li_10, li_11, li_12, li_16, li_20, li_24, li_31, li_32, li_48, li_49, li_73, li_74, li_75, li_97, li_98, li_99, li_100, li_101, li_109, li_110, li_255, li_680, li_700, li_9999, li_65536, li_65537, kp, kb, a1]
        · rw [if_neg c1]
          refine ⟨w6, ?_, g2, g3.2.2.2.1, g3.2.2.2.2.1, g4⟩
          unfold fX11_readAll_31
          simp (disch := omega) only [↓mo_1, ↓mo_2, ad_m1, ite_m1_lt, ite_m2_lt, ite_le_m1, ite_eq_m1, ite_eq_m2, ite_m1_m1, ite_m2_m2, ite_T, ite_F, ite_nz, ite_zz, ite_m1_le, ite_m1_eq, oi_none, oi_some, ob_some, lw_def, ck_true, ckp_su, ite_lt_t, ite_lt_f, ite_le_t, ite_le_f, ite_eq_t, ite_eq_f, ck_inb, nI_add, sb_nI, mu_nI, nI_clamp, sO_at, sO_sO, Nat.add_sub_cancel, Nat.zero_add, Nat.add_zero, li_0, li_1, li_2, li_3, li_4, li_5, li_6, li_7, li_8, li_9, li_10, li_11, li_12, li_16, li_20, li_24, li_31, li_32, li_48, li_49, li_73, li_74, li_75, li_97, li_98, li_99, li_100, li_101, li_109, li_110, li_255, li_680, li_700, li_9999, li_65536, li_65537, kp, kb]
      · rw [if_neg c0]
        by_cases c3 : (tk X p2).1 = 3
        · rw [if_pos c3]
          obtain ⟨w8, a1, a2, a3⟩ := m_gx (nd := nd) hX g3.1 hp2 g3.2.1 (by omega)
          have z1 : (w6 11 0).1 9 = nI 4 := by rw [t4, y3.mpr c3]
          have es : fX11_eatsSemicolon nd w6 = some (nI 1, w8) := by
            unfold fX11_eatsSemicolon fX11_eatsSemicolon_13
            simp (disch := omega) only [↓mo_1, ↓mo_2, ad_m1, ite_m1_lt, ite_m2_lt, ite_le_m1, ite_eq_m1, ite_eq_m2, ite_m1_m1, ite_m2_m2, ite_T, ite_F, ite_nz, ite_zz, ite_m1_le, ite_m1_eq, oi_none, oi_some, ob_some, lw_def, ck_true, ckp_su, ite_lt_t, ite_lt_f, ite_le_t, ite_le_f, ite_eq_t, ite_eq_f, ck_inb, nI_add, sb_nI, mu_nI, nI_clamp, sO_at, sO_sO, Nat.add_sub_cancel, Nat.zero_add, Nat.add_zero, li_0, li_1, li_2, li_3, li_4, li_5, li_6, li_7, li_8, li_9, li_10, li_11, li_12, li_16, li_20, li_24, li_31, li_32, li_48, li_49, li_73, li_74, li_75, li_97, li_98, li_99, li_100, li_101, li_109, li_110, li_255, li_680, li_700, li_9999, li_65536, li_65537, z1, isb_1, a1]
          have n1 : nx X p2 = (tk X p2).2.1 + 1 := s5 c3
          have u3 : fX11_readAll_2 nd (m + 2) w (nI 1) = fX11_readAll_2 nd (m + 1) w8 (nI 1) := by
            rw [u1]
            simp (disch := omega) only [↓mo_1, ↓mo_2, ad_m1, ite_m1_lt, ite_m2_lt, ite_le_m1, ite_eq_m1, ite_eq_m2, ite_m1_m1, ite_m2_m2, ite_T, ite_F, ite_nz, ite_zz, ite_m1_le, ite_m1_eq, oi_none, oi_some, ob_some, lw_def, ck_true, ckp_su, ite_lt_t, ite_lt_f, ite_le_t, ite_le_f, ite_eq_t, ite_eq_f, ck_inb, nI_add, sb_nI, mu_nI, nI_clamp, sO_at, sO_sO, Nat.add_sub_cancel, Nat.zero_add, Nat.add_zero, li_0, li_1, li_2, li_3, li_4, li_5, li_6, li_7, li_8, li_9, li_10, li_11, li_12, li_16, li_20, li_24, li_31, li_32, li_48, li_49, li_73, li_74, li_75, li_97, li_98, li_99, li_100, li_101, li_109, li_110, li_255, li_680, li_700, li_9999, li_65536, li_65537, g1, es]
          have r := ih (nx X p2) D1 T1 (nx_le hp2) (by omega) hW1 (m + 1) w8 (by omega) (g3.sg a2 a3)
          have k12 : (w8 11 0).1 12 = (w 11 0).1 12 := by rw [a2.2.2.2 12 (by decide) (by decide) (by decide) (by decide)]; exact g4
          rw [u3]
          cases e2 : paS X n D1 T1 (nx X p2) with
          | inl z =>
            obtain ⟨f, pl⟩ := z
            rw [e2] at r
            obtain ⟨w2, r2, r3, r4⟩ := r
            exact ⟨w2, r2, (g2.tr a2.sv.fr).tr r3, r4⟩
          | inr z =>
            obtain ⟨D2, T2⟩ := z
            rw [e2] at r
            obtain ⟨w2, r2, r3, r4, r5, r6⟩ := r
            exact ⟨w2, r2, (g2.tr a2.sv.fr).tr r3, r4, r5, r6.trans k12⟩
        · rw [if_neg c3]
          obtain ⟨w12, a1, a2⟩ := m_fl (nd := nd) (f := 1) g3.2.1
          have es : fX11_eatsSemicolon nd w6 = some (nI 0, w6) := by
            unfold fX11_eatsSemicolon fX11_eatsSemicolon_13
            simp (disch := omega) only [↓mo_1, ↓mo_2, ad_m1, ite_m1_lt, ite_m2_lt, ite_le_m1, ite_eq_m1, ite_eq_m2, ite_m1_m1, ite_m2_m2, ite_T, ite_F, ite_nz, ite_zz, ite_m1_le, ite_m1_eq, oi_none, oi_some, ob_some, lw_def, ck_true, ckp_su, ite_lt_t, ite_lt_f, ite_le_t, ite_le_f, ite_eq_t, ite_eq_f, ck_inb, nI_add, sb_nI, mu_nI, nI_clamp, sO_at, sO_sO, Nat.add_sub_cancel, Nat.zero_add, Nat.add_zero, li_0, li_1, li_2, li_3, li_4, li_5, li_6, li_7, li_8, li_9, li_10, li_11, li_12, li_16, li_20, li_24, li_31, li_32, li_48, li_49, li_73, li_74, li_75, li_97, li_98, li_99, li_100, li_101, li_109, li_110, li_255, li_680, li_700, li_9999, li_65536, li_65537, t4, isb_0]
          have k4 : (w12 11 0).2.2.1 4 = d + 1 := by rw [a2.1.2.2.1]; exact kp
          refine ⟨w12, ?_, g2.tr a2.1.fr, a2.2.2.1, a2.2.2.2⟩
          rw [u1]
          simp (disch := omega) only [↓mo_1, ↓mo_2, ad_m1, ite_m1_lt, ite_m2_lt, ite_le_m1, ite_eq_m1, ite_eq_m2, ite_m1_m1, ite_m2_m2, ite_T, ite_F, ite_nz, ite_zz, ite_m1_le, ite_m1_eq, oi_none, oi_some, ob_some, lw_def, ck_true, ckp_su, ite_lt_t, ite_lt_f, ite_le_t, ite_le_f, ite_eq_t, ite_eq_f, ck_inb, nI_add, sb_nI, mu_nI, nI_clamp, sO_at, sO_sO, Nat.add_sub_cancel, Nat.zero_add, Nat.add_zero, li_0, li_1, li_2, li_3, li_4, li_5, li_6, li_7, li_8, li_9, li_10, li_11, li_12, li_16, li_20, li_24, li_31, li_32, li_48, li_49, li_73, li_74, li_75, li_97, li_98, li_99, li_100, li_101, li_109, li_110, li_255, li_680, li_700, li_9999, li_65536, li_65537, g1, es, u2, t4, a1]
          exact o_31 hd k4 a2.2.1
end TXT
