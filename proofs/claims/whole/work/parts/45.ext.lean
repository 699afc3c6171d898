/-! ===== extents ===== -/
def gw2 (x y : Option Nat) : Bool := match x, y with
  | some a, some b => decide (a = b + 1)
  | none, _ => false
  | some _, none => false
def gwE (s : Sd) : Nat → Bool
  | 0 => false
  | t + 1 => gw2 (lpS s (t + 1)) (lpS s t)
theorem gw_s {s : Sd} {t : Nat} : gwE s (t + 1) = gw2 (lpS s (t + 1)) (lpS s t) := rfl
theorem gw_n1 {y : Option Nat} : gw2 none y = false := rfl
theorem gw_n2 {x : Option Nat} : gw2 x none = false := by cases x <;> rfl
theorem gw_ss {a b : Nat} : gw2 (some a) (some b) = decide (a = b + 1) := rfl
def bgE (s : Sd) (t : Nat) : Bool := (lpS s t).isSome && !gwE s t
def exL (s : Sd) : Nat → Nat × (Nat → Nat) × (Nat → Nat)
  | 0 => (0, fun _ => 0, fun _ => 0)
  | t + 1 => if bgE s t = true then ((exL s t).1 + 1, va_up (exL s t).2.1 (exL s t).1 t, va_up (exL s t).2.2 (exL s t).1 1) else if (lpS s t).isSome = true then ((exL s t).1, (exL s t).2.1, va_up (exL s t).2.2 ((exL s t).1 - 1) ((exL s t).2.2 ((exL s t).1 - 1) + 1)) else exL s t
theorem ctp_mono {p : Nat → Bool} {a : Nat} : ∀ {b : Nat}, a ≤ b → ctp p a ≤ ctp p b
  | 0, h => by rw [Nat.le_zero.mp h]; exact Nat.le_refl _
  | b + 1, h => by
    by_cases e : a = b + 1
    · rw [e]; exact Nat.le_refl _
    · have := ctp_mono (p := p) (a := a) (b := b) (by omega)
      by_cases c : p b = true
      · rw [ctp_t c]; omega
      · rw [ctp_f c]; exact this
theorem exL_1 {s : Sd} : ∀ n, (exL s n).1 = ctp (bgE s) n
  | 0 => rfl
  | n + 1 => by
    have := exL_1 (s := s) n
    unfold exL
    by_cases c : bgE s n = true
    · rw [if_pos c, ctp_t c, this]
    · rw [if_neg c, ctp_f c]
      by_cases c2 : (lpS s n).isSome = true
      · rw [if_pos c2]; exact this
      · rw [if_neg c2]; exact this
theorem gw_lv {s : Sd} {t : Nat} (h : (lpS s t).isSome = true) (hb : ¬ bgE s t = true) : ∃ m, t = m + 1 ∧ (lpS s m).isSome = true := by
  unfold bgE at hb
  rw [h] at hb
  have hg : gwE s t = true := by
    cases hg : gwE s t with
    | true => rfl
    | false => rw [hg] at hb; exact absurd rfl hb
  cases t with
  | zero => cases hg
  | succ m =>
    refine ⟨m, rfl, ?_⟩
    rw [gw_s] at hg
    cases h1 : lpS s m with
    | some a => rfl
    | none => rw [h1, gw_n2] at hg; cases hg
/-- what the list of extents has, behind n tracks -/
def ExI (s : Sd) (n : Nat) (p : Nat × (Nat → Nat) × (Nat → Nat)) : Prop :=
  (∀ i, i < p.1 → p.2.1 i < n ∧ bgE s (p.2.1 i) = true ∧ ctp (bgE s) (p.2.1 i) = i ∧ 1 ≤ p.2.2 i ∧ p.2.1 i + p.2.2 i ≤ n ∧ (∀ t, p.2.1 i < t → t < p.2.1 i + p.2.2 i → (lpS s t).isSome = true ∧ ¬ bgE s t = true) ∧ (p.2.1 i + p.2.2 i < n → ¬ (lpS s (p.2.1 i + p.2.2 i)).isSome = true ∨ bgE s (p.2.1 i + p.2.2 i) = true)) ∧ (∀ i, i + 1 < p.1 → p.2.1 i + p.2.2 i ≤ p.2.1 (i + 1)) ∧ (∀ m, n = m + 1 → (lpS s m).isSome = true → 1 ≤ p.1 ∧ p.2.1 (p.1 - 1) + p.2.2 (p.1 - 1) = n)
theorem exI {s : Sd} : ∀ n, ExI s n (exL s n)
  | 0 => ⟨fun i hi => absurd hi (Nat.not_lt_zero i), fun i hi => absurd hi (Nat.not_lt_zero _), fun m h => absurd h (by omega)⟩
  | n + 1 => by
    have h1 := exL_1 (s := s) n
    obtain ⟨a1, a2, a3⟩ := exI (s := s) n
    unfold exL
    generalize exL s n = p at *
    obtain ⟨c, fr, mn⟩ := p
    by_cases cb : bgE s n = true
    · rw [if_pos cb]
      refine ⟨fun i hi => ?_, fun i hi => ?_, fun m hm hl => ?_⟩
      · show va_up fr c n i < n + 1 ∧ bgE s (va_up fr c n i) = true ∧ ctp (bgE s) (va_up fr c n i) = i ∧ 1 ≤ va_up mn c 1 i ∧ va_up fr c n i + va_up mn c 1 i ≤ n + 1 ∧ (∀ t, va_up fr c n i < t → t < va_up fr c n i + va_up mn c 1 i → (lpS s t).isSome = true ∧ ¬ bgE s t = true) ∧ (va_up fr c n i + va_up mn c 1 i < n + 1 → ¬ (lpS s (va_up fr c n i + va_up mn c 1 i)).isSome = true ∨ bgE s (va_up fr c n i + va_up mn c 1 i) = true)
        by_cases e : i = c
        · subst e
          rw [va_up_self, va_up_self]
          exact ⟨by omega, cb, h1.symm, Nat.le_refl _, Nat.le_refl _, fun t x y => absurd x (by omega), fun z => absurd z (by omega)⟩
        · have hi' : i < c := by have : i < c + 1 := hi; omega
          rw [va_up_ne _ _ e, va_up_ne _ _ e]
          obtain ⟨b1, b2, b3, b4, b5, b6, b7⟩ := a1 i hi'
          simp only at b1 b2 b3 b4 b5 b6 b7
          refine ⟨by omega, b2, b3, b4, by omega, b6, fun z => ?_⟩
          by_cases e2 : fr i + mn i = n
          · rw [e2]; exact Or.inr cb
          · exact b7 (by omega)
      · show va_up fr c n i + va_up mn c 1 i ≤ va_up fr c n (i + 1)
        have hi' : i < c := by have : i + 1 < c + 1 := hi; omega
        rw [va_up_ne _ _ (by omega), va_up_ne _ _ (by omega)]
        by_cases e : i + 1 = c
        · rw [e, va_up_self]
          have := (a1 i hi').2.2.2.2.1
          exact this
        · rw [va_up_ne _ _ e]
          exact a2 i (show i + 1 < c by omega)
      · refine ⟨Nat.succ_le_succ (Nat.zero_le _), ?_⟩
        show va_up fr c n (c + 1 - 1) + va_up mn c 1 (c + 1 - 1) = n + 1
        rw [Nat.add_sub_cancel, va_up_self, va_up_self]
    · rw [if_neg cb]
      by_cases cl : (lpS s n).isSome = true
      · rw [if_pos cl]
        obtain ⟨m, e1, e2⟩ := gw_lv cl cb
        obtain ⟨q1, q2⟩ := a3 m e1 e2
        simp only at q1 q2
        refine ⟨fun i hi => ?_, fun i hi => ?_, fun m hm hl => ?_⟩
        · show fr i < n + 1 ∧ bgE s (fr i) = true ∧ ctp (bgE s) (fr i) = i ∧ 1 ≤ va_up mn (c - 1) (mn (c - 1) + 1) i ∧ fr i + va_up mn (c - 1) (mn (c - 1) + 1) i ≤ n + 1 ∧ (∀ t, fr i < t → t < fr i + va_up mn (c - 1) (mn (c - 1) + 1) i → (lpS s t).isSome = true ∧ ¬ bgE s t = true) ∧ (fr i + va_up mn (c - 1) (mn (c - 1) + 1) i < n + 1 → ¬ (lpS s (fr i + va_up mn (c - 1) (mn (c - 1) + 1) i)).isSome = true ∨ bgE s (fr i + va_up mn (c - 1) (mn (c - 1) + 1) i) = true)
          have hi' : i < c := hi
          obtain ⟨b1, b2, b3, b4, b5, b6, b7⟩ := a1 i hi'
          simp only at b1 b2 b3 b4 b5 b6 b7
          by_cases e : i = c - 1
          · rw [← e] at q2
            rw [← e, va_up_self]
            refine ⟨by omega, b2, b3, by omega, by omega, fun t x y => ?_, fun z => absurd z (by omega)⟩
            by_cases e3 : t = n
            · rw [e3]; exact ⟨cl, cb⟩
            · exact b6 t x (by omega)
          · rw [va_up_ne _ _ e]
            have h2 := a2 i (show i + 1 < c by omega)
            have h3 := (a1 (i + 1) (show i + 1 < c by omega)).1
            simp only at h2 h3
            exact ⟨by omega, b2, b3, b4, by omega, b6, fun z => b7 (by omega)⟩
        · show fr i + va_up mn (c - 1) (mn (c - 1) + 1) i ≤ fr (i + 1)
          have hi' : i + 1 < c := hi
          rw [va_up_ne _ _ (by omega)]
          exact a2 i hi'
        · refine ⟨q1, ?_⟩
          show fr (c - 1) + va_up mn (c - 1) (mn (c - 1) + 1) (c - 1) = n + 1
          rw [va_up_self]
          omega
      · rw [if_neg cl]
        refine ⟨fun i hi => ?_, a2, fun m hm hl => ?_⟩
        · obtain ⟨b1, b2, b3, b4, b5, b6, b7⟩ := a1 i hi
          refine ⟨by omega, b2, b3, b4, by omega, b6, fun z => ?_⟩
          by_cases e2 : fr i + mn i = n
          · simp only
            rw [e2]; exact Or.inl cl
          · exact b7 (by simp only at z ⊢; omega)
        · have : m = n := by omega
          rw [this] at hl
          exact absurd hl cl
section EXT
variable {w : Wd} {j : Nat} {o : Ob} {D : Dk} {s : Sd} {nd : Nat} {f : Nat → Int32}
theorem x_lpm (hD : WFD D) (hW : WFS D s) (hR : RX o s) : ∀ k, k ≤ sn s → ∀ m, k < m → fX7_livePlaceOf_15 j m (sO w 7 j o) m1 (nI k - nI 1) = some (m1, sO w 7 j o) := by
  have hn := hW.n24 hD
  intro k
  induction k with
  | zero =>
    intro _ m hm
    obtain ⟨m, rfl⟩ : ∃ q, m = q + 1 := ⟨m - 1, by omega⟩
    rw [fX7_livePlaceOf_15.eq_2, nI_z]
    simp (disch := omega) only [↓mo_1, ↓mo_2, ad_m1, ite_m1_lt, ite_m2_lt, ite_le_m1, ite_eq_m1, ite_eq_m2, ite_m1_m1, ite_m2_m2, ite_T, ite_F, ite_nz, ite_zz, ite_m1_le, ite_m1_eq, oi_none, oi_some, ob_some, lw_def, ck_true, ckp_su, ite_lt_t, ite_lt_f, ite_le_t, ite_le_f, ite_eq_t, ite_eq_f, ck_inb, nI_add, sb_nI, mu_nI, nI_clamp, sO_at, sO_sO, Nat.add_sub_cancel, Nat.zero_add, Nat.add_zero, li_0, li_1, li_2, li_3, li_4, li_5, li_6, li_7, li_8, li_9, li_10, li_11, li_12, li_16, li_20, li_24, li_31, li_32, li_48, li_49, li_73, li_74, li_75, li_97, li_98, li_99, li_100, li_101, li_109, li_110, li_255, li_680, li_700, li_9999, li_65536, li_65537]
  | succ k ih =>
    intro hk m hm
    obtain ⟨m, rfl⟩ : ∃ q, m = q + 1 := ⟨m - 1, by omega⟩
    have h1 := hR.2.2.1 k (by omega)
    have h2 := hW.e31 hD (i := k) (by omega)
    rw [fX7_livePlaceOf_15.eq_2]
    simp (disch := omega) only [↓mo_1, ↓mo_2, ad_m1, ite_m1_lt, ite_m2_lt, ite_le_m1, ite_eq_m1, ite_eq_m2, ite_m1_m1, ite_m2_m2, ite_T, ite_F, ite_nz, ite_zz, ite_m1_le, ite_m1_eq, oi_none, oi_some, ob_some, lw_def, ck_true, ckp_su, ite_lt_t, ite_lt_f, ite_le_t, ite_le_f, ite_eq_t, ite_eq_f, ck_inb, nI_add, sb_nI, mu_nI, nI_clamp, sO_at, sO_sO, Nat.add_sub_cancel, Nat.zero_add, Nat.add_zero, li_0, li_1, li_2, li_3, li_4, li_5, li_6, li_7, li_8, li_9, li_10, li_11, li_12, li_16, li_20, li_24, li_31, li_32, li_48, li_49, li_73, li_74, li_75, li_97, li_98, li_99, li_100, li_101, li_109, li_110, li_255, li_680, li_700, li_9999, li_65536, li_65537, h1]
    exact ih (by omega) m (by omega)
theorem x_lpM (hD : WFD D) (hW : WFS D s) (hR : RX o s) : fX7_livePlaceOf j (sO w 7 j o) m1 = some (m1, sO w 7 j o) := by
  have hn := hW.n24 hD
  unfold fX7_livePlaceOf
  simp (disch := omega) only [sO_at, hR.2.1, lw_def, ite_lt_f, li_1]
  exact x_lpm hD hW hR _ (Nat.le_refl _) fuel0 (by unfold fuel0; omega)
theorem x_begins (hD : WFD D) (hW : WFS D s) (hR : RX o s) {t : Nat} (ht : t < 2 ^ 30) : fX7_beginsExtent j (sO w 7 j o) (nI t) = some (b2i (bgE s t), sO w 7 j o) := by
  have hn := hW.n24 hD
  unfold fX7_beginsExtent
  rw [x_livePlaceOf hD hW hR (by omega)]
  unfold bgE
  cases h1 : lpS s t with
  | none =>
    simp (disch := omega) only [↓mo_1, ↓mo_2, ad_m1, ite_m1_lt, ite_m2_lt, ite_le_m1, ite_eq_m1, ite_eq_m2, ite_m1_m1, ite_m2_m2, ite_T, ite_F, ite_nz, ite_zz, ite_m1_le, ite_m1_eq, oi_none, oi_some, ob_some, lw_def, ck_true, ckp_su, ite_lt_t, ite_lt_f, ite_le_t, ite_le_f, ite_eq_t, ite_eq_f, ck_inb, nI_add, sb_nI, mu_nI, nI_clamp, sO_at, sO_sO, Nat.add_sub_cancel, Nat.zero_add, Nat.add_zero, li_0, li_1, li_2, li_3, li_4, li_5, li_6, li_7, li_8, li_9, li_10, li_11, li_12, li_16, li_20, li_24, li_31, li_32, li_48, li_49, li_73, li_74, li_75, li_97, li_98, li_99, li_100, li_101, li_109, li_110, li_255, li_680, li_700, li_9999, li_65536, li_65537]
    rfl
  | some a =>
    have ha := (lpS_lt h1).1
    cases t with
    | zero =>
      cases a with
      | zero =>
        simp (disch := omega) only [↓mo_1, ↓mo_2, ad_m1, ite_m1_lt, ite_m2_lt, ite_le_m1, ite_eq_m1, ite_eq_m2, ite_m1_m1, ite_m2_m2, ite_T, ite_F, ite_nz, ite_zz, ite_m1_le, ite_m1_eq, oi_none, oi_some, ob_some, lw_def, ck_true, ckp_su, ite_lt_t, ite_lt_f, ite_le_t, ite_le_f, ite_eq_t, ite_eq_f, ck_inb, nI_add, sb_nI, mu_nI, nI_clamp, sO_at, sO_sO, Nat.add_sub_cancel, Nat.zero_add, Nat.add_zero, li_0, li_1, li_2, li_3, li_4, li_5, li_6, li_7, li_8, li_9, li_10, li_11, li_12, li_16, li_20, li_24, li_31, li_32, li_48, li_49, li_73, li_74, li_75, li_97, li_98, li_99, li_100, li_101, li_109, li_110, li_255, li_680, li_700, li_9999, li_65536, li_65537]
        rfl
      | succ a =>
        simp (disch := omega) only [↓mo_1, ↓mo_2, ad_m1, ite_m1_lt, ite_m2_lt, ite_le_m1, ite_eq_m1, ite_eq_m2, ite_m1_m1, ite_m2_m2, ite_T, ite_F, ite_nz, ite_zz, ite_m1_le, ite_m1_eq, oi_none, oi_some, ob_some, lw_def, ck_true, ckp_su, ite_lt_t, ite_lt_f, ite_le_t, ite_le_f, ite_eq_t, ite_eq_f, ck_inb, nI_add, sb_nI, mu_nI, nI_clamp, sO_at, sO_sO, Nat.add_sub_cancel, Nat.zero_add, Nat.add_zero, li_0, li_1, li_2, li_3, li_4, li_5, li_6, li_7, li_8, li_9, li_10, li_11, li_12, li_16, li_20, li_24, li_31, li_32, li_48, li_49, li_73, li_74, li_75, li_97, li_98, li_99, li_100, li_101, li_109, li_110, li_255, li_680, li_700, li_9999, li_65536, li_65537, nI_z, x_lpM hD hW hR]
        rfl
    | succ t =>
      cases a with
      | zero =>
        simp (disch := omega) only [↓mo_1, ↓mo_2, ad_m1, ite_m1_lt, ite_m2_lt, ite_le_m1, ite_eq_m1, ite_eq_m2, ite_m1_m1, ite_m2_m2, ite_T, ite_F, ite_nz, ite_zz, ite_m1_le, ite_m1_eq, oi_none, oi_some, ob_some, lw_def, ck_true, ckp_su, ite_lt_t, ite_lt_f, ite_le_t, ite_le_f, ite_eq_t, ite_eq_f, ck_inb, nI_add, sb_nI, mu_nI, nI_clamp, sO_at, sO_sO, Nat.add_sub_cancel, Nat.zero_add, Nat.add_zero, li_0, li_1, li_2, li_3, li_4, li_5, li_6, li_7, li_8, li_9, li_10, li_11, li_12, li_16, li_20, li_24, li_31, li_32, li_48, li_49, li_73, li_74, li_75, li_97, li_98, li_99, li_100, li_101, li_109, li_110, li_255, li_680, li_700, li_9999, li_65536, li_65537]
        rw [gw_s, h1]
        cases h2 : lpS s t with
        | none => rfl
        | some b => rfl
      | succ a =>
        simp (disch := omega) only [↓mo_1, ↓mo_2, ad_m1, ite_m1_lt, ite_m2_lt, ite_le_m1, ite_eq_m1, ite_eq_m2, ite_m1_m1, ite_m2_m2, ite_T, ite_F, ite_nz, ite_zz, ite_m1_le, ite_m1_eq, oi_none, oi_some, ob_some, lw_def, ck_true, ckp_su, ite_lt_t, ite_lt_f, ite_le_t, ite_le_f, ite_eq_t, ite_eq_f, ck_inb, nI_add, sb_nI, mu_nI, nI_clamp, sO_at, sO_sO, Nat.add_sub_cancel, Nat.zero_add, Nat.add_zero, li_0, li_1, li_2, li_3, li_4, li_5, li_6, li_7, li_8, li_9, li_10, li_11, li_12, li_16, li_20, li_24, li_31, li_32, li_48, li_49, li_73, li_74, li_75, li_97, li_98, li_99, li_100, li_101, li_109, li_110, li_255, li_680, li_700, li_9999, li_65536, li_65537, x_livePlaceOf hD hW hR]
        rw [gw_s, h1]
        cases h2 : lpS s t with
        | none =>
          simp (disch := omega) only [↓mo_1, ↓mo_2, ad_m1, ite_m1_lt, ite_m2_lt, ite_le_m1, ite_eq_m1, ite_eq_m2, ite_m1_m1, ite_m2_m2, ite_T, ite_F, ite_nz, ite_zz, ite_m1_le, ite_m1_eq, oi_none, oi_some, ob_some, lw_def, ck_true, ckp_su, ite_lt_t, ite_lt_f, ite_le_t, ite_le_f, ite_eq_t, ite_eq_f, ck_inb, nI_add, sb_nI, mu_nI, nI_clamp, sO_at, sO_sO, Nat.add_sub_cancel, Nat.zero_add, Nat.add_zero, li_0, li_1, li_2, li_3, li_4, li_5, li_6, li_7, li_8, li_9, li_10, li_11, li_12, li_16, li_20, li_24, li_31, li_32, li_48, li_49, li_73, li_74, li_75, li_97, li_98, li_99, li_100, li_101, li_109, li_110, li_255, li_680, li_700, li_9999, li_65536, li_65537]
          rfl
        | some b =>
          rw [gw_ss]
          have hb := (lpS_lt h2).1
          by_cases c : b = a
          · subst c
            simp (disch := omega) only [↓mo_1, ↓mo_2, ad_m1, ite_m1_lt, ite_m2_lt, ite_le_m1, ite_eq_m1, ite_eq_m2, ite_m1_m1, ite_m2_m2, ite_T, ite_F, ite_nz, ite_zz, ite_m1_le, ite_m1_eq, oi_none, oi_some, ob_some, lw_def, ck_true, ckp_su, ite_lt_t, ite_lt_f, ite_le_t, ite_le_f, ite_eq_t, ite_eq_f, ck_inb, nI_add, sb_nI, mu_nI, nI_clamp, sO_at, sO_sO, Nat.add_sub_cancel, Nat.zero_add, Nat.add_zero, li_0, li_1, li_2, li_3, li_4, li_5, li_6, li_7, li_8, li_9, li_10, li_11, li_12, li_16, li_20, li_24, li_31, li_32, li_48, li_49, li_73, li_74, li_75, li_97, li_98, li_99, li_100, li_101, li_109, li_110, li_255, li_680, li_700, li_9999, li_65536, li_65537]
            rfl
          · simp (disch := omega) only [↓mo_1, ↓mo_2, ad_m1, ite_m1_lt, ite_m2_lt, ite_le_m1, ite_eq_m1, ite_eq_m2, ite_m1_m1, ite_m2_m2, ite_T, ite_F, ite_nz, ite_zz, ite_m1_le, ite_m1_eq, oi_none, oi_some, ob_some, lw_def, ck_true, ckp_su, ite_lt_t, ite_lt_f, ite_le_t, ite_le_f, ite_eq_t, ite_eq_f, ck_inb, nI_add, sb_nI, mu_nI, nI_clamp, sO_at, sO_sO, Nat.add_sub_cancel, Nat.zero_add, Nat.add_zero, li_0, li_1, li_2, li_3, li_4, li_5, li_6, li_7, li_8, li_9, li_10, li_11, li_12, li_16, li_20, li_24, li_31, li_32, li_48, li_49, li_73, li_74, li_75, li_97, li_98, li_99, li_100, li_101, li_109, li_110, li_255, li_680, li_700, li_9999, li_65536, li_65537]
            rw [decide_eq_false (by omega)]
            rfl
theorem m_goesWith (hD : WFD D) (hW : WFS D s) (hR : RM f s) {t : Nat} (ht : t < 2 ^ 30) : fX11_goesWith nd (mX w f) (nI t) = some (b2i (gwE s t), mX w f) := by
  have hn := hW.n24 hD
  unfold fX11_goesWith
  cases t with
  | zero =>
    simp (disch := omega) only [↓mo_1, ↓mo_2, ad_m1, ite_m1_lt, ite_m2_lt, ite_le_m1, ite_eq_m1, ite_eq_m2, ite_m1_m1, ite_m2_m2, ite_T, ite_F, ite_nz, ite_zz, ite_m1_le, ite_m1_eq, oi_none, oi_some, ob_some, lw_def, ck_true, ckp_su, ite_lt_t, ite_lt_f, ite_le_t, ite_le_f, ite_eq_t, ite_eq_f, ck_inb, nI_add, sb_nI, mu_nI, nI_clamp, sO_at, sO_sO, Nat.add_sub_cancel, Nat.zero_add, Nat.add_zero, li_0, li_1, li_2, li_3, li_4, li_5, li_6, li_7, li_8, li_9, li_10, li_11, li_12, li_16, li_20, li_24, li_31, li_32, li_48, li_49, li_73, li_74, li_75, li_97, li_98, li_99, li_100, li_101, li_109, li_110, li_255, li_680, li_700, li_9999, li_65536, li_65537]
    rfl
  | succ t =>
    simp (disch := omega) only [↓mo_1, ↓mo_2, ad_m1, ite_m1_lt, ite_m2_lt, ite_le_m1, ite_eq_m1, ite_eq_m2, ite_m1_m1, ite_m2_m2, ite_T, ite_F, ite_nz, ite_zz, ite_m1_le, ite_m1_eq, oi_none, oi_some, ob_some, lw_def, ck_true, ckp_su, ite_lt_t, ite_lt_f, ite_le_t, ite_le_f, ite_eq_t, ite_eq_f, ck_inb, nI_add, sb_nI, mu_nI, nI_clamp, sO_at, sO_sO, Nat.add_sub_cancel, Nat.zero_add, Nat.add_zero, li_0, li_1, li_2, li_3, li_4, li_5, li_6, li_7, li_8, li_9, li_10, li_11, li_12, li_16, li_20, li_24, li_31, li_32, li_48, li_49, li_73, li_74, li_75, li_97, li_98, li_99, li_100, li_101, li_109, li_110, li_255, li_680, li_700, li_9999, li_65536, li_65537, m_liveOf hD hW hR]
    rw [gw_s]
    cases h1 : lpS s (t + 1) with
    | none =>
      simp (disch := omega) only [↓mo_1, ↓mo_2, ad_m1, ite_m1_lt, ite_m2_lt, ite_le_m1, ite_eq_m1, ite_eq_m2, ite_m1_m1, ite_m2_m2, ite_T, ite_F, ite_nz, ite_zz, ite_m1_le, ite_m1_eq, oi_none, oi_some, ob_some, lw_def, ck_true, ckp_su, ite_lt_t, ite_lt_f, ite_le_t, ite_le_f, ite_eq_t, ite_eq_f, ck_inb, nI_add, sb_nI, mu_nI, nI_clamp, sO_at, sO_sO, Nat.add_sub_cancel, Nat.zero_add, Nat.add_zero, li_0, li_1, li_2, li_3, li_4, li_5, li_6, li_7, li_8, li_9, li_10, li_11, li_12, li_16, li_20, li_24, li_31, li_32, li_48, li_49, li_73, li_74, li_75, li_97, li_98, li_99, li_100, li_101, li_109, li_110, li_255, li_680, li_700, li_9999, li_65536, li_65537, gw_n1]
      rfl
    | some a =>
      have ha := (lpS_lt h1).1
      cases h2 : lpS s t with
      | none =>
        simp (disch := omega) only [↓mo_1, ↓mo_2, ad_m1, ite_m1_lt, ite_m2_lt, ite_le_m1, ite_eq_m1, ite_eq_m2, ite_m1_m1, ite_m2_m2, ite_T, ite_F, ite_nz, ite_zz, ite_m1_le, ite_m1_eq, oi_none, oi_some, ob_some, lw_def, ck_true, ckp_su, ite_lt_t, ite_lt_f, ite_le_t, ite_le_f, ite_eq_t, ite_eq_f, ck_inb, nI_add, sb_nI, mu_nI, nI_clamp, sO_at, sO_sO, Nat.add_sub_cancel, Nat.zero_add, Nat.add_zero, li_0, li_1, li_2, li_3, li_4, li_5, li_6, li_7, li_8, li_9, li_10, li_11, li_12, li_16, li_20, li_24, li_31, li_32, li_48, li_49, li_73, li_74, li_75, li_97, li_98, li_99, li_100, li_101, li_109, li_110, li_255, li_680, li_700, li_9999, li_65536, li_65537, gw_n2]
        rfl
      | some b =>
        rw [gw_ss]
        have hb := (lpS_lt h2).1
        by_cases c : a = b + 1
        · subst c
          simp (disch := omega) only [↓mo_1, ↓mo_2, ad_m1, ite_m1_lt, ite_m2_lt, ite_le_m1, ite_eq_m1, ite_eq_m2, ite_m1_m1, ite_m2_m2, ite_T, ite_F, ite_nz, ite_zz, ite_m1_le, ite_m1_eq, oi_none, oi_some, ob_some, lw_def, ck_true, ckp_su, ite_lt_t, ite_lt_f, ite_le_t, ite_le_f, ite_eq_t, ite_eq_f, ck_inb, nI_add, sb_nI, mu_nI, nI_clamp, sO_at, sO_sO, Nat.add_sub_cancel, Nat.zero_add, Nat.add_zero, li_0, li_1, li_2, li_3, li_4, li_5, li_6, li_7, li_8, li_9, li_10, li_11, li_12, li_16, li_20, li_24, li_31, li_32, li_48, li_49, li_73, li_74, li_75, li_97, li_98, li_99, li_100, li_101, li_109, li_110, li_255, li_680, li_700, li_9999, li_65536, li_65537]
          rfl
        · simp (disch := omega) only [↓mo_1, ↓mo_2, ad_m1, ite_m1_lt, ite_m2_lt, ite_le_m1, ite_eq_m1, ite_eq_m2, ite_m1_m1, ite_m2_m2, ite_T, ite_F, ite_nz, ite_zz, ite_m1_le, ite_m1_eq, oi_none, oi_some, ob_some, lw_def, ck_true, ckp_su, ite_lt_t, ite_lt_f, ite_le_t, ite_le_f, ite_eq_t, ite_eq_f, ck_inb, nI_add, sb_nI, mu_nI, nI_clamp, sO_at, sO_sO, Nat.add_sub_cancel, Nat.zero_add, Nat.add_zero, li_0, li_1, li_2, li_3, li_4, li_5, li_6, li_7, li_8, li_9, li_10, li_11, li_12, li_16, li_20, li_24, li_31, li_32, li_48, li_49, li_73, li_74, li_75, li_97, li_98, li_99, li_100, li_101, li_109, li_110, li_255, li_680, li_700, li_9999, li_65536, li_65537]
          rw [decide_eq_false c]
          rfl
theorem x_eb (hD : WFD D) (hW : WFS D s) (hR : RX o s) {l : Nat} (hl : l < 48) : ∀ r t, t + r = l + 1 → ∀ m, r < m → fX7_extentsBegunBy_4 j m (sO w 7 j o) (nI l) (nI (ctp (bgE s) t)) (nI t) = some (nI (ctp (bgE s) (l + 1)), sO w 7 j o) := by
  intro r
  induction r with
  | zero =>
    intro t ht m hm
    obtain ⟨m, rfl⟩ : ∃ q, m = q + 1 := ⟨m - 1, by omega⟩
    have e : t = l + 1 := by omega
    subst e
    rw [fX7_extentsBegunBy_4.eq_2]
    simp (disch := omega) only [↓mo_1, ↓mo_2, ad_m1, ite_m1_lt, ite_m2_lt, ite_le_m1, ite_eq_m1, ite_eq_m2, ite_m1_m1, ite_m2_m2, ite_T, ite_F, ite_nz, ite_zz, ite_m1_le, ite_m1_eq, oi_none, oi_some, ob_some, lw_def, ck_true, ckp_su, ite_lt_t, ite_lt_f, ite_le_t, ite_le_f, ite_eq_t, ite_eq_f, ck_inb, nI_add, sb_nI, mu_nI, nI_clamp, sO_at, sO_sO, Nat.add_sub_cancel, Nat.zero_add, Nat.add_zero, li_0, li_1, li_2, li_3, li_4, li_5, li_6, li_7, li_8, li_9, li_10, li_11, li_12, li_16, li_20, li_24, li_31, li_32, li_48, li_49, li_73, li_74, li_75, li_97, li_98, li_99, li_100, li_101, li_109, li_110, li_255, li_680, li_700, li_9999, li_65536, li_65537]
  | succ r ih =>
    intro t ht m hm
    obtain ⟨m, rfl⟩ : ∃ q, m = q + 1 := ⟨m - 1, by omega⟩
    have hi2 := ih (t + 1) (by omega) m (by omega)
    have hc := ctp_le (bgE s) t
    rw [fX7_extentsBegunBy_4.eq_2]
    simp (disch := omega) only [↓mo_1, ↓mo_2, ad_m1, ite_m1_lt, ite_m2_lt, ite_le_m1, ite_eq_m1, ite_eq_m2, ite_m1_m1, ite_m2_m2, ite_T, ite_F, ite_nz, ite_zz, ite_m1_le, ite_m1_eq, oi_none, oi_some, ob_some, lw_def, ck_true, ckp_su, ite_lt_t, ite_lt_f, ite_le_t, ite_le_f, ite_eq_t, ite_eq_f, ck_inb, nI_add, sb_nI, mu_nI, nI_clamp, sO_at, sO_sO, Nat.add_sub_cancel, Nat.zero_add, Nat.add_zero, li_0, li_1, li_2, li_3, li_4, li_5, li_6, li_7, li_8, li_9, li_10, li_11, li_12, li_16, li_20, li_24, li_31, li_32, li_48, li_49, li_73, li_74, li_75, li_97, li_98, li_99, li_100, li_101, li_109, li_110, li_255, li_680, li_700, li_9999, li_65536, li_65537, x_begins hD hW hR]
    cases hb : bgE s t with
    | true =>
      rw [ctp_t hb] at hi2
      simp (disch := omega) only [↓mo_1, ↓mo_2, ad_m1, ite_m1_lt, ite_m2_lt, ite_le_m1, ite_eq_m1, ite_eq_m2, ite_m1_m1, ite_m2_m2, ite_T, ite_F, ite_nz, ite_zz, ite_m1_le, ite_m1_eq, oi_none, oi_some, ob_some, lw_def, ck_true, ckp_su, ite_lt_t, ite_lt_f, ite_le_t, ite_le_f, ite_eq_t, ite_eq_f, ck_inb, nI_add, sb_nI, mu_nI, nI_clamp, sO_at, sO_sO, Nat.add_sub_cancel, Nat.zero_add, Nat.add_zero, li_0, li_1, li_2, li_3, li_4, li_5, li_6, li_7, li_8, li_9, li_10, li_11, li_12, li_16, li_20, li_24, li_31, li_32, li_48, li_49, li_73, li_74, li_75, li_97, li_98, li_99, li_100, li_101, li_109, li_110, li_255, li_680, li_700, li_9999, li_65536, li_65537, b2i_t]
      exact hi2
    | false =>
      rw [ctp_f (by rw [hb]; simp)] at hi2
      simp (disch := omega) only [↓mo_1, ↓mo_2, ad_m1, ite_m1_lt, ite_m2_lt, ite_le_m1, ite_eq_m1, ite_eq_m2, ite_m1_m1, ite_m2_m2, ite_T, ite_F, ite_nz, ite_zz, ite_m1_le, ite_m1_eq, oi_none, oi_some, ob_some, lw_def, ck_true, ckp_su, ite_lt_t, ite_lt_f, ite_le_t, ite_le_f, ite_eq_t, ite_eq_f, ck_inb, nI_add, sb_nI, mu_nI, nI_clamp, sO_at, sO_sO, Nat.add_sub_cancel, Nat.zero_add, Nat.add_zero, li_0, li_1, li_2, li_3, li_4, li_5, li_6, li_7, li_8, li_9, li_10, li_11, li_12, li_16, li_20, li_24, li_31, li_32, li_48, li_49, li_73, li_74, li_75, li_97, li_98, li_99, li_100, li_101, li_109, li_110, li_255, li_680, li_700, li_9999, li_65536, li_65537, b2i_f]
      exact hi2
theorem x_extentsBegunBy (hD : WFD D) (hW : WFS D s) (hR : RX o s) {l : Nat} (hl : l < 48) : fX7_extentsBegunBy j (sO w 7 j o) (nI l) = some (nI (ctp (bgE s) (l + 1)), sO w 7 j o) :=
  x_eb hD hW hR hl (l + 1) 0 (by omega) fuel0 (by unfold fuel0; omega)
theorem x_fe (hD : WFD D) (hW : WFS D s) (hR : RX o s) {n i : Nat} (hn : n ≤ 48) (hi : i < (exL s n).1) : ∀ r t, t + r = (exL s n).2.1 i → ∀ m, r < m → fX7_firstOfExtent_5 j m (sO w 7 j o) (nI i) (nI n) (nI (ctp (bgE s) t)) (nI t) = some (nI ((exL s n).2.1 i), sO w 7 j o) := by
  obtain ⟨b1, b2, b3, -⟩ := (exI (s := s) n).1 i hi
  intro r
  induction r with
  | zero =>
    intro t ht m hm
    obtain ⟨m, rfl⟩ : ∃ q, m = q + 1 := ⟨m - 1, by omega⟩
    have e : t = (exL s n).2.1 i := by omega
    rw [← e] at b1 b2 b3 ⊢
    have hc := ctp_le (bgE s) t
    rw [fX7_firstOfExtent_5.eq_2]
    simp (disch := omega) only [↓mo_1, ↓mo_2, ad_m1, ite_m1_lt, ite_m2_lt, ite_le_m1, ite_eq_m1, ite_eq_m2, ite_m1_m1, ite_m2_m2, ite_T, ite_F, ite_nz, ite_zz, ite_m1_le, ite_m1_eq, oi_none, oi_some, ob_some, lw_def, ck_true, ckp_su, ite_lt_t, ite_lt_f, ite_le_t, ite_le_f, ite_eq_t, ite_eq_f, ck_inb, nI_add, sb_nI, mu_nI, nI_clamp, sO_at, sO_sO, Nat.add_sub_cancel, Nat.zero_add, Nat.add_zero, li_0, li_1, li_2, li_3, li_4, li_5, li_6, li_7, li_8, li_9, li_10, li_11, li_12, li_16, li_20, li_24, li_31, li_32, li_48, li_49, li_73, li_74, li_75, li_97, li_98, li_99, li_100, li_101, li_109, li_110, li_255, li_680, li_700, li_9999, li_65536, li_65537, x_begins hD hW hR, b2, b2i_t, b3]
  | succ r ih =>
    intro t ht m hm
    obtain ⟨m, rfl⟩ : ∃ q, m = q + 1 := ⟨m - 1, by omega⟩
    have hi2 := ih (t + 1) (by omega) m (by omega)
    have hc := ctp_le (bgE s) t
    have hc2 := ctp_le (bgE s) n
    have hx := exL_1 (s := s) n
    rw [fX7_firstOfExtent_5.eq_2]
    simp (disch := omega) only [↓mo_1, ↓mo_2, ad_m1, ite_m1_lt, ite_m2_lt, ite_le_m1, ite_eq_m1, ite_eq_m2, ite_m1_m1, ite_m2_m2, ite_T, ite_F, ite_nz, ite_zz, ite_m1_le, ite_m1_eq, oi_none, oi_some, ob_some, lw_def, ck_true, ckp_su, ite_lt_t, ite_lt_f, ite_le_t, ite_le_f, ite_eq_t, ite_eq_f, ck_inb, nI_add, sb_nI, mu_nI, nI_clamp, sO_at, sO_sO, Nat.add_sub_cancel, Nat.zero_add, Nat.add_zero, li_0, li_1, li_2, li_3, li_4, li_5, li_6, li_7, li_8, li_9, li_10, li_11, li_12, li_16, li_20, li_24, li_31, li_32, li_48, li_49, li_73, li_74, li_75, li_97, li_98, li_99, li_100, li_101, li_109, li_110, li_255, li_680, li_700, li_9999, li_65536, li_65537, x_begins hD hW hR]
    cases hb : bgE s t with
    | true =>
      have hm2 := ctp_mono (p := bgE s) (a := t + 1) (b := (exL s n).2.1 i) (by omega)
      rw [ctp_t hb] at hi2 hm2
      rw [b3] at hm2
      simp (disch := omega) only [↓mo_1, ↓mo_2, ad_m1, ite_m1_lt, ite_m2_lt, ite_le_m1, ite_eq_m1, ite_eq_m2, ite_m1_m1, ite_m2_m2, ite_T, ite_F, ite_nz, ite_zz, ite_m1_le, ite_m1_eq, oi_none, oi_some, ob_some, lw_def, ck_true, ckp_su, ite_lt_t, ite_lt_f, ite_le_t, ite_le_f, ite_eq_t, ite_eq_f, ck_inb, nI_add, sb_nI, mu_nI, nI_clamp, sO_at, sO_sO, Nat.add_sub_cancel, Nat.zero_add, Nat.add_zero, li_0, li_1, li_2, li_3, li_4, li_5, li_6, li_7, li_8, li_9, li_10, li_11, li_12, li_16, li_20, li_24, li_31, li_32, li_48, li_49, li_73, li_74, li_75, li_97, li_98, li_99, li_100, li_101, li_109, li_110, li_255, li_680, li_700, li_9999, li_65536, li_65537, b2i_t]
      exact hi2
    | false =>
      rw [ctp_f (by rw [hb]; simp)] at hi2
      simp (disch := omega) only [↓mo_1, ↓mo_2, ad_m1, ite_m1_lt, ite_m2_lt, ite_le_m1, ite_eq_m1, ite_eq_m2, ite_m1_m1, ite_m2_m2, ite_T, ite_F, ite_nz, ite_zz, ite_m1_le, ite_m1_eq, oi_none, oi_some, ob_some, lw_def, ck_true, ckp_su, ite_lt_t, ite_lt_f, ite_le_t, ite_le_f, ite_eq_t, ite_eq_f, ck_inb, nI_add, sb_nI, mu_nI, nI_clamp, sO_at, sO_sO, Nat.add_sub_cancel, Nat.zero_add, Nat.add_zero, li_0, li_1, li_2, li_3, li_4, li_5, li_6, li_7, li_8, li_9, li_10, li_11, li_12, li_16, li_20, li_24, li_31, li_32, li_48, li_49, li_73, li_74, li_75, li_97, li_98, li_99, li_100, li_101, li_109, li_110, li_255, li_680, li_700, li_9999, li_65536, li_65537, b2i_f]
      exact hi2
theorem x_fo (hD : WFD D) (hW : WFS D s) (hR : RX o s) {n : Nat} {x : Int32} (hn : n ≤ 48) (hx : x < nI 0 ∨ ¬ x < nI 0 ∧ nI (exL s n).1 ≤ x) : ∀ r t, t + r = n → ∀ m, r < m → fX7_firstOfExtent_5 j m (sO w 7 j o) x (nI n) (nI (ctp (bgE s) t)) (nI t) = some (m2, sO w 7 j o) := by
  have hc2 := ctp_le (bgE s) n
  have hy := exL_1 (s := s) n
  intro r
  induction r with
  | zero =>
    intro t ht m hm
    obtain ⟨m, rfl⟩ : ∃ q, m = q + 1 := ⟨m - 1, by omega⟩
    have e : t = n := by omega
    subst e
    rw [fX7_firstOfExtent_5.eq_2]
    simp (disch := omega) only [↓mo_1, ↓mo_2, ad_m1, ite_m1_lt, ite_m2_lt, ite_le_m1, ite_eq_m1, ite_eq_m2, ite_m1_m1, ite_m2_m2, ite_T, ite_F, ite_nz, ite_zz, ite_m1_le, ite_m1_eq, oi_none, oi_some, ob_some, lw_def, ck_true, ckp_su, ite_lt_t, ite_lt_f, ite_le_t, ite_le_f, ite_eq_t, ite_eq_f, ck_inb, nI_add, sb_nI, mu_nI, nI_clamp, sO_at, sO_sO, Nat.add_sub_cancel, Nat.zero_add, Nat.add_zero, li_0, li_1, li_2, li_3, li_4, li_5, li_6, li_7, li_8, li_9, li_10, li_11, li_12, li_16, li_20, li_24, li_31, li_32, li_48, li_49, li_73, li_74, li_75, li_97, li_98, li_99, li_100, li_101, li_109, li_110, li_255, li_680, li_700, li_9999, li_65536, li_65537]
  | succ r ih =>
    intro t ht m hm
    obtain ⟨m, rfl⟩ : ∃ q, m = q + 1 := ⟨m - 1, by omega⟩
    have hi2 := ih (t + 1) (by omega) m (by omega)
    have hc := ctp_le (bgE s) t
    rw [fX7_firstOfExtent_5.eq_2]
    simp (disch := omega) only [↓mo_1, ↓mo_2, ad_m1, ite_m1_lt, ite_m2_lt, ite_le_m1, ite_eq_m1, ite_eq_m2, ite_m1_m1, ite_m2_m2, ite_T, ite_F, ite_nz, ite_zz, ite_m1_le, ite_m1_eq, oi_none, oi_some, ob_some, lw_def, ck_true, ckp_su, ite_lt_t, ite_lt_f, ite_le_t, ite_le_f, ite_eq_t, ite_eq_f, ck_inb, nI_add, sb_nI, mu_nI, nI_clamp, sO_at, sO_sO, Nat.add_sub_cancel, Nat.zero_add, Nat.add_zero, li_0, li_1, li_2, li_3, li_4, li_5, li_6, li_7, li_8, li_9, li_10, li_11, li_12, li_16, li_20, li_24, li_31, li_32, li_48, li_49, li_73, li_74, li_75, li_97, li_98, li_99, li_100, li_101, li_109, li_110, li_255, li_680, li_700, li_9999, li_65536, li_65537, x_begins hD hW hR]
    cases hb : bgE s t with
    | true =>
      have hm2 := ctp_mono (p := bgE s) (a := t + 1) (b := n) (by omega)
      rw [ctp_t hb] at hi2 hm2
      simp (disch := omega) only [↓mo_1, ↓mo_2, ad_m1, ite_m1_lt, ite_m2_lt, ite_le_m1, ite_eq_m1, ite_eq_m2, ite_m1_m1, ite_m2_m2, ite_T, ite_F, ite_nz, ite_zz, ite_m1_le, ite_m1_eq, oi_none, oi_some, ob_some, lw_def, ck_true, ckp_su, ite_lt_t, ite_lt_f, ite_le_t, ite_le_f, ite_eq_t, ite_eq_f, ck_inb, nI_add, sb_nI, mu_nI, nI_clamp, sO_at, sO_sO, Nat.add_sub_cancel, Nat.zero_add, Nat.add_zero, li_0, li_1, li_2, li_3, li_4, li_5, li_6, li_7, li_8, li_9, li_10, li_11, li_12, li_16, li_20, li_24, li_31, li_32, li_48, li_49, li_73, li_74, li_75, li_97, li_98, li_99, li_100, li_101, li_109, li_110, li_255, li_680, li_700, li_9999, li_65536, li_65537, b2i_t]
      have hne : ¬ nI (ctp (bgE s) t) = x := fun e => by
        subst e
        rcases hx with h | ⟨-, h⟩
        · exact nI_nlt (Nat.zero_le _) (by omega) h
        · exact nI_ge (by omega) (by omega) h
      rw [if_neg hne]
      exact hi2
    | false =>
      rw [ctp_f (by rw [hb]; simp)] at hi2
      simp (disch := omega) only [↓mo_1, ↓mo_2, ad_m1, ite_m1_lt, ite_m2_lt, ite_le_m1, ite_eq_m1, ite_eq_m2, ite_m1_m1, ite_m2_m2, ite_T, ite_F, ite_nz, ite_zz, ite_m1_le, ite_m1_eq, oi_none, oi_some, ob_some, lw_def, ck_true, ckp_su, ite_lt_t, ite_lt_f, ite_le_t, ite_le_f, ite_eq_t, ite_eq_f, ck_inb, nI_add, sb_nI, mu_nI, nI_clamp, sO_at, sO_sO, Nat.add_sub_cancel, Nat.zero_add, Nat.add_zero, li_0, li_1, li_2, li_3, li_4, li_5, li_6, li_7, li_8, li_9, li_10, li_11, li_12, li_16, li_20, li_24, li_31, li_32, li_48, li_49, li_73, li_74, li_75, li_97, li_98, li_99, li_100, li_101, li_109, li_110, li_255, li_680, li_700, li_9999, li_65536, li_65537, b2i_f]
      exact hi2
theorem x_el (hD : WFD D) (hW : WFS D s) (hR : RX o s) {n i : Nat} (hn : n ≤ 48) (hi : i < (exL s n).1) : ∀ r p, p + r = (exL s n).2.1 i + (exL s n).2.2 i → (exL s n).2.1 i < p → ∀ m, r < m → fX7_extentLength_4 j m (sO w 7 j o) (nI ((exL s n).2.1 i)) (nI n) (nI p) = some (nI ((exL s n).2.2 i), sO w 7 j o) := by
  have h24 := hW.n24 hD
  obtain ⟨b1, b2, b3, b4, b5, b6, b7⟩ := (exI (s := s) n).1 i hi
  intro r
  induction r with
  | zero =>
    intro p hp hf m hm
    obtain ⟨m, rfl⟩ : ∃ q, m = q + 1 := ⟨m - 1, by omega⟩
    have e : p = (exL s n).2.1 i + (exL s n).2.2 i := by omega
    rw [fX7_extentLength_4.eq_2]
    have e2 : p - (exL s n).2.1 i = (exL s n).2.2 i := by omega
    by_cases c : p < n
    · have h7 := b7 (by omega)
      rw [← e] at h7
      simp (disch := omega) only [↓mo_1, ↓mo_2, ad_m1, ite_m1_lt, ite_m2_lt, ite_le_m1, ite_eq_m1, ite_eq_m2, ite_m1_m1, ite_m2_m2, ite_T, ite_F, ite_nz, ite_zz, ite_m1_le, ite_m1_eq, oi_none, oi_some, ob_some, lw_def, ck_true, ckp_su, ite_lt_t, ite_lt_f, ite_le_t, ite_le_f, ite_eq_t, ite_eq_f, ck_inb, nI_add, sb_nI, mu_nI, nI_clamp, sO_at, sO_sO, Nat.add_sub_cancel, Nat.zero_add, Nat.add_zero, li_0, li_1, li_2, li_3, li_4, li_5, li_6, li_7, li_8, li_9, li_10, li_11, li_12, li_16, li_20, li_24, li_31, li_32, li_48, li_49, li_73, li_74, li_75, li_97, li_98, li_99, li_100, li_101, li_109, li_110, li_255, li_680, li_700, li_9999, li_65536, li_65537, x_livePlaceOf hD hW hR]
      cases hl : lpS s p with
      | none =>
        simp (disch := omega) only [↓mo_1, ↓mo_2, ad_m1, ite_m1_lt, ite_m2_lt, ite_le_m1, ite_eq_m1, ite_eq_m2, ite_m1_m1, ite_m2_m2, ite_T, ite_F, ite_nz, ite_zz, ite_m1_le, ite_m1_eq, oi_none, oi_some, ob_some, lw_def, ck_true, ckp_su, ite_lt_t, ite_lt_f, ite_le_t, ite_le_f, ite_eq_t, ite_eq_f, ck_inb, nI_add, sb_nI, mu_nI, nI_clamp, sO_at, sO_sO, Nat.add_sub_cancel, Nat.zero_add, Nat.add_zero, li_0, li_1, li_2, li_3, li_4, li_5, li_6, li_7, li_8, li_9, li_10, li_11, li_12, li_16, li_20, li_24, li_31, li_32, li_48, li_49, li_73, li_74, li_75, li_97, li_98, li_99, li_100, li_101, li_109, li_110, li_255, li_680, li_700, li_9999, li_65536, li_65537, e2]
      | some z =>
        have hz := (lpS_lt hl).1
        rcases h7 with h7 | h7
        · rw [hl] at h7; exact absurd rfl h7
        · simp (disch := omega) only [↓mo_1, ↓mo_2, ad_m1, ite_m1_lt, ite_m2_lt, ite_le_m1, ite_eq_m1, ite_eq_m2, ite_m1_m1, ite_m2_m2, ite_T, ite_F, ite_nz, ite_zz, ite_m1_le, ite_m1_eq, oi_none, oi_some, ob_some, lw_def, ck_true, ckp_su, ite_lt_t, ite_lt_f, ite_le_t, ite_le_f, ite_eq_t, ite_eq_f, ck_inb, nI_add, sb_nI, mu_nI, nI_clamp, sO_at, sO_sO, Nat.add_sub_cancel, Nat.zero_add, Nat.add_zero, li_0, li_1, li_2, li_3, li_4, li_5, li_6, li_7, li_8, li_9, li_10, li_11, li_12, li_16, li_20, li_24, li_31, li_32, li_48, li_49, li_73, li_74, li_75, li_97, li_98, li_99, li_100, li_101, li_109, li_110, li_255, li_680, li_700, li_9999, li_65536, li_65537, x_begins hD hW hR, h7, b2i_t, e2]
    · simp (disch := omega) only [↓mo_1, ↓mo_2, ad_m1, ite_m1_lt, ite_m2_lt, ite_le_m1, ite_eq_m1, ite_eq_m2, ite_m1_m1, ite_m2_m2, ite_T, ite_F, ite_nz, ite_zz, ite_m1_le, ite_m1_eq, oi_none, oi_some, ob_some, lw_def, ck_true, ckp_su, ite_lt_t, ite_lt_f, ite_le_t, ite_le_f, ite_eq_t, ite_eq_f, ck_inb, nI_add, sb_nI, mu_nI, nI_clamp, sO_at, sO_sO, Nat.add_sub_cancel, Nat.zero_add, Nat.add_zero, li_0, li_1, li_2, li_3, li_4, li_5, li_6, li_7, li_8, li_9, li_10, li_11, li_12, li_16, li_20, li_24, li_31, li_32, li_48, li_49, li_73, li_74, li_75, li_97, li_98, li_99, li_100, li_101, li_109, li_110, li_255, li_680, li_700, li_9999, li_65536, li_65537, e2]
  | succ r ih =>
    intro p hp hf m hm
    obtain ⟨m, rfl⟩ : ∃ q, m = q + 1 := ⟨m - 1, by omega⟩
    obtain ⟨c1, c2⟩ := b6 p hf (by omega)
    have c2' : bgE s p = false := by
      cases h : bgE s p with
      | true => exact absurd h c2
      | false => rfl
    rw [fX7_extentLength_4.eq_2]
    simp (disch := omega) only [↓mo_1, ↓mo_2, ad_m1, ite_m1_lt, ite_m2_lt, ite_le_m1, ite_eq_m1, ite_eq_m2, ite_m1_m1, ite_m2_m2, ite_T, ite_F, ite_nz, ite_zz, ite_m1_le, ite_m1_eq, oi_none, oi_some, ob_some, lw_def, ck_true, ckp_su, ite_lt_t, ite_lt_f, ite_le_t, ite_le_f, ite_eq_t, ite_eq_f, ck_inb, nI_add, sb_nI, mu_nI, nI_clamp, sO_at, sO_sO, Nat.add_sub_cancel, Nat.zero_add, Nat.add_zero, li_0, li_1, li_2, li_3, li_4, li_5, li_6, li_7, li_8, li_9, li_10, li_11, li_12, li_16, li_20, li_24, li_31, li_32, li_48, li_49, li_73, li_74, li_75, li_97, li_98, li_99, li_100, li_101, li_109, li_110, li_255, li_680, li_700, li_9999, li_65536, li_65537, x_livePlaceOf hD hW hR]
    cases hl : lpS s p with
    | none => rw [hl] at c1; cases c1
    | some z =>
      have hz := (lpS_lt hl).1
      simp (disch := omega) only [↓mo_1, ↓mo_2, ad_m1, ite_m1_lt, ite_m2_lt, ite_le_m1, ite_eq_m1, ite_eq_m2, ite_m1_m1, ite_m2_m2, ite_T, ite_F, ite_nz, ite_zz, ite_m1_le, ite_m1_eq, oi_none, oi_some, ob_some, lw_def, ck_true, ckp_su, ite_lt_t, ite_lt_f, ite_le_t, ite_le_f, ite_eq_t, ite_eq_f, ck_inb, nI_add, sb_nI, mu_nI, nI_clamp, sO_at, sO_sO, Nat.add_sub_cancel, Nat.zero_add, Nat.add_zero, li_0, li_1, li_2, li_3, li_4, li_5, li_6, li_7, li_8, li_9, li_10, li_11, li_12, li_16, li_20, li_24, li_31, li_32, li_48, li_49, li_73, li_74, li_75, li_97, li_98, li_99, li_100, li_101, li_109, li_110, li_255, li_680, li_700, li_9999, li_65536, li_65537, x_begins hD hW hR, c2', b2i_f]
      exact ih (p + 1) (by omega) (by omega) m (by omega)
end EXT
