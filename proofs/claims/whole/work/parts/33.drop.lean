/-! ===== the entries of a band taken away ===== -/
def flt (kp : Nat → Bool) (e : Nat → Nat) (v : Nat → Int32) : Nat → Nat × (Nat → Nat) × (Nat → Int32)
  | 0 => (0, e, v)
  | i + 1 => if kp i = true then ((flt kp e v i).1 + 1, va_up (flt kp e v i).2.1 (flt kp e v i).1 (e i), va_up (flt kp e v i).2.2 (flt kp e v i).1 (v i)) else flt kp e v i
theorem flt_t {kp : Nat → Bool} {e : Nat → Nat} {v : Nat → Int32} {i : Nat} (h : kp i = true) : flt kp e v (i + 1) = ((flt kp e v i).1 + 1, va_up (flt kp e v i).2.1 (flt kp e v i).1 (e i), va_up (flt kp e v i).2.2 (flt kp e v i).1 (v i)) := by
  show (if kp i = true then _ else _) = _
  rw [if_pos h]
theorem flt_f {kp : Nat → Bool} {e : Nat → Nat} {v : Nat → Int32} {i : Nat} (h : ¬ kp i = true) : flt kp e v (i + 1) = flt kp e v i := by
  show (if kp i = true then _ else _) = _
  rw [if_neg h]
theorem flt_le {kp : Nat → Bool} {e : Nat → Nat} {v : Nat → Int32} : ∀ i, (flt kp e v i).1 ≤ i
  | 0 => Nat.le_refl _
  | i + 1 => by
    have := flt_le (kp := kp) (e := e) (v := v) i
    by_cases h : kp i = true
    · rw [flt_t h]; show _ + 1 ≤ _; omega
    · rw [flt_f h]; omega
theorem flt_ge {kp : Nat → Bool} {e : Nat → Nat} {v : Nat → Int32} : ∀ i p, i ≤ p → (flt kp e v i).2.1 p = e p ∧ (flt kp e v i).2.2 p = v p
  | 0, _, _ => ⟨rfl, rfl⟩
  | i + 1, p, hp => by
    have h1 := flt_ge (kp := kp) (e := e) (v := v) i p (by omega)
    have h2 := flt_le (kp := kp) (e := e) (v := v) i
    by_cases h : kp i = true
    · rw [flt_t h]
      show va_up _ _ _ p = _ ∧ va_up _ _ _ p = _
      rw [va_up_ne _ _ (by omega), va_up_ne _ _ (by omega)]
      exact h1
    · rw [flt_f h]; exact h1
/-- what is kept was there -/
theorem flt_from {kp : Nat → Bool} {e : Nat → Nat} {v : Nat → Int32} {P : Nat → Prop} {n : Nat} (hP : ∀ i, i < n → P (e i)) : ∀ i, i ≤ n → ∀ p, p < (flt kp e v i).1 → P ((flt kp e v i).2.1 p)
  | 0, _, p, hp => absurd hp (Nat.not_lt_zero p)
  | i + 1, hi, p, hp => by
    have ih := flt_from (kp := kp) (v := v) hP i (by omega)
    by_cases h : kp i = true
    · rw [flt_t h] at hp ⊢
      show P (va_up _ _ _ p)
      by_cases hq : p = (flt kp e v i).1
      · rw [hq, va_up_self]; exact hP i (by omega)
      · rw [va_up_ne _ _ hq]
        exact ih p (by have : p < (flt kp e v i).1 + 1 := hp; omega)
    · rw [flt_f h] at hp ⊢; exact ih p hp
def kpB (D : Dk) (s : Sd) (b i : Nat) : Bool := !decide (bo D (se s i) = b)
def drS (D : Dk) (s : Sd) (b : Nat) : Sd := (s.1, flt (kpB D s b) (se s) (sv s) (sn s), s.2.2)
theorem dr_wf {D : Dk} {s : Sd} {b : Nat} (hW : WFS D s) : WFS D (drS D s b) := by
  refine ⟨Nat.le_trans (flt_le _) hW.1, fun i hi => ?_, hW.2.2.1, hW.2.2.2⟩
  exact flt_from (P := fun e => e < dnt D) (n := sn s) hW.2.1 (sn s) (Nat.le_refl _) i hi
section DROP
variable {w : Wd} {j a : Nat} {o o0 : Ob} {D : Dk} {s : Sd} {nd : Nat} {f f0 : Nat → Int32}
theorem x_dr (hD : WFD D) (hS : RSh (w 5 a) D) (hW : WFS D s) {b : Nat} (hb : b < D.1) : ∀ k i, i + k = sn s → ∀ (m : Nat) (o : Ob), k < m → o.1 4 = nI (sn s) →
    (∀ p, p < sn s → o.2.1 1 p = nI ((flt (kpB D s b) (se s) (sv s) i).2.1 p) ∧ o.2.1 2 p = (flt (kpB D s b) (se s) (sv s) i).2.2 p) →
    ∃ o2 : Ob, fX7_dropEntriesOf_5 j a m (sO w 7 j o) (nI b) (nI (flt (kpB D s b) (se s) (sv s) i).1) (nI i) = some ((), sO w 7 j (oI o2 4 (nI (drS D s b).2.1.1))) ∧ o2.1 = o.1 ∧ o2.2.1 0 = o.2.1 0 ∧ o2.2.1 3 = o.2.1 3 ∧ (∀ p, p < (drS D s b).2.1.1 → o2.2.1 1 p = nI ((drS D s b).2.1.2.1 p) ∧ o2.2.1 2 p = (drS D s b).2.1.2.2 p) := by
  have hn := hW.n24 hD
  have hb2 := hD.2.1
  intro k
  induction k with
  | zero =>
    intro i hi m o hm ho hr
    obtain ⟨m, rfl⟩ : ∃ q, m = q + 1 := ⟨m - 1, by omega⟩
    have e : i = sn s := by omega
    subst e
    have hle := flt_le (kp := kpB D s b) (e := se s) (v := sv s) (sn s)
    refine ⟨o, ?_, rfl, rfl, rfl, fun p hp => hr p ?_⟩
    · rw [fX7_dropEntriesOf_5.eq_2]
      simp (disch := omega) only [↓mo_1, ↓mo_2, ad_m1, ite_m1_lt, ite_m2_lt, ite_le_m1, ite_eq_m1, ite_eq_m2, ite_m1_m1, ite_m2_m2, ite_T, ite_F, ite_nz, ite_zz, ite_m1_le, ite_m1_eq, oi_none, oi_some, ob_some, lw_def, ck_true, ckp_su, ite_lt_t, ite_lt_f, ite_le_t, ite_le_f, ite_eq_t, ite_eq_f, ck_inb, nI_add, sb_nI, mu_nI, nI_clamp, sO_at, sO_sO, Nat.add_sub_cancel, Nat.zero_add, Nat.add_zero, li_0, li_1, li_2, li_3, li_4, li_5, li_6, li_7, li_8, li_9, li_10, li_11, li_12, li_16, li_20, li_24, li_31, li_32, li_48, li_49, li_73, li_74, li_75, li_97, li_98, li_99, li_100, li_101, li_109, li_110, li_255, li_680, li_700, li_9999, li_65536, li_65537, ho, sI_s]
      rfl
    · have : p < (flt (kpB D s b) (se s) (sv s) (sn s)).1 := hp
      omega
  | succ k ih =>
    intro i hi m o hm ho hr
    obtain ⟨m, rfl⟩ : ∃ q, m = q + 1 := ⟨m - 1, by omega⟩
    have hS2 : ∀ o : Ob, RSh ((sO w 7 j o) 5 a) D := fun o => by rw [sO_nc (by decide)]; exact hS
    have h2 := hW.2.1 i (by omega)
    have hc := bo_spec h2
    have hg := flt_ge (kp := kpB D s b) (e := se s) (v := sv s) i i (Nat.le_refl _)
    have hle := flt_le (kp := kpB D s b) (e := se s) (v := sv s) i
    have h1 := hr i (by omega)
    rw [hg.1, hg.2] at h1
    rw [fX7_dropEntriesOf_5.eq_2]
    simp (disch := omega) only [↓mo_1, ↓mo_2, ad_m1, ite_m1_lt, ite_m2_lt, ite_le_m1, ite_eq_m1, ite_eq_m2, ite_m1_m1, ite_m2_m2, ite_T, ite_F, ite_nz, ite_zz, ite_m1_le, ite_m1_eq, oi_none, oi_some, ob_some, lw_def, ck_true, ckp_su, ite_lt_t, ite_lt_f, ite_le_t, ite_le_f, ite_eq_t, ite_eq_f, ck_inb, nI_add, sb_nI, mu_nI, nI_clamp, sO_at, sO_sO, Nat.add_sub_cancel, Nat.zero_add, Nat.add_zero, li_0, li_1, li_2, li_3, li_4, li_5, li_6, li_7, li_8, li_9, li_10, li_11, li_12, li_16, li_20, li_24, li_31, li_32, li_48, li_49, li_73, li_74, li_75, li_97, li_98, li_99, li_100, li_101, li_109, li_110, li_255, li_680, li_700, li_9999, li_65536, li_65537, ho, h1.1, x_bandHolding (hS2 _) hD h2]
    by_cases hq : bo D (se s i) = b
    · rw [if_pos (by rw [hq])]
      have := ih (i + 1) (by omega) m o (by omega) ho
      rw [flt_f (by simp [kpB, hq])] at this
      exact this hr
    · rw [if_neg (fun z => hq ((nI_eq (by omega) (by omega)).mp z))]
      simp (disch := omega) only [↓mo_1, ↓mo_2, ad_m1, ite_m1_lt, ite_m2_lt, ite_le_m1, ite_eq_m1, ite_eq_m2, ite_m1_m1, ite_m2_m2, ite_T, ite_F, ite_nz, ite_zz, ite_m1_le, ite_m1_eq, oi_none, oi_some, ob_some, lw_def, ck_true, ckp_su, ite_lt_t, ite_lt_f, ite_le_t, ite_le_f, ite_eq_t, ite_eq_f, ck_inb, nI_add, sb_nI, mu_nI, nI_clamp, sO_at, sO_sO, Nat.add_sub_cancel, Nat.zero_add, Nat.add_zero, li_0, li_1, li_2, li_3, li_4, li_5, li_6, li_7, li_8, li_9, li_10, li_11, li_12, li_16, li_20, li_24, li_31, li_32, li_48, li_49, li_73, li_74, li_75, li_97, li_98, li_99, li_100, li_101, li_109, li_110, li_255, li_680, li_700, li_9999, li_65536, li_65537, sA_s, h1.1, oA_n, h1.2]
      have := ih (i + 1) (by omega) m (oA (oA o 1 (flt (kpB D s b) (se s) (sv s) i).1 (nI (se s i))) 2 (flt (kpB D s b) (se s) (sv s) i).1 (sv s i)) (by omega) ho
      rw [flt_t (by simp [kpB, hq])] at this
      obtain ⟨o2, e1, e2, e3, e4, e5⟩ := this (fun p hp => by
        have hp1 := hr p hp
        simp (disch := decide) only [oA_a, oA_n]
        show upd (o.2.1 1) _ _ p = nI (va_up _ _ _ p) ∧ upd (o.2.1 2) _ _ p = va_up _ _ _ p
        by_cases hz : p = (flt (kpB D s b) (se s) (sv s) i).1
        · rw [hz, upd_at, upd_at, va_up_self, va_up_self]; exact ⟨rfl, rfl⟩
        · rw [upd_ne hz, upd_ne hz, va_up_ne _ _ hz, va_up_ne _ _ hz]; exact hp1)
      refine ⟨o2, e1, e2, ?_, ?_, e5⟩
      · rw [e3, oA_n (by decide), oA_n (by decide)]
      · rw [e4, oA_n (by decide), oA_n (by decide)]
theorem x_drop (hD : WFD D) (hS : RSh (w 5 a) D) (hW : WFS D s) (hR : RX o s) {b : Nat} (hb : b < D.1) : ∃ o2 : Ob, fX7_dropEntriesOf j a (sO w 7 j o) (nI b) = some ((), sO w 7 j o2) ∧ RX o2 (drS D s b) ∧ o2.1 6 = o.1 6 ∧ o2.1 10 = o.1 10 ∧ o2.2.1 3 = o.2.1 3 := by
  have hn := hW.n24 hD
  obtain ⟨o2, e1, e2, e3, e4, e5⟩ := x_dr (j := j) hD hS hW hb (sn s) 0 (by omega) fuel0 o (by unfold fuel0; omega) hR.2.1 (fun p hp => ⟨hR.2.2.1 p hp, hR.2.2.2.1 p hp⟩)
  refine ⟨oI o2 4 (nI (drS D s b).2.1.1), e1, ?_, by rw [oI_n (by decide), e2], by rw [oI_n (by decide), e2], e4⟩
  refine ⟨fun t ht => ?_, oI_a, fun p hp => (e5 p hp).1, fun p hp => (e5 p hp).2, ?_, fun h => ?_, ?_, fun p hp => ?_, ?_, ?_⟩
  · show o2.2.1 0 t = _
    rw [e3]; exact hR.1 t ht
  · rw [oI_n (by decide), e2]; exact hR.2.2.2.2.1
  · rw [oI_n (by decide), e2]; exact hR.2.2.2.2.2.1 h
  · rw [oI_n (by decide), e2]; exact hR.2.2.2.2.2.2.1
  · show o2.2.1 3 p = _
    rw [e4]; exact hR.2.2.2.2.2.2.2.1 p hp
  · rw [oI_n (by decide), e2]; exact hR.2.2.2.2.2.2.2.2.1
  · rw [oI_n (by decide), e2]; exact hR.2.2.2.2.2.2.2.2.2
theorem m_enters {i : Nat} {x y : Int32} (hi : i < 24) : fX11_enters nd (mX w f) (nI i) x y = some ((), mX w (upd (upd f (49 + i) x) (73 + i) y)) := by
  unfold fX11_enters
  simp (disch := omega) only [↓mo_1, ↓mo_2, ad_m1, ite_m1_lt, ite_m2_lt, ite_le_m1, ite_eq_m1, ite_eq_m2, ite_m1_m1, ite_m2_m2, ite_T, ite_F, ite_nz, ite_zz, ite_m1_le, ite_m1_eq, oi_none, oi_some, ob_some, lw_def, ck_true, ckp_su, ite_lt_t, ite_lt_f, ite_le_t, ite_le_f, ite_eq_t, ite_eq_f, ck_inb, nI_add, sb_nI, mu_nI, nI_clamp, sO_at, sO_sO, Nat.add_sub_cancel, Nat.zero_add, Nat.add_zero, li_0, li_1, li_2, li_3, li_4, li_5, li_6, li_7, li_8, li_9, li_10, li_11, li_12, li_16, li_20, li_24, li_31, li_32, li_48, li_49, li_73, li_74, li_75, li_97, li_98, li_99, li_100, li_101, li_109, li_110, li_255, li_680, li_700, li_9999, li_65536, li_65537, mX_s]
theorem m_t2 {kk : Nat} (hk : kk ≤ 24) : ∀ k i, i + k = 24 → kk ≤ i → ∀ (m : Nat) (f : Nat → Int32), k < m → ∃ g : Nat → Int32, fX11_taken_69 nd m (mX w f) (nI kk) (nI i) = some ((), mX w (upd g 48 (nI kk))) ∧ ∀ t, (t < 49 ∨ (49 ≤ t ∧ t < 49 + kk) ∨ (73 ≤ t ∧ t < 73 + kk) ∨ 97 ≤ t) → g t = f t := by
  intro k
  induction k with
  | zero =>
    intro i hi hik m f hm
    obtain ⟨m, rfl⟩ : ∃ q, m = q + 1 := ⟨m - 1, by omega⟩
    refine ⟨f, ?_, fun _ _ => rfl⟩
    rw [fX11_taken_69.eq_2]
    simp (disch := omega) only [↓mo_1, ↓mo_2, ad_m1, ite_m1_lt, ite_m2_lt, ite_le_m1, ite_eq_m1, ite_eq_m2, ite_m1_m1, ite_m2_m2, ite_T, ite_F, ite_nz, ite_zz, ite_m1_le, ite_m1_eq, oi_none, oi_some, ob_some, lw_def, ck_true, ckp_su, ite_lt_t, ite_lt_f, ite_le_t, ite_le_f, ite_eq_t, ite_eq_f, ck_inb, nI_add, sb_nI, mu_nI, nI_clamp, sO_at, sO_sO, Nat.add_sub_cancel, Nat.zero_add, Nat.add_zero, li_0, li_1, li_2, li_3, li_4, li_5, li_6, li_7, li_8, li_9, li_10, li_11, li_12, li_16, li_20, li_24, li_31, li_32, li_48, li_49, li_73, li_74, li_75, li_97, li_98, li_99, li_100, li_101, li_109, li_110, li_255, li_680, li_700, li_9999, li_65536, li_65537, mX_s]
  | succ k ih =>
    intro i hi hik m f hm
    obtain ⟨m, rfl⟩ : ∃ q, m = q + 1 := ⟨m - 1, by omega⟩
    obtain ⟨g, e1, e2⟩ := ih (i + 1) (by omega) (by omega) m (upd (upd f (49 + i) (nI 0)) (73 + i) (nI 0)) (by omega)
    refine ⟨g, ?_, fun t ht => ?_⟩
    · rw [fX11_taken_69.eq_2]
      simp (disch := omega) only [↓mo_1, ↓mo_2, ad_m1, ite_m1_lt, ite_m2_lt, ite_le_m1, ite_eq_m1, ite_eq_m2, ite_m1_m1, ite_m2_m2, ite_T, ite_F, ite_nz, ite_zz, ite_m1_le, ite_m1_eq, oi_none, oi_some, ob_some, lw_def, ck_true, ckp_su, ite_lt_t, ite_lt_f, ite_le_t, ite_le_f, ite_eq_t, ite_eq_f, ck_inb, nI_add, sb_nI, mu_nI, nI_clamp, sO_at, sO_sO, Nat.add_sub_cancel, Nat.zero_add, Nat.add_zero, li_0, li_1, li_2, li_3, li_4, li_5, li_6, li_7, li_8, li_9, li_10, li_11, li_12, li_16, li_20, li_24, li_31, li_32, li_48, li_49, li_73, li_74, li_75, li_97, li_98, li_99, li_100, li_101, li_109, li_110, li_255, li_680, li_700, li_9999, li_65536, li_65537, m_enters]
      exact e1
    · rw [e2 t ht, upd_ne (by omega), upd_ne (by omega)]
theorem m_t1 (hD : WFD D) (hS : RMs nd w D) (hW : WFS D s) {b : Nat} (hb : b < D.1) : ∀ k i, i + k = sn s → ∀ (m : Nat) (f : Nat → Int32), k < m → f 48 = nI (sn s) →
    (∀ p, p < sn s → f (49 + p) = nI ((flt (kpB D s b) (se s) (sv s) i).2.1 p) ∧ f (73 + p) = (flt (kpB D s b) (se s) (sv s) i).2.2 p) →
    ∃ g : Nat → Int32, fX11_taken_4 nd m (mX w f) (nI b) (nI (flt (kpB D s b) (se s) (sv s) i).1) (nI i) = some ((), mX w (upd g 48 (nI (drS D s b).2.1.1))) ∧ (∀ t, (t < 49 ∨ 97 ≤ t) → g t = f t) ∧ (∀ p, p < (drS D s b).2.1.1 → g (49 + p) = nI ((drS D s b).2.1.2.1 p) ∧ g (73 + p) = (drS D s b).2.1.2.2 p) := by
  have hn := hW.n24 hD
  intro k
  induction k with
  | zero =>
    intro i hi m f hm ho hr
    obtain ⟨m, rfl⟩ : ∃ q, m = q + 1 := ⟨m - 1, by omega⟩
    have e : i = sn s := by omega
    subst e
    have hle := flt_le (kp := kpB D s b) (e := se s) (v := sv s) (sn s)
    have e9 : (drS D s b).2.1.1 = (flt (kpB D s b) (se s) (sv s) (sn s)).1 := rfl
    obtain ⟨g, e1, e2⟩ := m_t2 (nd := nd) (w := w) (kk := (drS D s b).2.1.1) (by omega) (24 - (drS D s b).2.1.1) (drS D s b).2.1.1 (by omega) (Nat.le_refl _) fuel0 f (by unfold fuel0; omega)
    refine ⟨g, ?_, fun t ht => e2 t (by omega), fun p hp => ?_⟩
    · rw [fX11_taken_4.eq_2]
      simp (disch := omega) only [↓mo_1, ↓mo_2, ad_m1, ite_m1_lt, ite_m2_lt, ite_le_m1, ite_eq_m1, ite_eq_m2, ite_m1_m1, ite_m2_m2, ite_T, ite_F, ite_nz, ite_zz, ite_m1_le, ite_m1_eq, oi_none, oi_some, ob_some, lw_def, ck_true, ckp_su, ite_lt_t, ite_lt_f, ite_le_t, ite_le_f, ite_eq_t, ite_eq_f, ck_inb, nI_add, sb_nI, mu_nI, nI_clamp, sO_at, sO_sO, Nat.add_sub_cancel, Nat.zero_add, Nat.add_zero, li_0, li_1, li_2, li_3, li_4, li_5, li_6, li_7, li_8, li_9, li_10, li_11, li_12, li_16, li_20, li_24, li_31, li_32, li_48, li_49, li_73, li_74, li_75, li_97, li_98, li_99, li_100, li_101, li_109, li_110, li_255, li_680, li_700, li_9999, li_65536, li_65537, mX_x, ho]
      exact e1
    · rw [e2 _ (by omega), e2 _ (by omega)]
      exact hr p (by omega)
  | succ k ih =>
    intro i hi m f hm ho hr
    obtain ⟨m, rfl⟩ : ∃ q, m = q + 1 := ⟨m - 1, by omega⟩
    have h2 := hW.2.1 i (by omega)
    have hg := flt_ge (kp := kpB D s b) (e := se s) (v := sv s) i i (Nat.le_refl _)
    have hle := flt_le (kp := kpB D s b) (e := se s) (v := sv s) i
    have h1 := hr i (by omega)
    rw [hg.1, hg.2] at h1
    rw [fX11_taken_4.eq_2]
    simp (disch := omega) only [↓mo_1, ↓mo_2, ad_m1, ite_m1_lt, ite_m2_lt, ite_le_m1, ite_eq_m1, ite_eq_m2, ite_m1_m1, ite_m2_m2, ite_T, ite_F, ite_nz, ite_zz, ite_m1_le, ite_m1_eq, oi_none, oi_some, ob_some, lw_def, ck_true, ckp_su, ite_lt_t, ite_lt_f, ite_le_t, ite_le_f, ite_eq_t, ite_eq_f, ck_inb, nI_add, sb_nI, mu_nI, nI_clamp, sO_at, sO_sO, Nat.add_sub_cancel, Nat.zero_add, Nat.add_zero, li_0, li_1, li_2, li_3, li_4, li_5, li_6, li_7, li_8, li_9, li_10, li_11, li_12, li_16, li_20, li_24, li_31, li_32, li_48, li_49, li_73, li_74, li_75, li_97, li_98, li_99, li_100, li_101, li_109, li_110, li_255, li_680, li_700, li_9999, li_65536, li_65537, mX_x, ho, h1.1, m_isInE hD hS hb h2]
    by_cases hq : bo D (se s i) = b
    · rw [decide_eq_true hq]
      have := ih (i + 1) (by omega) m f (by omega) ho
      rw [flt_f (by simp [kpB, hq])] at this
      exact this hr
    · rw [decide_eq_false hq]
      simp (disch := omega) only [↓mo_1, ↓mo_2, ad_m1, ite_m1_lt, ite_m2_lt, ite_le_m1, ite_eq_m1, ite_eq_m2, ite_m1_m1, ite_m2_m2, ite_T, ite_F, ite_nz, ite_zz, ite_m1_le, ite_m1_eq, oi_none, oi_some, ob_some, lw_def, ck_true, ckp_su, ite_lt_t, ite_lt_f, ite_le_t, ite_le_f, ite_eq_t, ite_eq_f, ck_inb, nI_add, sb_nI, mu_nI, nI_clamp, sO_at, sO_sO, Nat.add_sub_cancel, Nat.zero_add, Nat.add_zero, li_0, li_1, li_2, li_3, li_4, li_5, li_6, li_7, li_8, li_9, li_10, li_11, li_12, li_16, li_20, li_24, li_31, li_32, li_48, li_49, li_73, li_74, li_75, li_97, li_98, li_99, li_100, li_101, li_109, li_110, li_255, li_680, li_700, li_9999, li_65536, li_65537, b2i_f, h1.1, h1.2, m_enters]
      have := ih (i + 1) (by omega) m (upd (upd f (49 + (flt (kpB D s b) (se s) (sv s) i).1) (nI (se s i))) (73 + (flt (kpB D s b) (se s) (sv s) i).1) (sv s i)) (by omega) (by rw [upd_ne (by omega), upd_ne (by omega)]; exact ho)
      rw [flt_t (by simp [kpB, hq])] at this
      obtain ⟨g, e1, e2, e3⟩ := this (fun p hp => by
        have hp1 := hr p hp
        show _ = nI (va_up _ _ _ p) ∧ _ = va_up _ _ _ p
        by_cases hz : p = (flt (kpB D s b) (se s) (sv s) i).1
        · rw [hz, upd_at, upd_ne (by omega), upd_at, va_up_self, va_up_self]; exact ⟨rfl, rfl⟩
        · rw [upd_ne (by omega), upd_ne (by omega), upd_ne (by omega), upd_ne (by omega), va_up_ne _ _ hz, va_up_ne _ _ hz]; exact hp1)
      exact ⟨g, e1, fun t ht => by rw [e2 t ht, upd_ne (by omega), upd_ne (by omega)], e3⟩
theorem m_taken (hD : WFD D) (hS : RMs nd w D) (hW : WFS D s) (hR : RM f s) {b : Nat} (hb : b < D.1) : ∃ g : Nat → Int32, fX11_taken nd (mX w f) (nI b) = some ((), mX w g) ∧ RM g (drS D s b) := by
  have hn := hW.n24 hD
  have hle : (drS D s b).2.1.1 ≤ sn s := flt_le (sn s)
  obtain ⟨g, e1, e2, e3⟩ := m_t1 hD hS hW hb (sn s) 0 (by omega) fuel0 f (by unfold fuel0; omega) hR.2.1 (fun p hp => ⟨hR.2.2.1 p hp, hR.2.2.2.1 p hp⟩)
  refine ⟨_, e1, ?_⟩
  have hj : 0 < jn s → jn s ≤ 8 := fun h => Nat.le_trans (hW.2.2.1 h).2 (hD.2.2.1 _ (hW.2.2.1 h).1).2
  refine ⟨fun t ht => ?_, upd_at, fun p hp => ?_, fun p hp => ?_, ?_, fun h => ?_, ?_, fun p hp => ?_, ?_, ?_⟩
  · rw [upd_ne (by omega), e2 t (by omega)]; exact hR.1 t ht
  · have : p < (drS D s b).2.1.1 := hp
    rw [upd_ne (by omega)]; exact (e3 p hp).1
  · have : p < (drS D s b).2.1.1 := hp
    rw [upd_ne (by omega)]; exact (e3 p hp).2
  · rw [upd_ne (by omega), e2 _ (by omega)]; exact hR.2.2.2.2.1
  · rw [upd_ne (by omega), e2 _ (by omega)]; exact hR.2.2.2.2.2.1 h
  · rw [upd_ne (by omega), e2 _ (by omega)]; exact hR.2.2.2.2.2.2.1
  · rw [upd_ne (by omega), e2 _ (by omega)]; exact hR.2.2.2.2.2.2.2.1 p hp
  · rw [upd_ne (by omega), e2 _ (by omega)]; exact hR.2.2.2.2.2.2.2.2.1
  · rw [upd_ne (by omega), e2 _ (by omega)]; exact hR.2.2.2.2.2.2.2.2.2
end DROP
