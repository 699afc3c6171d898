theorem neg_le {k n i : Nat} (hk : k < 2 ^ 29) (hn : n < 2 ^ 29) (hi : i < 2 ^ 29) (h : k ≤ n + 1 + i) : nI k - nI n - nI 1 ≤ nI i := by
  rw [Int32.le_iff_toInt_le, nI_toInt (by omega), Int32.toInt_sub, pk_sub_toInt (by omega) (by omega), nI_toInt (by omega)]
  rw [Int.bmod_def]
  simp only [Nat.reducePow, Int.cast_ofNat_Int]
  omega
section DOST
variable {w : Wd} {j a : Nat} {o : Ob} {D : Dk} {s : Sd} {nd : Nat} {f : Nat → Int32}
theorem x_jr (hR : RX o s) {b k : Nat} {x : Int32} (hj : jn s = k) (hx : x = vaS s (dfst D.2.1 b + k)) (h6 : o.1 6 = nI b) : RX (oI (oI (oA o 3 k x) 5 (nI (k + 1))) 9 (o.1 9 + nI 1)) (jrS D s b k) := by
  refine ⟨fun t ht => ?_, ?_, fun p hp => ?_, fun p hp => ?_, ?_, fun _ => ?_, ?_, fun p hp => ?_, ?_, ?_⟩
  · rw [oI_2, oI_2, oA_n (by decide)]; exact hR.1 t ht
  · rw [oI_n (by decide), oI_n (by decide), oA_1]; exact hR.2.1
  · rw [oI_2, oI_2, oA_n (by decide)]; exact hR.2.2.1 p hp
  · rw [oI_2, oI_2, oA_n (by decide)]; exact hR.2.2.2.1 p hp
  · rw [oI_n (by decide), oI_a]
    show nI (k + 1) = nI (jn s + 1)
    rw [hj]
  · rw [oI_n (by decide), oI_n (by decide), oA_1]; exact h6
  · rw [oI_n (by decide), oI_n (by decide), oA_1]; exact hR.2.2.2.2.2.2.1
  · rw [oI_2, oI_2, oA_a]
    show upd _ _ _ _ = va_up (jv s) k _ p
    have hp2 : p < jn s + 1 := hp
    by_cases z : p = k
    · subst z
      rw [va_up_self, upd_at]; exact hx
    · rw [va_up_ne _ _ z, upd_ne z]
      exact hR.2.2.2.2.2.2.2.1 p (by omega)
  · rw [oI_n (by decide), oI_n (by decide), oA_1]; exact hR.2.2.2.2.2.2.2.2.1
  · rw [oI_a, hR.2.2.2.2.2.2.2.2.2]; rfl
theorem x_d1 (hD : WFD D) (hS : RSh (w 5 a) D) (hW : WFS D s) {b k : Nat} (hb : b < D.1) (hk : k ≤ 2 * D.2.1 b + 2) (h0 : jn s = 0) (hf : jf s = false) : ∀ r i, i + r = min (D.2.1 b) k → ∀ (m : Nat) (o : Ob), r < m → RX o (spS D s b i) → o.1 6 = nI b →
    ∃ o2 : Ob, fX7_doSteps_15 j a m (sO w 7 j o) (nI b) (nI k) (nI (D.2.1 b)) (nI i) = fX7_doSteps_81 j a (sO w 7 j o2) (nI b) (nI k) (nI (D.2.1 b)) ∧ RX o2 (spS D s b (min (D.2.1 b) k)) ∧ o2.1 6 = nI b ∧ o2.1 10 = o.1 10 := by
  have h8 := hD.2.2.1 b hb
  have h3 := dfst_le hb
  have h4 := hD.2.2.2.1
  intro r
  induction r with
  | zero =>
    intro i hi m o hm hR h6
    obtain ⟨m, rfl⟩ : ∃ z, m = z + 1 := ⟨m - 1, by omega⟩
    refine ⟨o, ?_, by rw [← hi]; exact hR, h6, rfl⟩
    rw [fX7_doSteps_15.eq_2]
    rcases Nat.lt_or_ge i (D.2.1 b) with q | q
    · simp (disch := omega) only [↓mo_1, ↓mo_2, ad_m1, ite_m1_lt, ite_m2_lt, ite_le_m1, ite_eq_m1, ite_eq_m2, ite_m1_m1, ite_m2_m2, ite_T, ite_F, ite_nz, ite_zz, ite_m1_le, ite_m1_eq, oi_none, oi_some, ob_some, lw_def, ck_true, ckp_su, ite_lt_t, ite_lt_f, ite_le_t, ite_le_f, ite_eq_t, ite_eq_f, ck_inb, nI_add, sb_nI, mu_nI, nI_clamp, sO_at, sO_sO, Nat.add_sub_cancel, Nat.zero_add, Nat.add_zero, li_0, li_1, li_2, li_3, li_4, li_5, li_6, li_7, li_8, li_9, li_10, li_11, li_12, li_16, li_20, li_24, li_31, li_32, li_48, li_49, li_73, li_74, li_75, li_97, li_98, li_99, li_100, li_101, li_109, li_110, li_255, li_680, li_700, li_9999, li_65536, li_65537]
    · simp (disch := omega) only [↓mo_1, ↓mo_2, ad_m1, ite_m1_lt, ite_m2_lt, ite_le_m1, ite_eq_m1, ite_eq_m2, ite_m1_m1, ite_m2_m2, ite_T, ite_F, ite_nz, ite_zz, ite_m1_le, ite_m1_eq, oi_none, oi_some, ob_some, lw_def, ck_true, ckp_su, ite_lt_t, ite_lt_f, ite_le_t, ite_le_f, ite_eq_t, ite_eq_f, ck_inb, nI_add, sb_nI, mu_nI, nI_clamp, sO_at, sO_sO, Nat.add_sub_cancel, Nat.zero_add, Nat.add_zero, li_0, li_1, li_2, li_3, li_4, li_5, li_6, li_7, li_8, li_9, li_10, li_11, li_12, li_16, li_20, li_24, li_31, li_32, li_48, li_49, li_73, li_74, li_75, li_97, li_98, li_99, li_100, li_101, li_109, li_110, li_255, li_680, li_700, li_9999, li_65536, li_65537]
  | succ r ih =>
    intro i hi m o hm hR h6
    obtain ⟨m, rfl⟩ : ∃ z, m = z + 1 := ⟨m - 1, by omega⟩
    obtain ⟨i1, i2, -⟩ := sp_inv hD hW hb h0 hf i (by omega)
    have hS2 : RSh ((sO w 7 j o) 5 a) D := by rw [sO_nc (by decide)]; exact hS
    have hv := x_valueOf (w := w) (j := j) hD i1 hR (t := dfst D.2.1 b + i) (by omega)
    have hR2 := x_jr (D := D) hR (b := b) (k := i) (by omega) rfl h6
    have hst : spS D s b (i + 1) = jrS D (spS D s b i) b i := st_1 (by omega)
    obtain ⟨o2, e1, e2, e3, e4⟩ := ih (i + 1) (by omega) m _ (by omega) (by rw [hst]; exact hR2) (by rw [oI_n (by decide), oI_n (by decide), oA_1]; exact h6)
    refine ⟨o2, ?_, e2, e3, by rw [e4, oI_n (by decide), oI_n (by decide), oA_1]⟩
    rw [fX7_doSteps_15.eq_2]
    simp (disch := omega) only [↓mo_1, ↓mo_2, ad_m1, ite_m1_lt, ite_m2_lt, ite_le_m1, ite_eq_m1, ite_eq_m2, ite_m1_m1, ite_m2_m2, ite_T, ite_F, ite_nz, ite_zz, ite_m1_le, ite_m1_eq, oi_none, oi_some, ob_some, lw_def, ck_true, ckp_su, ite_lt_t, ite_lt_f, ite_le_t, ite_le_f, ite_eq_t, ite_eq_f, ck_inb, nI_add, sb_nI, mu_nI, nI_clamp, sO_at, sO_sO, Nat.add_sub_cancel, Nat.zero_add, Nat.add_zero, li_0, li_1, li_2, li_3, li_4, li_5, li_6, li_7, li_8, li_9, li_10, li_11, li_12, li_16, li_20, li_24, li_31, li_32, li_48, li_49, li_73, li_74, li_75, li_97, li_98, li_99, li_100, li_101, li_109, li_110, li_255, li_680, li_700, li_9999, li_65536, li_65537, x_firstOf hS2 hD hb, hv, sA_s, sI_s, oI_n, oA_1]
    exact e1
theorem x_d2 (hD : WFD D) (hS : RSh (w 5 a) D) (hW : WFS D s) {b k : Nat} (hb : b < D.1) (hk : k ≤ 2 * D.2.1 b + 2) (hkn : D.2.1 b < k) (h0 : jn s = 0) (hf : jf s = false) : ∀ r i, i + r = min (D.2.1 b) (k - D.2.1 b - 1) → ∀ (m : Nat) (o : Ob), r < m → RX o (spS D s b (D.2.1 b + 1 + i)) → o.1 6 = nI b →
    ∃ o2 : Ob, fX7_doSteps_99 j a m (sO w 7 j o) (nI b) (nI k) (nI (D.2.1 b)) (nI i) = fX7_doSteps_130 j a (sO w 7 j o2) (nI b) (nI k) ∧ RX o2 (spS D s b (D.2.1 b + 1 + min (D.2.1 b) (k - D.2.1 b - 1))) ∧ o2.1 6 = nI b ∧ o2.1 10 = o.1 10 := by
  have h8 := hD.2.2.1 b hb
  intro r
  induction r with
  | zero =>
    intro i hi m o hm hR h6
    obtain ⟨m, rfl⟩ : ∃ z, m = z + 1 := ⟨m - 1, by omega⟩
    refine ⟨o, ?_, by rw [← hi]; exact hR, h6, rfl⟩
    rw [fX7_doSteps_99.eq_2]
    rcases Nat.lt_or_ge i (D.2.1 b) with q | q
    · simp (disch := omega) only [↓mo_1, ↓mo_2, ad_m1, ite_m1_lt, ite_m2_lt, ite_le_m1, ite_eq_m1, ite_eq_m2, ite_m1_m1, ite_m2_m2, ite_T, ite_F, ite_nz, ite_zz, ite_m1_le, ite_m1_eq, oi_none, oi_some, ob_some, lw_def, ck_true, ckp_su, ite_lt_t, ite_lt_f, ite_le_t, ite_le_f, ite_eq_t, ite_eq_f, ck_inb, nI_add, sb_nI, mu_nI, nI_clamp, sO_at, sO_sO, Nat.add_sub_cancel, Nat.zero_add, Nat.add_zero, li_0, li_1, li_2, li_3, li_4, li_5, li_6, li_7, li_8, li_9, li_10, li_11, li_12, li_16, li_20, li_24, li_31, li_32, li_48, li_49, li_73, li_74, li_75, li_97, li_98, li_99, li_100, li_101, li_109, li_110, li_255, li_680, li_700, li_9999, li_65536, li_65537]
    · simp (disch := omega) only [↓mo_1, ↓mo_2, ad_m1, ite_m1_lt, ite_m2_lt, ite_le_m1, ite_eq_m1, ite_eq_m2, ite_m1_m1, ite_m2_m2, ite_T, ite_F, ite_nz, ite_zz, ite_m1_le, ite_m1_eq, oi_none, oi_some, ob_some, lw_def, ck_true, ckp_su, ite_lt_t, ite_lt_f, ite_le_t, ite_le_f, ite_eq_t, ite_eq_f, ck_inb, nI_add, sb_nI, mu_nI, nI_clamp, sO_at, sO_sO, Nat.add_sub_cancel, Nat.zero_add, Nat.add_zero, li_0, li_1, li_2, li_3, li_4, li_5, li_6, li_7, li_8, li_9, li_10, li_11, li_12, li_16, li_20, li_24, li_31, li_32, li_48, li_49, li_73, li_74, li_75, li_97, li_98, li_99, li_100, li_101, li_109, li_110, li_255, li_680, li_700, li_9999, li_65536, li_65537]
  | succ r ih =>
    intro i hi m o hm hR h6
    obtain ⟨m, rfl⟩ : ∃ z, m = z + 1 := ⟨m - 1, by omega⟩
    obtain ⟨i1, i2, -⟩ := sp_inv hD hW hb h0 hf (D.2.1 b + 1 + i) (by omega)
    obtain ⟨o3, f1, f2, f3, f4, -⟩ := x_wfj (w := w) (a := a) (j := j) hD hS hR (i := i) hb (by omega) h6
    have hv := hR.2.2.2.2.2.2.2.1 i (by omega)
    have hst : spS D s b (D.2.1 b + 1 + (i + 1)) = lyS D (spS D s b (D.2.1 b + 1 + i)) b i (o.2.1 3 i) := by
      show stS D (spS D s b (D.2.1 b + 1 + i)) b (D.2.1 b + 1 + i) = _
      rw [st_3 (by omega) (by omega), show D.2.1 b + 1 + i - D.2.1 b - 1 = i by omega, hv]
    obtain ⟨o2, e1, e2, e3, e4⟩ := ih (i + 1) (by omega) m o3 (by omega) (by rw [hst]; exact f2) (by rw [f3]; exact h6)
    refine ⟨o2, ?_, e2, e3, by rw [e4, f4]⟩
    rw [fX7_doSteps_99.eq_2]
    simp (disch := omega) only [↓mo_1, ↓mo_2, ad_m1, ite_m1_lt, ite_m2_lt, ite_le_m1, ite_eq_m1, ite_eq_m2, ite_m1_m1, ite_m2_m2, ite_T, ite_F, ite_nz, ite_zz, ite_m1_le, ite_m1_eq, oi_none, oi_some, ob_some, lw_def, ck_true, ckp_su, ite_lt_t, ite_lt_f, ite_le_t, ite_le_f, ite_eq_t, ite_eq_f, ck_inb, nI_add, sb_nI, mu_nI, nI_clamp, sO_at, sO_sO, Nat.add_sub_cancel, Nat.zero_add, Nat.add_zero, li_0, li_1, li_2, li_3, li_4, li_5, li_6, li_7, li_8, li_9, li_10, li_11, li_12, li_16, li_20, li_24, li_31, li_32, li_48, li_49, li_73, li_74, li_75, li_97, li_98, li_99, li_100, li_101, li_109, li_110, li_255, li_680, li_700, li_9999, li_65536, li_65537, f1]
    exact e1
theorem x_d3 (hD : WFD D) (hS : RSh (w 5 a) D) (hW : WFS D s) {b k : Nat} (hb : b < D.1) (hk : k ≤ 2 * D.2.1 b + 2) (hkn : D.2.1 b < k) (h0 : jn s = 0) (hf : jf s = false) (hR : RX o (spS D s b (D.2.1 b + 1 + min (D.2.1 b) (k - D.2.1 b - 1)))) : ∃ o2 : Ob, fX7_doSteps_130 j a (sO w 7 j o) (nI b) (nI k) = some ((), sO w 7 j o2) ∧ RX o2 (spS D s b k) ∧ o2.1 10 = o.1 10 := by
  have h8 := hD.2.2.1 b hb
  have hS2 : RSh ((sO w 7 j o) 5 a) D := by rw [sO_nc (by decide)]; exact hS
  unfold fX7_doSteps_130
  rw [x_stepsOf hS2 hD hb, ob_some]
  rcases Nat.lt_or_ge k (2 * D.2.1 b + 2) with q | q
  · refine ⟨o, ?_, ?_, rfl⟩
    · simp (disch := omega) only [↓mo_1, ↓mo_2, ad_m1, ite_m1_lt, ite_m2_lt, ite_le_m1, ite_eq_m1, ite_eq_m2, ite_m1_m1, ite_m2_m2, ite_T, ite_F, ite_nz, ite_zz, ite_m1_le, ite_m1_eq, oi_none, oi_some, ob_some, lw_def, ck_true, ckp_su, ite_lt_t, ite_lt_f, ite_le_t, ite_le_f, ite_eq_t, ite_eq_f, ck_inb, nI_add, sb_nI, mu_nI, nI_clamp, sO_at, sO_sO, Nat.add_sub_cancel, Nat.zero_add, Nat.add_zero, li_0, li_1, li_2, li_3, li_4, li_5, li_6, li_7, li_8, li_9, li_10, li_11, li_12, li_16, li_20, li_24, li_31, li_32, li_48, li_49, li_73, li_74, li_75, li_97, li_98, li_99, li_100, li_101, li_109, li_110, li_255, li_680, li_700, li_9999, li_65536, li_65537]
    · rw [show D.2.1 b + 1 + min (D.2.1 b) (k - D.2.1 b - 1) = k by omega] at hR
      exact hR
  · have e : k = 2 * D.2.1 b + 2 := by omega
    subst e
    rw [show D.2.1 b + 1 + min (D.2.1 b) (2 * D.2.1 b + 2 - D.2.1 b - 1) = 2 * D.2.1 b + 1 by omega] at hR
    obtain ⟨i1, -⟩ := sp_inv hD hW hb h0 hf (2 * D.2.1 b + 1) (by omega)
    obtain ⟨o3, f1, f2, -, f4, -⟩ := x_drop (w := w) (a := a) (j := j) hD hS i1 hR hb
    obtain ⟨f5, f6⟩ := x_emptyJournal (w := w) (j := j) f2
    refine ⟨_, ?_, by rw [sp_end hD hb]; exact f6, ?_⟩
    · simp (disch := omega) only [↓mo_1, ↓mo_2, ad_m1, ite_m1_lt, ite_m2_lt, ite_le_m1, ite_eq_m1, ite_eq_m2, ite_m1_m1, ite_m2_m2, ite_T, ite_F, ite_nz, ite_zz, ite_m1_le, ite_m1_eq, oi_none, oi_some, ob_some, lw_def, ck_true, ckp_su, ite_lt_t, ite_lt_f, ite_le_t, ite_le_f, ite_eq_t, ite_eq_f, ck_inb, nI_add, sb_nI, mu_nI, nI_clamp, sO_at, sO_sO, Nat.add_sub_cancel, Nat.zero_add, Nat.add_zero, li_0, li_1, li_2, li_3, li_4, li_5, li_6, li_7, li_8, li_9, li_10, li_11, li_12, li_16, li_20, li_24, li_31, li_32, li_48, li_49, li_73, li_74, li_75, li_97, li_98, li_99, li_100, li_101, li_109, li_110, li_255, li_680, li_700, li_9999, li_65536, li_65537, f1, f5]
    · rw [oI_n (by decide), oI_n (by decide), oI_n (by decide), f4]
theorem x_doSteps (hD : WFD D) (hS : RSh (w 5 a) D) (hW : WFS D s) (hR : RX o s) {b k : Nat} (hb : b < D.1) (hk : k ≤ 2 * D.2.1 b + 2) (h0 : jn s = 0) (hf : jf s = false) : ∃ o2 : Ob, fX7_doSteps j a (sO w 7 j o) (nI b) (nI k) = some ((), sO w 7 j o2) ∧ RX o2 (spS D s b k) ∧ o2.1 10 = o.1 10 := by
  have h8 := hD.2.2.1 b hb
  have hS2 : RSh ((sO w 7 j o) 5 a) D := by rw [sO_nc (by decide)]; exact hS
  have hR1 : RX (oI o 6 (nI b)) s := by
    refine ⟨hR.1, ?_, hR.2.2.1, hR.2.2.2.1, ?_, fun h => absurd h (by omega), ?_, hR.2.2.2.2.2.2.2.1, ?_, ?_⟩
    · rw [oI_n (by decide)]; exact hR.2.1
    · rw [oI_n (by decide)]; exact hR.2.2.2.2.1
    · rw [oI_n (by decide)]; exact hR.2.2.2.2.2.2.1
    · rw [oI_n (by decide)]; exact hR.2.2.2.2.2.2.2.2.1
    · rw [oI_n (by decide)]; exact hR.2.2.2.2.2.2.2.2.2
  obtain ⟨o2, e1, e2, e3, e4⟩ := x_d1 (j := j) hD hS hW hb hk h0 hf (min (D.2.1 b) k) 0 (by omega) fuel0 (oI o 6 (nI b)) (by unfold fuel0; omega) hR1 oI_a
  rw [oI_n (by decide)] at e4
  have hmain : ∃ o9 : Ob, fX7_doSteps_81 j a (sO w 7 j o2) (nI b) (nI k) (nI (D.2.1 b)) = some ((), sO w 7 j o9) ∧ RX o9 (spS D s b k) ∧ o9.1 10 = o2.1 10 := by
    unfold fX7_doSteps_81
    rcases Nat.lt_or_ge (D.2.1 b) k with q | q
    · rw [show min (D.2.1 b) k = D.2.1 b by omega] at e2
      have hR3 : RX (oI o2 7 (nI 1)) (spS D s b (D.2.1 b + 1 + 0)) := by
        show RX _ (stS D (spS D s b (D.2.1 b)) b (D.2.1 b))
        rw [st_2 rfl]
        refine ⟨e2.1, ?_, e2.2.2.1, e2.2.2.2.1, ?_, fun h => ?_, oI_a, e2.2.2.2.2.2.2.2.1, ?_, ?_⟩
        · rw [oI_n (by decide)]; exact e2.2.1
        · rw [oI_n (by decide)]; exact e2.2.2.2.2.1
        · rw [oI_n (by decide)]; exact e2.2.2.2.2.2.1 h
        · rw [oI_n (by decide)]; exact e2.2.2.2.2.2.2.2.2.1
        · rw [oI_n (by decide)]; exact e2.2.2.2.2.2.2.2.2.2
      obtain ⟨o4, g1, g2, g3, g4⟩ := x_d2 (j := j) hD hS hW hb hk q h0 hf (min (D.2.1 b) (k - D.2.1 b - 1)) 0 (by omega) fuel0 (oI o2 7 (nI 1)) (by unfold fuel0; omega) hR3 (by rw [oI_n (by decide)]; exact e3)
      obtain ⟨o5, g5, g6, g7⟩ := x_d3 (j := j) hD hS hW hb hk q h0 hf g2
      refine ⟨o5, ?_, g6, by rw [g7, g4, oI_n (by decide)]⟩
      simp (disch := omega) only [↓mo_1, ↓mo_2, ad_m1, ite_m1_lt, ite_m2_lt, ite_le_m1, ite_eq_m1, ite_eq_m2, ite_m1_m1, ite_m2_m2, ite_T, ite_F, ite_nz, ite_zz, ite_m1_le, ite_m1_eq, oi_none, oi_some, ob_some, lw_def, ck_true, ckp_su, ite_lt_t, ite_lt_f, ite_le_t, ite_le_f, ite_eq_t, ite_eq_f, ck_inb, nI_add, sb_nI, mu_nI, nI_clamp, sO_at, sO_sO, Nat.add_sub_cancel, Nat.zero_add, Nat.add_zero, li_0, li_1, li_2, li_3, li_4, li_5, li_6, li_7, li_8, li_9, li_10, li_11, li_12, li_16, li_20, li_24, li_31, li_32, li_48, li_49, li_73, li_74, li_75, li_97, li_98, li_99, li_100, li_101, li_109, li_110, li_255, li_680, li_700, li_9999, li_65536, li_65537, sI_s]
      exact g1.trans g5
    · rw [show min (D.2.1 b) k = k by omega] at e2
      have e7 := e2.2.2.2.2.2.2.1
      rw [(sp_inv hD hW hb h0 hf k (by omega)).2.2.1, decide_eq_false (by omega)] at e7
      refine ⟨oI o2 7 (nI 0), ?_, ?_, oI_n (by decide)⟩
      · obtain ⟨m, hm⟩ : ∃ z, fuel0 = z + 1 := ⟨999999, rfl⟩
        simp (disch := omega) only [↓mo_1, ↓mo_2, ad_m1, ite_m1_lt, ite_m2_lt, ite_le_m1, ite_eq_m1, ite_eq_m2, ite_m1_m1, ite_m2_m2, ite_T, ite_F, ite_nz, ite_zz, ite_m1_le, ite_m1_eq, oi_none, oi_some, ob_some, lw_def, ck_true, ckp_su, ite_lt_t, ite_lt_f, ite_le_t, ite_le_f, ite_eq_t, ite_eq_f, ck_inb, nI_add, sb_nI, mu_nI, nI_clamp, sO_at, sO_sO, Nat.add_sub_cancel, Nat.zero_add, Nat.add_zero, li_0, li_1, li_2, li_3, li_4, li_5, li_6, li_7, li_8, li_9, li_10, li_11, li_12, li_16, li_20, li_24, li_31, li_32, li_48, li_49, li_73, li_74, li_75, li_97, li_98, li_99, li_100, li_101, li_109, li_110, li_255, li_680, li_700, li_9999, li_65536, li_65537, sI_s]
        rw [hm, fX7_doSteps_99.eq_2]
        rw [ite_le_f (by omega) (by omega), li_1, if_pos (neg_le (k := k) (n := D.2.1 b) (i := 0) (by omega) (by omega) (by omega) (by omega))]
        unfold fX7_doSteps_130
        rw [x_stepsOf (by rw [sO_nc (by decide)]; exact hS) hD hb, ob_some]
        simp (disch := omega) only [↓mo_1, ↓mo_2, ad_m1, ite_m1_lt, ite_m2_lt, ite_le_m1, ite_eq_m1, ite_eq_m2, ite_m1_m1, ite_m2_m2, ite_T, ite_F, ite_nz, ite_zz, ite_m1_le, ite_m1_eq, oi_none, oi_some, ob_some, lw_def, ck_true, ckp_su, ite_lt_t, ite_lt_f, ite_le_t, ite_le_f, ite_eq_t, ite_eq_f, ck_inb, nI_add, sb_nI, mu_nI, nI_clamp, sO_at, sO_sO, Nat.add_sub_cancel, Nat.zero_add, Nat.add_zero, li_0, li_1, li_2, li_3, li_4, li_5, li_6, li_7, li_8, li_9, li_10, li_11, li_12, li_16, li_20, li_24, li_31, li_32, li_48, li_49, li_73, li_74, li_75, li_97, li_98, li_99, li_100, li_101, li_109, li_110, li_255, li_680, li_700, li_9999, li_65536, li_65537]
      · refine ⟨e2.1, ?_, e2.2.2.1, e2.2.2.2.1, ?_, fun h => ?_, ?_, e2.2.2.2.2.2.2.2.1, ?_, ?_⟩
        · rw [oI_n (by decide)]; exact e2.2.1
        · rw [oI_n (by decide)]; exact e2.2.2.2.2.1
        · rw [oI_n (by decide)]; exact e2.2.2.2.2.2.1 h
        · rw [oI_a, (sp_inv hD hW hb h0 hf k (by omega)).2.2.1, decide_eq_false (by omega)]; rfl
        · rw [oI_n (by decide)]; exact e2.2.2.2.2.2.2.2.2.1
        · rw [oI_n (by decide)]; exact e2.2.2.2.2.2.2.2.2.2
  obtain ⟨o9, k1, k2, k3⟩ := hmain
  refine ⟨o9, ?_, k2, by rw [k3, e4]⟩
  unfold fX7_doSteps
  simp (disch := omega) only [x_tracksOf hS2 hD hb, ob_some, lw_def, sI_s, li_0]
  exact e1.trans k1
end DOST
