/-! ===== bands cleaned then; cuts tried ===== -/
theorem q_cleansThen {x : Int32} : Qy (fun w => fX9_cleansThen w x) (fun nd w => fX11_cleansThen nd w x) := by
  intro d hd
  cases d with
  | none =>
    refine ⟨m1, 1, by omega, by omega, fun w q hq hp hX => ⟨w, XS.rf, ?_⟩, fun nd w w1 e hM => ⟨w1, SM.rf, ?_⟩⟩
    · unfold fX9_cleansThen
      simp (disch := omega) only [↓mo_1, ↓mo_2, ad_m1, ite_m1_lt, ite_m2_lt, ite_le_m1, ite_eq_m1, ite_eq_m2, ite_m1_m1, ite_m2_m2, ite_T, ite_F, ite_nz, ite_zz, ite_m1_le, ite_m1_eq, oi_none, oi_some, ob_some, lw_def, ck_true, ckp_su, ite_lt_t, ite_lt_f, ite_le_t, ite_le_f, ite_eq_t, ite_eq_f, ck_inb, nI_add, sb_nI, mu_nI, nI_clamp, sO_at, sO_sO, Nat.add_sub_cancel, Nat.zero_add, Nat.add_zero, li_0, li_1, li_2, li_3, li_4, li_5, li_6, li_7, li_8, li_9, li_10, li_11, li_12, li_16, li_20, li_24, li_31, li_32, li_48, li_49, li_73, li_74, li_75, li_97, li_98, li_99, li_100, li_101, li_109, li_110, li_255, li_680, li_700, li_9999, li_65536, li_65537, x_hD0 hp hq hX.1.1, x_refuse]
    · unfold fX11_cleansThen
      simp (disch := omega) only [↓mo_1, ↓mo_2, ad_m1, ite_m1_lt, ite_m2_lt, ite_le_m1, ite_eq_m1, ite_eq_m2, ite_m1_m1, ite_m2_m2, ite_T, ite_F, ite_nz, ite_zz, ite_m1_le, ite_m1_eq, oi_none, oi_some, ob_some, lw_def, ck_true, ckp_su, ite_lt_t, ite_lt_f, ite_le_t, ite_le_f, ite_eq_t, ite_eq_f, ck_inb, nI_add, sb_nI, mu_nI, nI_clamp, sO_at, sO_sO, Nat.add_sub_cancel, Nat.zero_add, Nat.add_zero, li_0, li_1, li_2, li_3, li_4, li_5, li_6, li_7, li_8, li_9, li_10, li_11, li_12, li_16, li_20, li_24, li_31, li_32, li_48, li_49, li_73, li_74, li_75, li_97, li_98, li_99, li_100, li_101, li_109, li_110, li_255, li_680, li_700, li_9999, li_65536, li_65537, ← e, show (w1 11 0).2.2.1 3 = 0 from hM, m_refused]
  | some z =>
    obtain ⟨D, T, s, h, im⟩ := z
    obtain ⟨hD, h6, hT, hW, hQ, hH, hI⟩ := hd
    have hb1 := hD.1
    have h24 := hW.n24 hD
    by_cases hx : x < nI 0
    · have hx2 : ¬ nI 0 ≤ x := by
        rw [Int32.lt_iff_toInt_lt] at hx
        rw [Int32.le_iff_toInt_le]
        omega
      refine ⟨m1, 1, by omega, by omega, fun w q hq hp hX => ⟨w, XS.rf, ?_⟩, fun nd w w1 e ⟨d, b1, b2, b3, b4, b5, b6⟩ => ⟨w1, SM.rf, ?_⟩⟩
      · unfold fX9_cleansThen
        simp (disch := omega) only [↓mo_1, ↓mo_2, ad_m1, ite_m1_lt, ite_m2_lt, ite_le_m1, ite_eq_m1, ite_eq_m2, ite_m1_m1, ite_m2_m2, ite_T, ite_F, ite_nz, ite_zz, ite_m1_le, ite_m1_eq, oi_none, oi_some, ob_some, lw_def, ck_true, ckp_su, ite_lt_t, ite_lt_f, ite_le_t, ite_le_f, ite_eq_t, ite_eq_f, ck_inb, nI_add, sb_nI, mu_nI, nI_clamp, sO_at, sO_sO, Nat.add_sub_cancel, Nat.zero_add, Nat.add_zero, li_0, li_1, li_2, li_3, li_4, li_5, li_6, li_7, li_8, li_9, li_10, li_11, li_12, li_16, li_20, li_24, li_31, li_32, li_48, li_49, li_73, li_74, li_75, li_97, li_98, li_99, li_100, li_101, li_109, li_110, li_255, li_680, li_700, li_9999, li_65536, li_65537, x_hD1 hp hq hX.1.2.2.1 hD.1 (by omega), x_refuse]
        exact if_neg hx2
      · unfold fX11_cleansThen
        simp (disch := omega) only [↓mo_1, ↓mo_2, ad_m1, ite_m1_lt, ite_m2_lt, ite_le_m1, ite_eq_m1, ite_eq_m2, ite_m1_m1, ite_m2_m2, ite_T, ite_F, ite_nz, ite_zz, ite_m1_le, ite_m1_eq, oi_none, oi_some, ob_some, lw_def, ck_true, ckp_su, ite_lt_t, ite_lt_f, ite_le_t, ite_le_f, ite_eq_t, ite_eq_f, ck_inb, nI_add, sb_nI, mu_nI, nI_clamp, sO_at, sO_sO, Nat.add_sub_cancel, Nat.zero_add, Nat.add_zero, li_0, li_1, li_2, li_3, li_4, li_5, li_6, li_7, li_8, li_9, li_10, li_11, li_12, li_16, li_20, li_24, li_31, li_32, li_48, li_49, li_73, li_74, li_75, li_97, li_98, li_99, li_100, li_101, li_109, li_110, li_255, li_680, li_700, li_9999, li_65536, li_65537, ← e, b1, m_refused]
        exact if_neg hx2
    · obtain ⟨i, hi, rfl⟩ := nn x hx
      refine ⟨oi2 (nbS D (ctI D s i)), 0, by omega, by omega, fun w q hq hp hX => ?_, fun nd w w1 e ⟨d, b1, b2, b3, b4, b5, b6⟩ => ?_⟩
      · by_cases c : i < D.1
        · obtain ⟨o1, a1, a2, a3⟩ := x_copyFrom (w := w) (a := 1) (b := 0) hD hW (by decide) hX.2.2.1
          obtain ⟨o2, e2⟩ := x_cth hD hX.1 hW hq hp (show i < 2 ^ 30 by omega) i 0 (Nat.zero_add _) fuel0 o1 (by unfold fuel0; omega) a2
          refine ⟨sO w 7 1 o2, XS.t, ?_⟩
          unfold fX9_cleansThen
          simp (disch := omega) only [↓mo_1, ↓mo_2, ad_m1, ite_m1_lt, ite_m2_lt, ite_le_m1, ite_eq_m1, ite_eq_m2, ite_m1_m1, ite_m2_m2, ite_T, ite_F, ite_nz, ite_zz, ite_m1_le, ite_m1_eq, oi_none, oi_some, ob_some, lw_def, ck_true, ckp_su, ite_lt_t, ite_lt_f, ite_le_t, ite_le_f, ite_eq_t, ite_eq_f, ck_inb, nI_add, sb_nI, mu_nI, nI_clamp, sO_at, sO_sO, Nat.add_sub_cancel, Nat.zero_add, Nat.add_zero, li_0, li_1, li_2, li_3, li_4, li_5, li_6, li_7, li_8, li_9, li_10, li_11, li_12, li_16, li_20, li_24, li_31, li_32, li_48, li_49, li_73, li_74, li_75, li_97, li_98, li_99, li_100, li_101, li_109, li_110, li_255, li_680, li_700, li_9999, li_65536, li_65537, x_hD1 hp hq hX.1.2.2.1 hD.1 (by omega), hp, hX.1.2.2.1, a1, e2]
        · refine ⟨w, XS.rf, ?_⟩
          rw [ct_end hD hW (by omega), oi2_n]
          unfold fX9_cleansThen
          simp (disch := omega) only [↓mo_1, ↓mo_2, ad_m1, ite_m1_lt, ite_m2_lt, ite_le_m1, ite_eq_m1, ite_eq_m2, ite_m1_m1, ite_m2_m2, ite_T, ite_F, ite_nz, ite_zz, ite_m1_le, ite_m1_eq, oi_none, oi_some, ob_some, lw_def, ck_true, ckp_su, ite_lt_t, ite_lt_f, ite_le_t, ite_le_f, ite_eq_t, ite_eq_f, ck_inb, nI_add, sb_nI, mu_nI, nI_clamp, sO_at, sO_sO, Nat.add_sub_cancel, Nat.zero_add, Nat.add_zero, li_0, li_1, li_2, li_3, li_4, li_5, li_6, li_7, li_8, li_9, li_10, li_11, li_12, li_16, li_20, li_24, li_31, li_32, li_48, li_49, li_73, li_74, li_75, li_97, li_98, li_99, li_100, li_101, li_109, li_110, li_255, li_680, li_700, li_9999, li_65536, li_65537, x_hD1 hp hq hX.1.2.2.1 hD.1 (by omega), hp, hX.1.2.2.1, x_accept]
      · obtain ⟨w2, g, c1, c2, c3, c4, -⟩ := m_works hD b2 b1 b3 hW b5
        obtain ⟨g2, e2⟩ := m_cth hD c2 hW hi (sn s) 0 (Nat.le_refl _) (Nat.zero_le _) fuel0 g (by unfold fuel0; omega) c3
        refine ⟨mX w2 g2, c4.tr SM.x, ?_⟩
        have e3 : fX11_nextBand nd (mX w2 g) = some (oi2 (nbS D (ctI D s 0)), mX w2 g) := m_nextBand hD c2 hW c3
        unfold fX11_cleansThen
        simp (disch := omega) only [↓mo_1, ↓mo_2, ad_m1, ite_m1_lt, ite_m2_lt, ite_le_m1, ite_eq_m1, ite_eq_m2, ite_m1_m1, ite_m2_m2, ite_T, ite_F, ite_nz, ite_zz, ite_m1_le, ite_m1_eq, oi_none, oi_some, ob_some, lw_def, ck_true, ckp_su, ite_lt_t, ite_lt_f, ite_le_t, ite_le_f, ite_eq_t, ite_eq_f, ck_inb, nI_add, sb_nI, mu_nI, nI_clamp, sO_at, sO_sO, Nat.add_sub_cancel, Nat.zero_add, Nat.add_zero, li_0, li_1, li_2, li_3, li_4, li_5, li_6, li_7, li_8, li_9, li_10, li_11, li_12, li_16, li_20, li_24, li_31, li_32, li_48, li_49, li_73, li_74, li_75, li_97, li_98, li_99, li_100, li_101, li_109, li_110, li_255, li_680, li_700, li_9999, li_65536, li_65537, ← e, b1, c1, e3, e2]
/-! cuts -/
section CUQ
variable {D : Dk} {T : Tk} {s : Sd} {h im : Nat × (Nat → Sd)} {x y : Int32} {α : Type}
theorem x_why1 {w : Wd} {q n : Nat} (hq : q < 2) (hp : (w 9 0).2.2.1 2 = q + 1) (h3 : (w 5 q).1 3 = nI n) (hx : x < nI 0 ∨ ¬ x < nI 0 ∧ nI n ≤ x) : fX9_whyNoCut w x y = some (nI 1, w) := by
  unfold fX9_whyNoCut
  simp (disch := omega) only [↓mo_1, ↓mo_2, ad_m1, ite_m1_lt, ite_m2_lt, ite_le_m1, ite_eq_m1, ite_eq_m2, ite_m1_m1, ite_m2_m2, ite_T, ite_F, ite_nz, ite_zz, ite_m1_le, ite_m1_eq, oi_none, oi_some, ob_some, lw_def, ck_true, ckp_su, ite_lt_t, ite_lt_f, ite_le_t, ite_le_f, ite_eq_t, ite_eq_f, ck_inb, nI_add, sb_nI, mu_nI, nI_clamp, sO_at, sO_sO, Nat.add_sub_cancel, Nat.zero_add, Nat.add_zero, li_0, li_1, li_2, li_3, li_4, li_5, li_6, li_7, li_8, li_9, li_10, li_11, li_12, li_16, li_20, li_24, li_31, li_32, li_48, li_49, li_73, li_74, li_75, li_97, li_98, li_99, li_100, li_101, li_109, li_110, li_255, li_680, li_700, li_9999, li_65536, li_65537, x_hB0 hp hq h3 hx]
theorem x_why2 {w : Wd} {q b : Nat} (hD : WFD D) (hq : q < 2) (hp : (w 9 0).2.2.1 2 = q + 1) (hS : RSh (w 5 q) D) (hb : b < D.1) (hy : y < nI 0 ∨ ¬ y < nI 0 ∧ nI (2 * D.2.1 b + 3) ≤ y) : fX9_whyNoCut w (nI b) y = some (nI 2, w) := by
  have h24 := hD.2.1
  have h8 := (hD.2.2.1 b hb).2
  unfold fX9_whyNoCut
  simp (disch := omega) only [↓mo_1, ↓mo_2, ad_m1, ite_m1_lt, ite_m2_lt, ite_le_m1, ite_eq_m1, ite_eq_m2, ite_m1_m1, ite_m2_m2, ite_T, ite_F, ite_nz, ite_zz, ite_m1_le, ite_m1_eq, oi_none, oi_some, ob_some, lw_def, ck_true, ckp_su, ite_lt_t, ite_lt_f, ite_le_t, ite_le_f, ite_eq_t, ite_eq_f, ck_inb, nI_add, sb_nI, mu_nI, nI_clamp, sO_at, sO_sO, Nat.add_sub_cancel, Nat.zero_add, Nat.add_zero, li_0, li_1, li_2, li_3, li_4, li_5, li_6, li_7, li_8, li_9, li_10, li_11, li_12, li_16, li_20, li_24, li_31, li_32, li_48, li_49, li_73, li_74, li_75, li_97, li_98, li_99, li_100, li_101, li_109, li_110, li_255, li_680, li_700, li_9999, li_65536, li_65537, x_hB1 hp hq hS.2.2.1, hp, x_stepsOf hS hD hb]
  rcases hy with hy | ⟨hy, hz⟩
  · exact if_pos hy
  · refine (if_neg hy).trans (if_neg ?_)
    rw [Int32.le_iff_toInt_le, nI_toInt (by omega)] at hz ⊢
    omega
theorem x_why3 {w : Wd} {q b k : Nat} (hD : WFD D) (hq : q < 2) (hp : (w 9 0).2.2.1 2 = q + 1) (hS : RSh (w 5 q) D) (hb : b < D.1) (hk : k < 2 * D.2.1 b + 3) {d : Bool} (h8 : (w 7 0).1 8 = b2i d) : fX9_whyNoCut w (nI b) (nI k) = some (nI (if d = true then 5 else 0), w) := by
  have h24 := hD.2.1
  have h8' := (hD.2.2.1 b hb).2
  unfold fX9_whyNoCut
  cases d with
  | true =>
    rw [b2i_t] at h8
    simp (disch := omega) only [↓mo_1, ↓mo_2, ad_m1, ite_m1_lt, ite_m2_lt, ite_le_m1, ite_eq_m1, ite_eq_m2, ite_m1_m1, ite_m2_m2, ite_T, ite_F, ite_nz, ite_zz, ite_m1_le, ite_m1_eq, oi_none, oi_some, ob_some, lw_def, ck_true, ckp_su, ite_lt_t, ite_lt_f, ite_le_t, ite_le_f, ite_eq_t, ite_eq_f, ck_inb, nI_add, sb_nI, mu_nI, nI_clamp, sO_at, sO_sO, Nat.add_sub_cancel, Nat.zero_add, Nat.add_zero, li_0, li_1, li_2, li_3, li_4, li_5, li_6, li_7, li_8, li_9, li_10, li_11, li_12, li_16, li_20, li_24, li_31, li_32, li_48, li_49, li_73, li_74, li_75, li_97, li_98, li_99, li_100, li_101, li_109, li_110, li_255, li_680, li_700, li_9999, li_65536, li_65537, x_hB1 hp hq hS.2.2.1, hp, x_stepsOf hS hD hb, h8]
  | false =>
    rw [b2i_f] at h8
    simp (disch := omega) only [↓mo_1, ↓mo_2, ad_m1, ite_m1_lt, ite_m2_lt, ite_le_m1, ite_eq_m1, ite_eq_m2, ite_m1_m1, ite_m2_m2, ite_T, ite_F, ite_nz, ite_zz, ite_m1_le, ite_m1_eq, oi_none, oi_some, ob_some, lw_def, ck_true, ckp_su, ite_lt_t, ite_lt_f, ite_le_t, ite_le_f, ite_eq_t, ite_eq_f, ck_inb, nI_add, sb_nI, mu_nI, nI_clamp, sO_at, sO_sO, Nat.add_sub_cancel, Nat.zero_add, Nat.add_zero, li_0, li_1, li_2, li_3, li_4, li_5, li_6, li_7, li_8, li_9, li_10, li_11, li_12, li_16, li_20, li_24, li_31, li_32, li_48, li_49, li_73, li_74, li_75, li_97, li_98, li_99, li_100, li_101, li_109, li_110, li_255, li_680, li_700, li_9999, li_65536, li_65537, x_hB1 hp hq hS.2.2.1, hp, x_stepsOf hS hD hb, h8]
    rfl
theorem m_rc {nd : Nat} {w : Wd} {d b : Nat} (hD : WFD D) (hd : d < nd) (hp : (w 11 0).2.2.1 3 = d + 1) (hR : RDm (w 10 d) D) (hW : WFS D s) (hM : RM ((w 11 0).2.1 15) s) (hb : b < D.1) : ∃ (w2 : Wd) (g : Nat → Int32), RMs nd w2 D ∧ RM g s ∧ SM w w2 ∧ ((y < nI 0 ∨ ¬ y < nI 0 ∧ nI (2 * D.2.1 b + 3) ≤ y) → fX11_refusesCut nd w (nI b) y = some (nI 2, mX w2 g)) ∧ ∀ k, k < 2 * D.2.1 b + 3 → y = nI k → fX11_refusesCut nd w (nI b) y = some (nI (if sdn s = true then 5 else 0), mX w2 g) := by
  have h24 := hD.2.1
  have h8 := (hD.2.2.1 b hb).2
  obtain ⟨w2, g, c1, c2, c3, c4, -⟩ := m_works hD hd hp hR hW hM
  have hM2 : RM ((mX w2 g 11 0).2.1 15) s := by rw [mX_r (by decide), c4.2.2.2 15 (by decide)]; exact hM
  refine ⟨w2, g, c2, c3, c4, fun hy => ?_, fun k hk e => ?_⟩
  · unfold fX11_refusesCut
    simp (disch := omega) only [↓mo_1, ↓mo_2, ad_m1, ite_m1_lt, ite_m2_lt, ite_le_m1, ite_eq_m1, ite_eq_m2, ite_m1_m1, ite_m2_m2, ite_T, ite_F, ite_nz, ite_zz, ite_m1_le, ite_m1_eq, oi_none, oi_some, ob_some, lw_def, ck_true, ckp_su, ite_lt_t, ite_lt_f, ite_le_t, ite_le_f, ite_eq_t, ite_eq_f, ck_inb, nI_add, sb_nI, mu_nI, nI_clamp, sO_at, sO_sO, Nat.add_sub_cancel, Nat.zero_add, Nat.add_zero, li_0, li_1, li_2, li_3, li_4, li_5, li_6, li_7, li_8, li_9, li_10, li_11, li_12, li_16, li_20, li_24, li_31, li_32, li_48, li_49, li_73, li_74, li_75, li_97, li_98, li_99, li_100, li_101, li_109, li_110, li_255, li_680, li_700, li_9999, li_65536, li_65537, m_iB1 hp hd hR.2.2.1, c1, m_stepsOf hD c2 hb, m_in0 hy]
  · subst e
    unfold fX11_refusesCut
    cases hdn : sdn s with
    | true =>
      simp (disch := omega) only [↓mo_1, ↓mo_2, ad_m1, ite_m1_lt, ite_m2_lt, ite_le_m1, ite_eq_m1, ite_eq_m2, ite_m1_m1, ite_m2_m2, ite_T, ite_F, ite_nz, ite_zz, ite_m1_le, ite_m1_eq, oi_none, oi_some, ob_some, lw_def, ck_true, ckp_su, ite_lt_t, ite_lt_f, ite_le_t, ite_le_f, ite_eq_t, ite_eq_f, ck_inb, nI_add, sb_nI, mu_nI, nI_clamp, sO_at, sO_sO, Nat.add_sub_cancel, Nat.zero_add, Nat.add_zero, li_0, li_1, li_2, li_3, li_4, li_5, li_6, li_7, li_8, li_9, li_10, li_11, li_12, li_16, li_20, li_24, li_31, li_32, li_48, li_49, li_73, li_74, li_75, li_97, li_98, li_99, li_100, li_101, li_109, li_110, li_255, li_680, li_700, li_9999, li_65536, li_65537, m_iB1 hp hd hR.2.2.1, c1, m_stepsOf hD c2 hb, m_in1, m_isDown1 hM2 hdn]
    | false =>
      simp (disch := omega) only [↓mo_1, ↓mo_2, ad_m1, ite_m1_lt, ite_m2_lt, ite_le_m1, ite_eq_m1, ite_eq_m2, ite_m1_m1, ite_m2_m2, ite_T, ite_F, ite_nz, ite_zz, ite_m1_le, ite_m1_eq, oi_none, oi_some, ob_some, lw_def, ck_true, ckp_su, ite_lt_t, ite_lt_f, ite_le_t, ite_le_f, ite_eq_t, ite_eq_f, ck_inb, nI_add, sb_nI, mu_nI, nI_clamp, sO_at, sO_sO, Nat.add_sub_cancel, Nat.zero_add, Nat.add_zero, li_0, li_1, li_2, li_3, li_4, li_5, li_6, li_7, li_8, li_9, li_10, li_11, li_12, li_16, li_20, li_24, li_31, li_32, li_48, li_49, li_73, li_74, li_75, li_97, li_98, li_99, li_100, li_101, li_109, li_110, li_255, li_680, li_700, li_9999, li_65536, li_65537, m_iB1 hp hd hR.2.2.1, c1, m_stepsOf hD c2 hb, m_in1, m_isDown0 hM2 hdn]
      rfl
/-- a question of a cut -/
theorem cutS {F : Wd → Option (Int32 × Wd)} {H : Nat → Wd → Option (Int32 × Wd)} (hd : DOK (some (D, T, s, h, im)))
    (hF0 : ∀ w q r, q < 2 → (w 9 0).2.2.1 2 = q + 1 → XD w q (some (D, T, s, h, im)) → fX9_whyNoCut w x y = some (nI r, w) → 0 < r → r < 9 → F w = some (m1, sI w 9 0 13 (nI r)))
    (hH0 : ∀ nd w w1 w2 r, w1 = sI w 11 0 0 (nI 0) → MD nd w1 (some (D, T, s, h, im)) → fX11_refusesCut nd w1 x y = some (nI r, w2) → 0 < r → r < 9 → H nd w = some (m1, mT w2 (nI r)))
    (hok : ∀ b k, b < D.1 → k ≤ 2 * D.2.1 b + 2 → sdn s = false → x = nI b → y = nI k → ∃ r, (∀ w q, q < 2 → (w 9 0).2.2.1 2 = q + 1 → XD w q (some (D, T, s, h, im)) → fX9_whyNoCut w x y = some (nI 0, w) → ∃ w1, XS w w1 ∧ F w = some (r, sI w1 9 0 13 (nI 0))) ∧ ∀ nd w w1 w2 g, w1 = sI w 11 0 0 (nI 0) → MD nd w1 (some (D, T, s, h, im)) → fX11_refusesCut nd w1 x y = some (nI 0, mX w2 g) → RMs nd w2 D → RM g s → SM w1 w2 → ∃ w3, SM w2 w3 ∧ H nd w = some (r, mT w3 (nI 0))) :
    ∃ r k, (k < 4 ∨ 4 < k) ∧ k < 9 ∧ (∀ w q, q < 2 → (w 9 0).2.2.1 2 = q + 1 → XD w q (some (D, T, s, h, im)) → ∃ w1, XS w w1 ∧ F w = some (r, sI w1 9 0 13 (nI k))) ∧ ∀ nd w w1, w1 = sI w 11 0 0 (nI 0) → MD nd w1 (some (D, T, s, h, im)) → ∃ w2, SM w1 w2 ∧ H nd w = some (r, mT w2 (nI k)) := by
  obtain ⟨hD, h6, hT, hW, hQ, hH, hI⟩ := hd
  have hb24 := hD.2.1
  rcases rng x (show D.1 < 2 ^ 31 by omega) with ⟨b, hb, rfl⟩ | hx
  · have h8 := (hD.2.2.1 b hb).2
    rcases rng y (show 2 * D.2.1 b + 3 < 2 ^ 31 by omega) with ⟨k, hk, rfl⟩ | hy
    · cases hdn : sdn s with
      | true =>
        refine ⟨m1, 5, by omega, by omega, fun w q hq hp hX => ⟨w, XS.rf, ?_⟩, fun nd w w1 e hM => ?_⟩
        · have e1 := x_why3 hD hq hp hX.1 hb hk hX.2.2.1.2.2.2.2.2.2.2.2.1
          rw [if_pos hdn] at e1
          exact hF0 w q 5 hq hp hX e1 (by omega) (by omega)
        · have hM' := hM
          obtain ⟨d, b1, b2, b3, b4, b5, b6⟩ := hM'
          obtain ⟨w2, g, c1, c2, c3, c4, c5⟩ := m_rc (y := nI k) hD b2 b1 b3 hW b5 hb
          have e1 := c5 k hk rfl
          rw [if_pos hdn] at e1
          exact ⟨mX w2 g, c3.tr SM.x, hH0 nd w w1 _ 5 e hM e1 (by omega) (by omega)⟩
      | false =>
        obtain ⟨r, k1, k2⟩ := hok b k hb (by omega) hdn rfl rfl
        refine ⟨r, 0, by omega, by omega, fun w q hq hp hX => ?_, fun nd w w1 e hM => ?_⟩
        · have e1 := x_why3 hD hq hp hX.1 hb hk hX.2.2.1.2.2.2.2.2.2.2.2.1
          rw [if_neg (by rw [hdn]; simp)] at e1
          exact k1 w q hq hp hX e1
        · have hM' := hM
          obtain ⟨d, b1, b2, b3, b4, b5, b6⟩ := hM'
          obtain ⟨w2, g, c1, c2, c3, c4, c5⟩ := m_rc (y := nI k) hD b2 b1 b3 hW b5 hb
          have e1 := c5 k hk rfl
          rw [if_neg (by rw [hdn]; simp)] at e1
          obtain ⟨w3, e3, e4⟩ := k2 nd w w1 w2 g e hM e1 c1 c2 c3
          exact ⟨w3, c3.tr e3, e4⟩
    · refine ⟨m1, 2, by omega, by omega, fun w q hq hp hX => ⟨w, XS.rf, ?_⟩, fun nd w w1 e hM => ?_⟩
      · exact hF0 w q 2 hq hp hX (x_why2 hD hq hp hX.1 hb hy) (by omega) (by omega)
      · have hM' := hM
        obtain ⟨d, b1, b2, b3, b4, b5, b6⟩ := hM'
        obtain ⟨w2, g, c1, c2, c3, c4, c5⟩ := m_rc hD b2 b1 b3 hW b5 hb
        exact ⟨mX w2 g, c3.tr SM.x, hH0 nd w w1 _ 2 e hM (c4 hy) (by omega) (by omega)⟩
  · refine ⟨m1, 1, by omega, by omega, fun w q hq hp hX => ⟨w, XS.rf, ?_⟩, fun nd w w1 e hM => ⟨w1, SM.rf, ?_⟩⟩
    · exact hF0 w q 1 hq hp hX (x_why1 hq hp hX.1.2.2.1 hx) (by omega) (by omega)
    · have hM' := hM
      obtain ⟨d, b1, b2, b3, b4, b5, b6⟩ := hM'
      refine hH0 nd w w1 w1 1 e hM ?_ (by omega) (by omega)
      unfold fX11_refusesCut
      simp (disch := omega) only [↓mo_1, ↓mo_2, ad_m1, ite_m1_lt, ite_m2_lt, ite_le_m1, ite_eq_m1, ite_eq_m2, ite_m1_m1, ite_m2_m2, ite_T, ite_F, ite_nz, ite_zz, ite_m1_le, ite_m1_eq, oi_none, oi_some, ob_some, lw_def, ck_true, ckp_su, ite_lt_t, ite_lt_f, ite_le_t, ite_le_f, ite_eq_t, ite_eq_f, ck_inb, nI_add, sb_nI, mu_nI, nI_clamp, sO_at, sO_sO, Nat.add_sub_cancel, Nat.zero_add, Nat.add_zero, li_0, li_1, li_2, li_3, li_4, li_5, li_6, li_7, li_8, li_9, li_10, li_11, li_12, li_16, li_20, li_24, li_31, li_32, li_48, li_49, li_73, li_74, li_75, li_97, li_98, li_99, li_100, li_101, li_109, li_110, li_255, li_680, li_700, li_9999, li_65536, li_65537, m_iB b1 b2 b3.2.2.1 hx]
theorem x_tryCut {w : Wd} {q b k : Nat} (hD : WFD D) (hW : WFS D s) (hQ : QT s) (hdn : sdn s = false) (hq : q < 2) (hp : (w 9 0).2.2.1 2 = q + 1) (hS : RSh (w 5 q) D) (hR : RX (w 7 0) s) (hb : b < D.1) (hk : k ≤ 2 * D.2.1 b + 2) : ∃ o2 : Ob, fX9_tryCut w (nI b) (nI k) = some ((), sO w 7 1 o2) ∧ RX o2 (ctS D s b k) := by
  obtain ⟨o1, a1, a2, a3⟩ := x_copyFrom (w := w) (a := 1) (b := 0) hD hW (by decide) hR
  obtain ⟨o2, e1, e2⟩ := x_cutPower (w := w) (j := 1) hD hS hW a2 hb hk (hQ hdn).1 (hQ hdn).2
  have hp2 : (sO w 7 1 o1 9 0).2.2.1 2 = q + 1 := by rw [sO_nc (by decide)]; exact hp
  refine ⟨o2, ?_, e2⟩
  unfold fX9_tryCut
  simp (disch := omega) only [↓mo_1, ↓mo_2, ad_m1, ite_m1_lt, ite_m2_lt, ite_le_m1, ite_eq_m1, ite_eq_m2, ite_m1_m1, ite_m2_m2, ite_T, ite_F, ite_nz, ite_zz, ite_m1_le, ite_m1_eq, oi_none, oi_some, ob_some, lw_def, ck_true, ckp_su, ite_lt_t, ite_lt_f, ite_le_t, ite_le_f, ite_eq_t, ite_eq_f, ck_inb, nI_add, sb_nI, mu_nI, nI_clamp, sO_at, sO_sO, Nat.add_sub_cancel, Nat.zero_add, Nat.add_zero, li_0, li_1, li_2, li_3, li_4, li_5, li_6, li_7, li_8, li_9, li_10, li_11, li_12, li_16, li_20, li_24, li_31, li_32, li_48, li_49, li_73, li_74, li_75, li_97, li_98, li_99, li_100, li_101, li_109, li_110, li_255, li_680, li_700, li_9999, li_65536, li_65537, a1, hp2, e1]
theorem ct_wf2 {b k : Nat} (hD : WFD D) (hW : WFS D s) (hQ : QT s) (hdn : sdn s = false) (hb : b < D.1) (hk : k ≤ 2 * D.2.1 b + 2) : WFS D (ctS D s b k) := dn_wf (sp_wf hD hW hb (hQ hdn).1 (hQ hdn).2 hk)
theorem q_damages {x y : Int32} : Qy (fun w => fX9_damages w x y) (fun nd w => fX11_damages nd w x y) := by
  intro d hd
  cases d with
  | none =>
    refine ⟨m1, 1, by omega, by omega, fun w q hq hp hX => ⟨w, XS.rf, ?_⟩, fun nd w w1 e hM => ⟨w1, SM.rf, ?_⟩⟩
    · unfold fX9_damages
      simp (disch := omega) only [↓mo_1, ↓mo_2, ad_m1, ite_m1_lt, ite_m2_lt, ite_le_m1, ite_eq_m1, ite_eq_m2, ite_m1_m1, ite_m2_m2, ite_T, ite_F, ite_nz, ite_zz, ite_m1_le, ite_m1_eq, oi_none, oi_some, ob_some, lw_def, ck_true, ckp_su, ite_lt_t, ite_lt_f, ite_le_t, ite_le_f, ite_eq_t, ite_eq_f, ck_inb, nI_add, sb_nI, mu_nI, nI_clamp, sO_at, sO_sO, Nat.add_sub_cancel, Nat.zero_add, Nat.add_zero, li_0, li_1, li_2, li_3, li_4, li_5, li_6, li_7, li_8, li_9, li_10, li_11, li_12, li_16, li_20, li_24, li_31, li_32, li_48, li_49, li_73, li_74, li_75, li_97, li_98, li_99, li_100, li_101, li_109, li_110, li_255, li_680, li_700, li_9999, li_65536, li_65537, x_why1 hq hp hX.1.1 (n_z x), x_refuse]
    · have e1 : fX11_refusesCut nd w1 x y = some (nI 1, w1) := by
        unfold fX11_refusesCut
        simp (disch := omega) only [↓mo_1, ↓mo_2, ad_m1, ite_m1_lt, ite_m2_lt, ite_le_m1, ite_eq_m1, ite_eq_m2, ite_m1_m1, ite_m2_m2, ite_T, ite_F, ite_nz, ite_zz, ite_m1_le, ite_m1_eq, oi_none, oi_some, ob_some, lw_def, ck_true, ckp_su, ite_lt_t, ite_lt_f, ite_le_t, ite_le_f, ite_eq_t, ite_eq_f, ck_inb, nI_add, sb_nI, mu_nI, nI_clamp, sO_at, sO_sO, Nat.add_sub_cancel, Nat.zero_add, Nat.add_zero, li_0, li_1, li_2, li_3, li_4, li_5, li_6, li_7, li_8, li_9, li_10, li_11, li_12, li_16, li_20, li_24, li_31, li_32, li_48, li_49, li_73, li_74, li_75, li_97, li_98, li_99, li_100, li_101, li_109, li_110, li_255, li_680, li_700, li_9999, li_65536, li_65537, m_iB0 (show (w1 11 0).2.2.1 3 = 0 from hM)]
      unfold fX11_damages
      simp (disch := omega) only [↓mo_1, ↓mo_2, ad_m1, ite_m1_lt, ite_m2_lt, ite_le_m1, ite_eq_m1, ite_eq_m2, ite_m1_m1, ite_m2_m2, ite_T, ite_F, ite_nz, ite_zz, ite_m1_le, ite_m1_eq, oi_none, oi_some, ob_some, lw_def, ck_true, ckp_su, ite_lt_t, ite_lt_f, ite_le_t, ite_le_f, ite_eq_t, ite_eq_f, ck_inb, nI_add, sb_nI, mu_nI, nI_clamp, sO_at, sO_sO, Nat.add_sub_cancel, Nat.zero_add, Nat.add_zero, li_0, li_1, li_2, li_3, li_4, li_5, li_6, li_7, li_8, li_9, li_10, li_11, li_12, li_16, li_20, li_24, li_31, li_32, li_48, li_49, li_73, li_74, li_75, li_97, li_98, li_99, li_100, li_101, li_109, li_110, li_255, li_680, li_700, li_9999, li_65536, li_65537, ← e, e1, m_refused]
  | some z =>
    obtain ⟨D, T, s, h, im⟩ := z
    have hd' := hd
    obtain ⟨hD, h6, hT, hW, hQ, hH, hI⟩ := hd'
    have h48 := hD.2.2.2.1
    refine cutS (x := x) (y := y) hd (fun w q r hq hp hX e1 hr hr2 => ?_) (fun nd w w1 w2 r e hM e1 hr hr2 => ?_) (fun b k hb hk hdn ex ey => ⟨nI (dmA D (sTr (ctS D s b k)) D.1), fun w q hq hp hX e1 => ?_, fun nd w w1 w2 g e hM e1 c1 c2 c3 => ?_⟩)
    · unfold fX9_damages
      simp (disch := omega) only [↓mo_1, ↓mo_2, ad_m1, ite_m1_lt, ite_m2_lt, ite_le_m1, ite_eq_m1, ite_eq_m2, ite_m1_m1, ite_m2_m2, ite_T, ite_F, ite_nz, ite_zz, ite_m1_le, ite_m1_eq, oi_none, oi_some, ob_some, lw_def, ck_true, ckp_su, ite_lt_t, ite_lt_f, ite_le_t, ite_le_f, ite_eq_t, ite_eq_f, ck_inb, nI_add, sb_nI, mu_nI, nI_clamp, sO_at, sO_sO, Nat.add_sub_cancel, Nat.zero_add, Nat.add_zero, li_0, li_1, li_2, li_3, li_4, li_5, li_6, li_7, li_8, li_9, li_10, li_11, li_12, li_16, li_20, li_24, li_31, li_32, li_48, li_49, li_73, li_74, li_75, li_97, li_98, li_99, li_100, li_101, li_109, li_110, li_255, li_680, li_700, li_9999, li_65536, li_65537, e1, x_refuse]
    · unfold fX11_damages
      simp (disch := omega) only [↓mo_1, ↓mo_2, ad_m1, ite_m1_lt, ite_m2_lt, ite_le_m1, ite_eq_m1, ite_eq_m2, ite_m1_m1, ite_m2_m2, ite_T, ite_F, ite_nz, ite_zz, ite_m1_le, ite_m1_eq, oi_none, oi_some, ob_some, lw_def, ck_true, ckp_su, ite_lt_t, ite_lt_f, ite_le_t, ite_le_f, ite_eq_t, ite_eq_f, ck_inb, nI_add, sb_nI, mu_nI, nI_clamp, sO_at, sO_sO, Nat.add_sub_cancel, Nat.zero_add, Nat.add_zero, li_0, li_1, li_2, li_3, li_4, li_5, li_6, li_7, li_8, li_9, li_10, li_11, li_12, li_16, li_20, li_24, li_31, li_32, li_48, li_49, li_73, li_74, li_75, li_97, li_98, li_99, li_100, li_101, li_109, li_110, li_255, li_680, li_700, li_9999, li_65536, li_65537, ← e, e1, m_refused]
    · subst ex ey
      obtain ⟨o2, e2, e3⟩ := x_tryCut hD hW hQ hdn hq hp hX.1 hX.2.2.1 hb hk
      have hWc := ct_wf2 hD hW hQ hdn hb hk
      have hp2 : ∀ o, (sO w 7 1 o 9 0).2.2.1 2 = q + 1 := fun o => by rw [sO_nc (by decide)]; exact hp
      refine ⟨sO w 7 1 o2, XS.t, ?_⟩
      unfold fX9_damages
      simp (disch := omega) only [↓mo_1, ↓mo_2, ad_m1, ite_m1_lt, ite_m2_lt, ite_le_m1, ite_eq_m1, ite_eq_m2, ite_m1_m1, ite_m2_m2, ite_T, ite_F, ite_nz, ite_zz, ite_m1_le, ite_m1_eq, oi_none, oi_some, ob_some, lw_def, ck_true, ckp_su, ite_lt_t, ite_lt_f, ite_le_t, ite_le_f, ite_eq_t, ite_eq_f, ck_inb, nI_add, sb_nI, mu_nI, nI_clamp, sO_at, sO_sO, Nat.add_sub_cancel, Nat.zero_add, Nat.add_zero, li_0, li_1, li_2, li_3, li_4, li_5, li_6, li_7, li_8, li_9, li_10, li_11, li_12, li_16, li_20, li_24, li_31, li_32, li_48, li_49, li_73, li_74, li_75, li_97, li_98, li_99, li_100, li_101, li_109, li_110, li_255, li_680, li_700, li_9999, li_65536, li_65537, e1, e2, hp2, x_damagedInAll hD hX.1 e3, x_accept]
    · subst ex ey
      obtain ⟨g2, e2, e3⟩ := m_cuts hD c1 hW c2 hb hk (hQ hdn).1 (hQ hdn).2
      have hWc := ct_wf2 hD hW hQ hdn hb hk
      refine ⟨mX w2 g2, SM.x, ?_⟩
      unfold fX11_damages
      simp (disch := omega) only [↓mo_1, ↓mo_2, ad_m1, ite_m1_lt, ite_m2_lt, ite_le_m1, ite_eq_m1, ite_eq_m2, ite_m1_m1, ite_m2_m2, ite_T, ite_F, ite_nz, ite_zz, ite_m1_le, ite_m1_eq, oi_none, oi_some, ob_some, lw_def, ck_true, ckp_su, ite_lt_t, ite_lt_f, ite_le_t, ite_le_f, ite_eq_t, ite_eq_f, ck_inb, nI_add, sb_nI, mu_nI, nI_clamp, sO_at, sO_sO, Nat.add_sub_cancel, Nat.zero_add, Nat.add_zero, li_0, li_1, li_2, li_3, li_4, li_5, li_6, li_7, li_8, li_9, li_10, li_11, li_12, li_16, li_20, li_24, li_31, li_32, li_48, li_49, li_73, li_74, li_75, li_97, li_98, li_99, li_100, li_101, li_109, li_110, li_255, li_680, li_700, li_9999, li_65536, li_65537, ← e, e1, e2, e2, m_good]
theorem q_fullThen {x y : Int32} : Qy (fun w => fX9_fullThen w x y) (fun nd w => fX11_fullThen nd w x y) := by
  intro d hd
  cases d with
  | none =>
    refine ⟨m1, 1, by omega, by omega, fun w q hq hp hX => ⟨w, XS.rf, ?_⟩, fun nd w w1 e hM => ⟨w1, SM.rf, ?_⟩⟩
    · unfold fX9_fullThen
      simp (disch := omega) only [↓mo_1, ↓mo_2, ad_m1, ite_m1_lt, ite_m2_lt, ite_le_m1, ite_eq_m1, ite_eq_m2, ite_m1_m1, ite_m2_m2, ite_T, ite_F, ite_nz, ite_zz, ite_m1_le, ite_m1_eq, oi_none, oi_some, ob_some, lw_def, ck_true, ckp_su, ite_lt_t, ite_lt_f, ite_le_t, ite_le_f, ite_eq_t, ite_eq_f, ck_inb, nI_add, sb_nI, mu_nI, nI_clamp, sO_at, sO_sO, Nat.add_sub_cancel, Nat.zero_add, Nat.add_zero, li_0, li_1, li_2, li_3, li_4, li_5, li_6, li_7, li_8, li_9, li_10, li_11, li_12, li_16, li_20, li_24, li_31, li_32, li_48, li_49, li_73, li_74, li_75, li_97, li_98, li_99, li_100, li_101, li_109, li_110, li_255, li_680, li_700, li_9999, li_65536, li_65537, x_why1 hq hp hX.1.1 (n_z x), x_refuse]
    · have e1 : fX11_refusesCut nd w1 x y = some (nI 1, w1) := by
        unfold fX11_refusesCut
        simp (disch := omega) only [↓mo_1, ↓mo_2, ad_m1, ite_m1_lt, ite_m2_lt, ite_le_m1, ite_eq_m1, ite_eq_m2, ite_m1_m1, ite_m2_m2, ite_T, ite_F, ite_nz, ite_zz, ite_m1_le, ite_m1_eq, oi_none, oi_some, ob_some, lw_def, ck_true, ckp_su, ite_lt_t, ite_lt_f, ite_le_t, ite_le_f, ite_eq_t, ite_eq_f, ck_inb, nI_add, sb_nI, mu_nI, nI_clamp, sO_at, sO_sO, Nat.add_sub_cancel, Nat.zero_add, Nat.add_zero, li_0, li_1, li_2, li_3, li_4, li_5, li_6, li_7, li_8, li_9, li_10, li_11, li_12, li_16, li_20, li_24, li_31, li_32, li_48, li_49, li_73, li_74, li_75, li_97, li_98, li_99, li_100, li_101, li_109, li_110, li_255, li_680, li_700, li_9999, li_65536, li_65537, m_iB0 (show (w1 11 0).2.2.1 3 = 0 from hM)]
      unfold fX11_fullThen
      simp (disch := omega) only [↓mo_1, ↓mo_2, ad_m1, ite_m1_lt, ite_m2_lt, ite_le_m1, ite_eq_m1, ite_eq_m2, ite_m1_m1, ite_m2_m2, ite_T, ite_F, ite_nz, ite_zz, ite_m1_le, ite_m1_eq, oi_none, oi_some, ob_some, lw_def, ck_true, ckp_su, ite_lt_t, ite_lt_f, ite_le_t, ite_le_f, ite_eq_t, ite_eq_f, ck_inb, nI_add, sb_nI, mu_nI, nI_clamp, sO_at, sO_sO, Nat.add_sub_cancel, Nat.zero_add, Nat.add_zero, li_0, li_1, li_2, li_3, li_4, li_5, li_6, li_7, li_8, li_9, li_10, li_11, li_12, li_16, li_20, li_24, li_31, li_32, li_48, li_49, li_73, li_74, li_75, li_97, li_98, li_99, li_100, li_101, li_109, li_110, li_255, li_680, li_700, li_9999, li_65536, li_65537, ← e, e1, m_refused]
  | some z =>
    obtain ⟨D, T, s, h, im⟩ := z
    have hd' := hd
    obtain ⟨hD, h6, hT, hW, hQ, hH, hI⟩ := hd'
    have h48 := hD.2.2.2.1
    refine cutS (x := x) (y := y) hd (fun w q r hq hp hX e1 hr hr2 => ?_) (fun nd w w1 w2 r e hM e1 hr hr2 => ?_) (fun b k hb hk hdn ex ey => ⟨b2i (jf (ctS D s b k)), fun w q hq hp hX e1 => ?_, fun nd w w1 w2 g e hM e1 c1 c2 c3 => ?_⟩)
    · unfold fX9_fullThen
      simp (disch := omega) only [↓mo_1, ↓mo_2, ad_m1, ite_m1_lt, ite_m2_lt, ite_le_m1, ite_eq_m1, ite_eq_m2, ite_m1_m1, ite_m2_m2, ite_T, ite_F, ite_nz, ite_zz, ite_m1_le, ite_m1_eq, oi_none, oi_some, ob_some, lw_def, ck_true, ckp_su, ite_lt_t, ite_lt_f, ite_le_t, ite_le_f, ite_eq_t, ite_eq_f, ck_inb, nI_add, sb_nI, mu_nI, nI_clamp, sO_at, sO_sO, Nat.add_sub_cancel, Nat.zero_add, Nat.add_zero, li_0, li_1, li_2, li_3, li_4, li_5, li_6, li_7, li_8, li_9, li_10, li_11, li_12, li_16, li_20, li_24, li_31, li_32, li_48, li_49, li_73, li_74, li_75, li_97, li_98, li_99, li_100, li_101, li_109, li_110, li_255, li_680, li_700, li_9999, li_65536, li_65537, e1, x_refuse]
    · unfold fX11_fullThen
      simp (disch := omega) only [↓mo_1, ↓mo_2, ad_m1, ite_m1_lt, ite_m2_lt, ite_le_m1, ite_eq_m1, ite_eq_m2, ite_m1_m1, ite_m2_m2, ite_T, ite_F, ite_nz, ite_zz, ite_m1_le, ite_m1_eq, oi_none, oi_some, ob_some, lw_def, ck_true, ckp_su, ite_lt_t, ite_lt_f, ite_le_t, ite_le_f, ite_eq_t, ite_eq_f, ck_inb, nI_add, sb_nI, mu_nI, nI_clamp, sO_at, sO_sO, Nat.add_sub_cancel, Nat.zero_add, Nat.add_zero, li_0, li_1, li_2, li_3, li_4, li_5, li_6, li_7, li_8, li_9, li_10, li_11, li_12, li_16, li_20, li_24, li_31, li_32, li_48, li_49, li_73, li_74, li_75, li_97, li_98, li_99, li_100, li_101, li_109, li_110, li_255, li_680, li_700, li_9999, li_65536, li_65537, ← e, e1, m_refused]
    · subst ex ey
      obtain ⟨o2, e2, e3⟩ := x_tryCut hD hW hQ hdn hq hp hX.1 hX.2.2.1 hb hk
      have hWc := ct_wf2 hD hW hQ hdn hb hk
      have hp2 : ∀ o, (sO w 7 1 o 9 0).2.2.1 2 = q + 1 := fun o => by rw [sO_nc (by decide)]; exact hp
      refine ⟨sO w 7 1 o2, XS.t, ?_⟩
      have e4 := e3.2.2.2.2.2.2.1
      revert e4
      cases jf (ctS D s b k) with
      | true =>
        intro e4
        rw [b2i_t] at e4 ⊢
        unfold fX9_fullThen
        simp (disch := omega) only [↓mo_1, ↓mo_2, ad_m1, ite_m1_lt, ite_m2_lt, ite_le_m1, ite_eq_m1, ite_eq_m2, ite_m1_m1, ite_m2_m2, ite_T, ite_F, ite_nz, ite_zz, ite_m1_le, ite_m1_eq, oi_none, oi_some, ob_some, lw_def, ck_true, ckp_su, ite_lt_t, ite_lt_f, ite_le_t, ite_le_f, ite_eq_t, ite_eq_f, ck_inb, nI_add, sb_nI, mu_nI, nI_clamp, sO_at, sO_sO, Nat.add_sub_cancel, Nat.zero_add, Nat.add_zero, li_0, li_1, li_2, li_3, li_4, li_5, li_6, li_7, li_8, li_9, li_10, li_11, li_12, li_16, li_20, li_24, li_31, li_32, li_48, li_49, li_73, li_74, li_75, li_97, li_98, li_99, li_100, li_101, li_109, li_110, li_255, li_680, li_700, li_9999, li_65536, li_65537, e1, e2, hp2, e4, x_accept]
      | false =>
        intro e4
        rw [b2i_f] at e4 ⊢
        unfold fX9_fullThen
        simp (disch := omega) only [↓mo_1, ↓mo_2, ad_m1, ite_m1_lt, ite_m2_lt, ite_le_m1, ite_eq_m1, ite_eq_m2, ite_m1_m1, ite_m2_m2, ite_T, ite_F, ite_nz, ite_zz, ite_m1_le, ite_m1_eq, oi_none, oi_some, ob_some, lw_def, ck_true, ckp_su, ite_lt_t, ite_lt_f, ite_le_t, ite_le_f, ite_eq_t, ite_eq_f, ck_inb, nI_add, sb_nI, mu_nI, nI_clamp, sO_at, sO_sO, Nat.add_sub_cancel, Nat.zero_add, Nat.add_zero, li_0, li_1, li_2, li_3, li_4, li_5, li_6, li_7, li_8, li_9, li_10, li_11, li_12, li_16, li_20, li_24, li_31, li_32, li_48, li_49, li_73, li_74, li_75, li_97, li_98, li_99, li_100, li_101, li_109, li_110, li_255, li_680, li_700, li_9999, li_65536, li_65537, e1, e2, hp2, e4, x_accept]
    · subst ex ey
      obtain ⟨g2, e2, e3⟩ := m_cuts hD c1 hW c2 hb hk (hQ hdn).1 (hQ hdn).2
      have hWc := ct_wf2 hD hW hQ hdn hb hk
      refine ⟨mX w2 g2, SM.x, ?_⟩
      have e4 := e3.2.2.2.2.2.2.1
      unfold fX11_fullThen
      simp (disch := omega) only [↓mo_1, ↓mo_2, ad_m1, ite_m1_lt, ite_m2_lt, ite_le_m1, ite_eq_m1, ite_eq_m2, ite_m1_m1, ite_m2_m2, ite_T, ite_F, ite_nz, ite_zz, ite_m1_le, ite_m1_eq, oi_none, oi_some, ob_some, lw_def, ck_true, ckp_su, ite_lt_t, ite_lt_f, ite_le_t, ite_le_f, ite_eq_t, ite_eq_f, ck_inb, nI_add, sb_nI, mu_nI, nI_clamp, sO_at, sO_sO, Nat.add_sub_cancel, Nat.zero_add, Nat.add_zero, li_0, li_1, li_2, li_3, li_4, li_5, li_6, li_7, li_8, li_9, li_10, li_11, li_12, li_16, li_20, li_24, li_31, li_32, li_48, li_49, li_73, li_74, li_75, li_97, li_98, li_99, li_100, li_101, li_109, li_110, li_255, li_680, li_700, li_9999, li_65536, li_65537, ← e, e1, e2, mX_x, e4, m_good]
theorem q_recoversBy {x y : Int32} : Qy (fun w => fX9_recoversBy w x y) (fun nd w => fX11_recoversBy nd w x y) := by
  intro d hd
  cases d with
  | none =>
    refine ⟨m1, 1, by omega, by omega, fun w q hq hp hX => ⟨w, XS.rf, ?_⟩, fun nd w w1 e hM => ⟨w1, SM.rf, ?_⟩⟩
    · unfold fX9_recoversBy
      simp (disch := omega) only [↓mo_1, ↓mo_2, ad_m1, ite_m1_lt, ite_m2_lt, ite_le_m1, ite_eq_m1, ite_eq_m2, ite_m1_m1, ite_m2_m2, ite_T, ite_F, ite_nz, ite_zz, ite_m1_le, ite_m1_eq, oi_none, oi_some, ob_some, lw_def, ck_true, ckp_su, ite_lt_t, ite_lt_f, ite_le_t, ite_le_f, ite_eq_t, ite_eq_f, ck_inb, nI_add, sb_nI, mu_nI, nI_clamp, sO_at, sO_sO, Nat.add_sub_cancel, Nat.zero_add, Nat.add_zero, li_0, li_1, li_2, li_3, li_4, li_5, li_6, li_7, li_8, li_9, li_10, li_11, li_12, li_16, li_20, li_24, li_31, li_32, li_48, li_49, li_73, li_74, li_75, li_97, li_98, li_99, li_100, li_101, li_109, li_110, li_255, li_680, li_700, li_9999, li_65536, li_65537, x_why1 hq hp hX.1.1 (n_z x), x_refuse]
    · have e1 : fX11_refusesCut nd w1 x y = some (nI 1, w1) := by
        unfold fX11_refusesCut
        simp (disch := omega) only [↓mo_1, ↓mo_2, ad_m1, ite_m1_lt, ite_m2_lt, ite_le_m1, ite_eq_m1, ite_eq_m2, ite_m1_m1, ite_m2_m2, ite_T, ite_F, ite_nz, ite_zz, ite_m1_le, ite_m1_eq, oi_none, oi_some, ob_some, lw_def, ck_true, ckp_su, ite_lt_t, ite_lt_f, ite_le_t, ite_le_f, ite_eq_t, ite_eq_f, ck_inb, nI_add, sb_nI, mu_nI, nI_clamp, sO_at, sO_sO, Nat.add_sub_cancel, Nat.zero_add, Nat.add_zero, li_0, li_1, li_2, li_3, li_4, li_5, li_6, li_7, li_8, li_9, li_10, li_11, li_12, li_16, li_20, li_24, li_31, li_32, li_48, li_49, li_73, li_74, li_75, li_97, li_98, li_99, li_100, li_101, li_109, li_110, li_255, li_680, li_700, li_9999, li_65536, li_65537, m_iB0 (show (w1 11 0).2.2.1 3 = 0 from hM)]
      unfold fX11_recoversBy
      simp (disch := omega) only [↓mo_1, ↓mo_2, ad_m1, ite_m1_lt, ite_m2_lt, ite_le_m1, ite_eq_m1, ite_eq_m2, ite_m1_m1, ite_m2_m2, ite_T, ite_F, ite_nz, ite_zz, ite_m1_le, ite_m1_eq, oi_none, oi_some, ob_some, lw_def, ck_true, ckp_su, ite_lt_t, ite_lt_f, ite_le_t, ite_le_f, ite_eq_t, ite_eq_f, ck_inb, nI_add, sb_nI, mu_nI, nI_clamp, sO_at, sO_sO, Nat.add_sub_cancel, Nat.zero_add, Nat.add_zero, li_0, li_1, li_2, li_3, li_4, li_5, li_6, li_7, li_8, li_9, li_10, li_11, li_12, li_16, li_20, li_24, li_31, li_32, li_48, li_49, li_73, li_74, li_75, li_97, li_98, li_99, li_100, li_101, li_109, li_110, li_255, li_680, li_700, li_9999, li_65536, li_65537, ← e, e1, m_refused]
  | some z =>
    obtain ⟨D, T, s, h, im⟩ := z
    have hd' := hd
    obtain ⟨hD, h6, hT, hW, hQ, hH, hI⟩ := hd'
    have h48 := hD.2.2.2.1
    refine cutS (x := x) (y := y) hd (fun w q r hq hp hX e1 hr hr2 => ?_) (fun nd w w1 w2 r e hM e1 hr hr2 => ?_) (fun b k hb hk hdn ex ey => ⟨sct (rvS D (ctS D s b k)) - sct (ctS D s b k), fun w q hq hp hX e1 => ?_, fun nd w w1 w2 g e hM e1 c1 c2 c3 => ?_⟩)
    · unfold fX9_recoversBy
      simp (disch := omega) only [↓mo_1, ↓mo_2, ad_m1, ite_m1_lt, ite_m2_lt, ite_le_m1, ite_eq_m1, ite_eq_m2, ite_m1_m1, ite_m2_m2, ite_T, ite_F, ite_nz, ite_zz, ite_m1_le, ite_m1_eq, oi_none, oi_some, ob_some, lw_def, ck_true, ckp_su, ite_lt_t, ite_lt_f, ite_le_t, ite_le_f, ite_eq_t, ite_eq_f, ck_inb, nI_add, sb_nI, mu_nI, nI_clamp, sO_at, sO_sO, Nat.add_sub_cancel, Nat.zero_add, Nat.add_zero, li_0, li_1, li_2, li_3, li_4, li_5, li_6, li_7, li_8, li_9, li_10, li_11, li_12, li_16, li_20, li_24, li_31, li_32, li_48, li_49, li_73, li_74, li_75, li_97, li_98, li_99, li_100, li_101, li_109, li_110, li_255, li_680, li_700, li_9999, li_65536, li_65537, e1, x_refuse]
    · unfold fX11_recoversBy
      simp (disch := omega) only [↓mo_1, ↓mo_2, ad_m1, ite_m1_lt, ite_m2_lt, ite_le_m1, ite_eq_m1, ite_eq_m2, ite_m1_m1, ite_m2_m2, ite_T, ite_F, ite_nz, ite_zz, ite_m1_le, ite_m1_eq, oi_none, oi_some, ob_some, lw_def, ck_true, ckp_su, ite_lt_t, ite_lt_f, ite_le_t, ite_le_f, ite_eq_t, ite_eq_f, ck_inb, nI_add, sb_nI, mu_nI, nI_clamp, sO_at, sO_sO, Nat.add_sub_cancel, Nat.zero_add, Nat.add_zero, li_0, li_1, li_2, li_3, li_4, li_5, li_6, li_7, li_8, li_9, li_10, li_11, li_12, li_16, li_20, li_24, li_31, li_32, li_48, li_49, li_73, li_74, li_75, li_97, li_98, li_99, li_100, li_101, li_109, li_110, li_255, li_680, li_700, li_9999, li_65536, li_65537, ← e, e1, m_refused]
    · subst ex ey
      obtain ⟨o2, e2, e3⟩ := x_tryCut hD hW hQ hdn hq hp hX.1 hX.2.2.1 hb hk
      have hWc := ct_wf2 hD hW hQ hdn hb hk
      have hp2 : ∀ o, (sO w 7 1 o 9 0).2.2.1 2 = q + 1 := fun o => by rw [sO_nc (by decide)]; exact hp
      obtain ⟨o3, e4, e5⟩ := x_comeBack (w := w) (j := 1) hD hX.1 hWc e3
      refine ⟨sO w 7 1 o3, XS.t, ?_⟩
      unfold fX9_recoversBy
      simp (disch := omega) only [↓mo_1, ↓mo_2, ad_m1, ite_m1_lt, ite_m2_lt, ite_le_m1, ite_eq_m1, ite_eq_m2, ite_m1_m1, ite_m2_m2, ite_T, ite_F, ite_nz, ite_zz, ite_m1_le, ite_m1_eq, oi_none, oi_some, ob_some, lw_def, ck_true, ckp_su, ite_lt_t, ite_lt_f, ite_le_t, ite_le_f, ite_eq_t, ite_eq_f, ck_inb, nI_add, sb_nI, mu_nI, nI_clamp, sO_at, sO_sO, Nat.add_sub_cancel, Nat.zero_add, Nat.add_zero, li_0, li_1, li_2, li_3, li_4, li_5, li_6, li_7, li_8, li_9, li_10, li_11, li_12, li_16, li_20, li_24, li_31, li_32, li_48, li_49, li_73, li_74, li_75, li_97, li_98, li_99, li_100, li_101, li_109, li_110, li_255, li_680, li_700, li_9999, li_65536, li_65537, e1, e2, hp2, e4, e3.2.2.2.2.2.2.2.2.2, e5.2.2.2.2.2.2.2.2.2, x_accept]
    · subst ex ey
      obtain ⟨g2, e2, e3⟩ := m_cuts hD c1 hW c2 hb hk (hQ hdn).1 (hQ hdn).2
      have hWc := ct_wf2 hD hW hQ hdn hb hk
      obtain ⟨g3, e4, e5⟩ := m_recovers hD c1 hWc e3
      refine ⟨mX w2 g3, SM.x, ?_⟩
      unfold fX11_recoversBy
      simp (disch := omega) only [↓mo_1, ↓mo_2, ad_m1, ite_m1_lt, ite_m2_lt, ite_le_m1, ite_eq_m1, ite_eq_m2, ite_m1_m1, ite_m2_m2, ite_T, ite_F, ite_nz, ite_zz, ite_m1_le, ite_m1_eq, oi_none, oi_some, ob_some, lw_def, ck_true, ckp_su, ite_lt_t, ite_lt_f, ite_le_t, ite_le_f, ite_eq_t, ite_eq_f, ck_inb, nI_add, sb_nI, mu_nI, nI_clamp, sO_at, sO_sO, Nat.add_sub_cancel, Nat.zero_add, Nat.add_zero, li_0, li_1, li_2, li_3, li_4, li_5, li_6, li_7, li_8, li_9, li_10, li_11, li_12, li_16, li_20, li_24, li_31, li_32, li_48, li_49, li_73, li_74, li_75, li_97, li_98, li_99, li_100, li_101, li_109, li_110, li_255, li_680, li_700, li_9999, li_65536, li_65537, ← e, e1, e2, mX_x, e3.2.2.2.2.2.2.2.2.2, e4, e5.2.2.2.2.2.2.2.2.2, m_good]
theorem rt_1 {nd : Nat} {w : Wd} {x y z : Int32} : fX11_readThen_23 nd w x y z (nI 1) = some (m1, mT w (nI 1)) := by
  unfold fX11_readThen_23
  simp (disch := omega) only [↓mo_1, ↓mo_2, ad_m1, ite_m1_lt, ite_m2_lt, ite_le_m1, ite_eq_m1, ite_eq_m2, ite_m1_m1, ite_m2_m2, ite_T, ite_F, ite_nz, ite_zz, ite_m1_le, ite_m1_eq, oi_none, oi_some, ob_some, lw_def, ck_true, ckp_su, ite_lt_t, ite_lt_f, ite_le_t, ite_le_f, ite_eq_t, ite_eq_f, ck_inb, nI_add, sb_nI, mu_nI, nI_clamp, sO_at, sO_sO, Nat.add_sub_cancel, Nat.zero_add, Nat.add_zero, li_0, li_1, li_2, li_3, li_4, li_5, li_6, li_7, li_8, li_9, li_10, li_11, li_12, li_16, li_20, li_24, li_31, li_32, li_48, li_49, li_73, li_74, li_75, li_97, li_98, li_99, li_100, li_101, li_109, li_110, li_255, li_680, li_700, li_9999, li_65536, li_65537, m_refused]
theorem q_readThen {x y z : Int32} : Qy (fun w => fX9_readThen w x y z) (fun nd w => fX11_readThen nd w x y z) := by
  intro d hd
  cases d with
  | none =>
    refine ⟨m1, 1, by omega, by omega, fun w q hq hp hX => ⟨w, XS.rf, ?_⟩, fun nd w w1 e hM => ⟨w1, SM.rf, ?_⟩⟩
    · unfold fX9_readThen
      simp (disch := omega) only [↓mo_1, ↓mo_2, ad_m1, ite_m1_lt, ite_m2_lt, ite_le_m1, ite_eq_m1, ite_eq_m2, ite_m1_m1, ite_m2_m2, ite_T, ite_F, ite_nz, ite_zz, ite_m1_le, ite_m1_eq, oi_none, oi_some, ob_some, lw_def, ck_true, ckp_su, ite_lt_t, ite_lt_f, ite_le_t, ite_le_f, ite_eq_t, ite_eq_f, ck_inb, nI_add, sb_nI, mu_nI, nI_clamp, sO_at, sO_sO, Nat.add_sub_cancel, Nat.zero_add, Nat.add_zero, li_0, li_1, li_2, li_3, li_4, li_5, li_6, li_7, li_8, li_9, li_10, li_11, li_12, li_16, li_20, li_24, li_31, li_32, li_48, li_49, li_73, li_74, li_75, li_97, li_98, li_99, li_100, li_101, li_109, li_110, li_255, li_680, li_700, li_9999, li_65536, li_65537, x_hT0 hp hq hX.1.2.1 (n_z z), x_refuse]
    · unfold fX11_readThen
      simp (disch := omega) only [↓mo_1, ↓mo_2, ad_m1, ite_m1_lt, ite_m2_lt, ite_le_m1, ite_eq_m1, ite_eq_m2, ite_m1_m1, ite_m2_m2, ite_T, ite_F, ite_nz, ite_zz, ite_m1_le, ite_m1_eq, oi_none, oi_some, ob_some, lw_def, ck_true, ckp_su, ite_lt_t, ite_lt_f, ite_le_t, ite_le_f, ite_eq_t, ite_eq_f, ck_inb, nI_add, sb_nI, mu_nI, nI_clamp, sO_at, sO_sO, Nat.add_sub_cancel, Nat.zero_add, Nat.add_zero, li_0, li_1, li_2, li_3, li_4, li_5, li_6, li_7, li_8, li_9, li_10, li_11, li_12, li_16, li_20, li_24, li_31, li_32, li_48, li_49, li_73, li_74, li_75, li_97, li_98, li_99, li_100, li_101, li_109, li_110, li_255, li_680, li_700, li_9999, li_65536, li_65537, ← e, m_iT0 (show (w1 11 0).2.2.1 3 = 0 from hM), rt_1, m_refused]
  | some z =>
    obtain ⟨D, T, s, h, im⟩ := z
    have hd' := hd
    obtain ⟨hD, h6, hT, hW, hQ, hH, hI⟩ := hd'
    have h48 := hD.2.2.2.1
    rcases rng z (show dnt D < 2 ^ 31 by omega) with ⟨t, ht, rfl⟩ | hz
    · refine cutS (x := x) (y := y) hd (fun w q r hq hp hX e1 hr hr2 => ?_) (fun nd w w1 w2 r e hM e1 hr hr2 => ?_) (fun b k hb hk hdn ex ey => ⟨vaS (rvS D (ctS D s b k)) t, fun w q hq hp hX e1 => ?_, fun nd w w1 w2 g e hM e1 c1 c2 c3 => ?_⟩)
      · unfold fX9_readThen
        simp (disch := omega) only [↓mo_1, ↓mo_2, ad_m1, ite_m1_lt, ite_m2_lt, ite_le_m1, ite_eq_m1, ite_eq_m2, ite_m1_m1, ite_m2_m2, ite_T, ite_F, ite_nz, ite_zz, ite_m1_le, ite_m1_eq, oi_none, oi_some, ob_some, lw_def, ck_true, ckp_su, ite_lt_t, ite_lt_f, ite_le_t, ite_le_f, ite_eq_t, ite_eq_f, ck_inb, nI_add, sb_nI, mu_nI, nI_clamp, sO_at, sO_sO, Nat.add_sub_cancel, Nat.zero_add, Nat.add_zero, li_0, li_1, li_2, li_3, li_4, li_5, li_6, li_7, li_8, li_9, li_10, li_11, li_12, li_16, li_20, li_24, li_31, li_32, li_48, li_49, li_73, li_74, li_75, li_97, li_98, li_99, li_100, li_101, li_109, li_110, li_255, li_680, li_700, li_9999, li_65536, li_65537, x_hT1 hp hq hX.1.2.2.2.1, e1, x_refuse]
      · have hM2 := hM
        obtain ⟨d, b1, b2, b3, b4, b5, b6⟩ := hM2
        unfold fX11_readThen
        simp (disch := omega) only [↓mo_1, ↓mo_2, ad_m1, ite_m1_lt, ite_m2_lt, ite_le_m1, ite_eq_m1, ite_eq_m2, ite_m1_m1, ite_m2_m2, ite_T, ite_F, ite_nz, ite_zz, ite_m1_le, ite_m1_eq, oi_none, oi_some, ob_some, lw_def, ck_true, ckp_su, ite_lt_t, ite_lt_f, ite_le_t, ite_le_f, ite_eq_t, ite_eq_f, ck_inb, nI_add, sb_nI, mu_nI, nI_clamp, sO_at, sO_sO, Nat.add_sub_cancel, Nat.zero_add, Nat.add_zero, li_0, li_1, li_2, li_3, li_4, li_5, li_6, li_7, li_8, li_9, li_10, li_11, li_12, li_16, li_20, li_24, li_31, li_32, li_48, li_49, li_73, li_74, li_75, li_97, li_98, li_99, li_100, li_101, li_109, li_110, li_255, li_680, li_700, li_9999, li_65536, li_65537, ← e, m_iT1 b1 b2 b4.1, e1]
        unfold fX11_readThen_23
        simp (disch := omega) only [↓mo_1, ↓mo_2, ad_m1, ite_m1_lt, ite_m2_lt, ite_le_m1, ite_eq_m1, ite_eq_m2, ite_m1_m1, ite_m2_m2, ite_T, ite_F, ite_nz, ite_zz, ite_m1_le, ite_m1_eq, oi_none, oi_some, ob_some, lw_def, ck_true, ckp_su, ite_lt_t, ite_lt_f, ite_le_t, ite_le_f, ite_eq_t, ite_eq_f, ck_inb, nI_add, sb_nI, mu_nI, nI_clamp, sO_at, sO_sO, Nat.add_sub_cancel, Nat.zero_add, Nat.add_zero, li_0, li_1, li_2, li_3, li_4, li_5, li_6, li_7, li_8, li_9, li_10, li_11, li_12, li_16, li_20, li_24, li_31, li_32, li_48, li_49, li_73, li_74, li_75, li_97, li_98, li_99, li_100, li_101, li_109, li_110, li_255, li_680, li_700, li_9999, li_65536, li_65537, m_refused]
      · subst ex ey
        obtain ⟨o2, e2, e3⟩ := x_tryCut hD hW hQ hdn hq hp hX.1 hX.2.2.1 hb hk
        have hWc := ct_wf2 hD hW hQ hdn hb hk
        have hp2 : ∀ o, (sO w 7 1 o 9 0).2.2.1 2 = q + 1 := fun o => by rw [sO_nc (by decide)]; exact hp
        obtain ⟨o3, e4, e5⟩ := x_comeBack (w := w) (j := 1) hD hX.1 hWc e3
        refine ⟨sO w 7 1 o3, XS.t, ?_⟩
        unfold fX9_readThen
        simp (disch := omega) only [↓mo_1, ↓mo_2, ad_m1, ite_m1_lt, ite_m2_lt, ite_le_m1, ite_eq_m1, ite_eq_m2, ite_m1_m1, ite_m2_m2, ite_T, ite_F, ite_nz, ite_zz, ite_m1_le, ite_m1_eq, oi_none, oi_some, ob_some, lw_def, ck_true, ckp_su, ite_lt_t, ite_lt_f, ite_le_t, ite_le_f, ite_eq_t, ite_eq_f, ck_inb, nI_add, sb_nI, mu_nI, nI_clamp, sO_at, sO_sO, Nat.add_sub_cancel, Nat.zero_add, Nat.add_zero, li_0, li_1, li_2, li_3, li_4, li_5, li_6, li_7, li_8, li_9, li_10, li_11, li_12, li_16, li_20, li_24, li_31, li_32, li_48, li_49, li_73, li_74, li_75, li_97, li_98, li_99, li_100, li_101, li_109, li_110, li_255, li_680, li_700, li_9999, li_65536, li_65537, x_hT1 hp hq hX.1.2.2.2.1, e1, e2, hp2, e4, x_valueOf hD (rv_wf hWc).1 e5, x_accept]
      · subst ex ey
        obtain ⟨g2, e2, e3⟩ := m_cuts hD c1 hW c2 hb hk (hQ hdn).1 (hQ hdn).2
        have hWc := ct_wf2 hD hW hQ hdn hb hk
        obtain ⟨g3, e4, e5⟩ := m_recovers hD c1 hWc e3
        refine ⟨mX w2 g3, SM.x, ?_⟩
        have hM2 := hM
        obtain ⟨d, b1, b2, b3, b4, b5, b6⟩ := hM2
        unfold fX11_readThen
        simp (disch := omega) only [↓mo_1, ↓mo_2, ad_m1, ite_m1_lt, ite_m2_lt, ite_le_m1, ite_eq_m1, ite_eq_m2, ite_m1_m1, ite_m2_m2, ite_T, ite_F, ite_nz, ite_zz, ite_m1_le, ite_m1_eq, oi_none, oi_some, ob_some, lw_def, ck_true, ckp_su, ite_lt_t, ite_lt_f, ite_le_t, ite_le_f, ite_eq_t, ite_eq_f, ck_inb, nI_add, sb_nI, mu_nI, nI_clamp, sO_at, sO_sO, Nat.add_sub_cancel, Nat.zero_add, Nat.add_zero, li_0, li_1, li_2, li_3, li_4, li_5, li_6, li_7, li_8, li_9, li_10, li_11, li_12, li_16, li_20, li_24, li_31, li_32, li_48, li_49, li_73, li_74, li_75, li_97, li_98, li_99, li_100, li_101, li_109, li_110, li_255, li_680, li_700, li_9999, li_65536, li_65537, ← e, m_iT1 b1 b2 b4.1, e1]
        unfold fX11_readThen_23
        simp (disch := omega) only [↓mo_1, ↓mo_2, ad_m1, ite_m1_lt, ite_m2_lt, ite_le_m1, ite_eq_m1, ite_eq_m2, ite_m1_m1, ite_m2_m2, ite_T, ite_F, ite_nz, ite_zz, ite_m1_le, ite_m1_eq, oi_none, oi_some, ob_some, lw_def, ck_true, ckp_su, ite_lt_t, ite_lt_f, ite_le_t, ite_le_f, ite_eq_t, ite_eq_f, ck_inb, nI_add, sb_nI, mu_nI, nI_clamp, sO_at, sO_sO, Nat.add_sub_cancel, Nat.zero_add, Nat.add_zero, li_0, li_1, li_2, li_3, li_4, li_5, li_6, li_7, li_8, li_9, li_10, li_11, li_12, li_16, li_20, li_24, li_31, li_32, li_48, li_49, li_73, li_74, li_75, li_97, li_98, li_99, li_100, li_101, li_109, li_110, li_255, li_680, li_700, li_9999, li_65536, li_65537, e2, e4, m_readOf hD (rv_wf hWc).1 e5, m_good]
    · refine ⟨m1, 1, by omega, by omega, fun w q hq hp hX => ⟨w, XS.rf, ?_⟩, fun nd w w1 e ⟨d, b1, b2, b3, b4, b5, b6⟩ => ⟨w1, SM.rf, ?_⟩⟩
      · unfold fX9_readThen
        simp (disch := omega) only [↓mo_1, ↓mo_2, ad_m1, ite_m1_lt, ite_m2_lt, ite_le_m1, ite_eq_m1, ite_eq_m2, ite_m1_m1, ite_m2_m2, ite_T, ite_F, ite_nz, ite_zz, ite_m1_le, ite_m1_eq, oi_none, oi_some, ob_some, lw_def, ck_true, ckp_su, ite_lt_t, ite_lt_f, ite_le_t, ite_le_f, ite_eq_t, ite_eq_f, ck_inb, nI_add, sb_nI, mu_nI, nI_clamp, sO_at, sO_sO, Nat.add_sub_cancel, Nat.zero_add, Nat.add_zero, li_0, li_1, li_2, li_3, li_4, li_5, li_6, li_7, li_8, li_9, li_10, li_11, li_12, li_16, li_20, li_24, li_31, li_32, li_48, li_49, li_73, li_74, li_75, li_97, li_98, li_99, li_100, li_101, li_109, li_110, li_255, li_680, li_700, li_9999, li_65536, li_65537, x_hT0 hp hq hX.1.2.2.2.1 hz, x_refuse]
      · unfold fX11_readThen
        simp (disch := omega) only [↓mo_1, ↓mo_2, ad_m1, ite_m1_lt, ite_m2_lt, ite_le_m1, ite_eq_m1, ite_eq_m2, ite_m1_m1, ite_m2_m2, ite_T, ite_F, ite_nz, ite_zz, ite_m1_le, ite_m1_eq, oi_none, oi_some, ob_some, lw_def, ck_true, ckp_su, ite_lt_t, ite_lt_f, ite_le_t, ite_le_f, ite_eq_t, ite_eq_f, ck_inb, nI_add, sb_nI, mu_nI, nI_clamp, sO_at, sO_sO, Nat.add_sub_cancel, Nat.zero_add, Nat.add_zero, li_0, li_1, li_2, li_3, li_4, li_5, li_6, li_7, li_8, li_9, li_10, li_11, li_12, li_16, li_20, li_24, li_31, li_32, li_48, li_49, li_73, li_74, li_75, li_97, li_98, li_99, li_100, li_101, li_109, li_110, li_255, li_680, li_700, li_9999, li_65536, li_65537, ← e, m_iT b1 b2 b4.1 hz, rt_1]
end CUQ
