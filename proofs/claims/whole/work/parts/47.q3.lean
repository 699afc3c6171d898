/-! ===== the questions of extents ===== -/
theorem dnt_pos {D : Dk} (hD : WFD D) : 1 ≤ dnt D := by
  have h1 := dfst_le (D := D) (b := 0) hD.1
  have h2 := (hD.2.2.1 0 hD.1).1
  omega
theorem q_extents : Qy (fun w => fX9_extents w) (fun nd w => fX11_extents nd w) := by
  intro d hd
  cases d with
  | none =>
    refine ⟨m1, 1, by omega, by omega, fun w q hq hp hX => ⟨w, XS.rf, ?_⟩, fun nd w w1 e hM => ⟨w1, SM.rf, ?_⟩⟩
    · unfold fX9_extents
      simp (disch := omega) only [↓mo_1, ↓mo_2, ad_m1, ite_m1_lt, ite_m2_lt, ite_le_m1, ite_eq_m1, ite_eq_m2, ite_m1_m1, ite_m2_m2, ite_T, ite_F, ite_nz, ite_zz, ite_m1_le, ite_m1_eq, oi_none, oi_some, ob_some, lw_def, ck_true, ckp_su, ite_lt_t, ite_lt_f, ite_le_t, ite_le_f, ite_eq_t, ite_eq_f, ck_inb, nI_add, sb_nI, mu_nI, nI_clamp, sO_at, sO_sO, Nat.add_sub_cancel, Nat.zero_add, Nat.add_zero, li_0, li_1, li_2, li_3, li_4, li_5, li_6, li_7, li_8, li_9, li_10, li_11, li_12, li_16, li_20, li_24, li_31, li_32, li_48, li_49, li_73, li_74, li_75, li_97, li_98, li_99, li_100, li_101, li_109, li_110, li_255, li_680, li_700, li_9999, li_65536, li_65537, x_hD0 hp hq hX.1.1, x_refuse]
    · unfold fX11_extents
      simp (disch := omega) only [↓mo_1, ↓mo_2, ad_m1, ite_m1_lt, ite_m2_lt, ite_le_m1, ite_eq_m1, ite_eq_m2, ite_m1_m1, ite_m2_m2, ite_T, ite_F, ite_nz, ite_zz, ite_m1_le, ite_m1_eq, oi_none, oi_some, ob_some, lw_def, ck_true, ckp_su, ite_lt_t, ite_lt_f, ite_le_t, ite_le_f, ite_eq_t, ite_eq_f, ck_inb, nI_add, sb_nI, mu_nI, nI_clamp, sO_at, sO_sO, Nat.add_sub_cancel, Nat.zero_add, Nat.add_zero, li_0, li_1, li_2, li_3, li_4, li_5, li_6, li_7, li_8, li_9, li_10, li_11, li_12, li_16, li_20, li_24, li_31, li_32, li_48, li_49, li_73, li_74, li_75, li_97, li_98, li_99, li_100, li_101, li_109, li_110, li_255, li_680, li_700, li_9999, li_65536, li_65537, ← e, show (w1 11 0).2.2.1 3 = 0 from hM, m_refused]
  | some z =>
    obtain ⟨D, T, s, h, im⟩ := z
    obtain ⟨hD, h6, hT, hW, hQ, hH, hI⟩ := hd
    have h48 := hD.2.2.2.1
    have hb1 := hD.1
    have hdn1 := dnt_pos hD
    refine ⟨nI (exL s (dnt D)).1, 0, by omega, by omega, fun w q hq hp hX => ⟨w, XS.rf, ?_⟩, fun nd w w1 e ⟨d, b1, b2, b3, b4, b5, b6⟩ => ?_⟩
    · have e0 : dnt D - 1 + 1 = dnt D := by omega
      have e1 := x_extentsBegunBy (w := w) (j := 0) (l := dnt D - 1) hD hW hX.2.2.1 (by omega)
      rw [sO_id, e0, ← exL_1] at e1
      unfold fX9_extents
      simp (disch := omega) only [↓mo_1, ↓mo_2, ad_m1, ite_m1_lt, ite_m2_lt, ite_le_m1, ite_eq_m1, ite_eq_m2, ite_m1_m1, ite_m2_m2, ite_T, ite_F, ite_nz, ite_zz, ite_m1_le, ite_m1_eq, oi_none, oi_some, ob_some, lw_def, ck_true, ckp_su, ite_lt_t, ite_lt_f, ite_le_t, ite_le_f, ite_eq_t, ite_eq_f, ck_inb, nI_add, sb_nI, mu_nI, nI_clamp, sO_at, sO_sO, Nat.add_sub_cancel, Nat.zero_add, Nat.add_zero, li_0, li_1, li_2, li_3, li_4, li_5, li_6, li_7, li_8, li_9, li_10, li_11, li_12, li_16, li_20, li_24, li_31, li_32, li_48, li_49, li_73, li_74, li_75, li_97, li_98, li_99, li_100, li_101, li_109, li_110, li_255, li_680, li_700, li_9999, li_65536, li_65537, x_hD1 hp hq hX.1.2.2.1 hD.1 (by omega), hp, hX.1.2.2.2.1, e1, x_accept]
    · obtain ⟨w2, g, c1, c3, c4, c5⟩ := m_extentsNow hD b2 b1 b3 b4.1 hW b5
      refine ⟨mX w2 g, c4.tr SM.x, ?_⟩
      unfold fX11_extents
      simp (disch := omega) only [↓mo_1, ↓mo_2, ad_m1, ite_m1_lt, ite_m2_lt, ite_le_m1, ite_eq_m1, ite_eq_m2, ite_m1_m1, ite_m2_m2, ite_T, ite_F, ite_nz, ite_zz, ite_m1_le, ite_m1_eq, oi_none, oi_some, ob_some, lw_def, ck_true, ckp_su, ite_lt_t, ite_lt_f, ite_le_t, ite_le_f, ite_eq_t, ite_eq_f, ck_inb, nI_add, sb_nI, mu_nI, nI_clamp, sO_at, sO_sO, Nat.add_sub_cancel, Nat.zero_add, Nat.add_zero, li_0, li_1, li_2, li_3, li_4, li_5, li_6, li_7, li_8, li_9, li_10, li_11, li_12, li_16, li_20, li_24, li_31, li_32, li_48, li_49, li_73, li_74, li_75, li_97, li_98, li_99, li_100, li_101, li_109, li_110, li_255, li_680, li_700, li_9999, li_65536, li_65537, ← e, b1, c1, mX_i, c5.1, m_good]
theorem q_extentFrom {x : Int32} : Qy (fun w => fX9_extentFrom w x) (fun nd w => fX11_extentFrom nd w x) := by
  intro d hd
  cases d with
  | none =>
    refine ⟨m1, 1, by omega, by omega, fun w q hq hp hX => ⟨w, XS.rf, ?_⟩, fun nd w w1 e hM => ⟨w1, SM.rf, ?_⟩⟩
    · unfold fX9_extentFrom
      simp (disch := omega) only [↓mo_1, ↓mo_2, ad_m1, ite_m1_lt, ite_m2_lt, ite_le_m1, ite_eq_m1, ite_eq_m2, ite_m1_m1, ite_m2_m2, ite_T, ite_F, ite_nz, ite_zz, ite_m1_le, ite_m1_eq, oi_none, oi_some, ob_some, lw_def, ck_true, ckp_su, ite_lt_t, ite_lt_f, ite_le_t, ite_le_f, ite_eq_t, ite_eq_f, ck_inb, nI_add, sb_nI, mu_nI, nI_clamp, sO_at, sO_sO, Nat.add_sub_cancel, Nat.zero_add, Nat.add_zero, li_0, li_1, li_2, li_3, li_4, li_5, li_6, li_7, li_8, li_9, li_10, li_11, li_12, li_16, li_20, li_24, li_31, li_32, li_48, li_49, li_73, li_74, li_75, li_97, li_98, li_99, li_100, li_101, li_109, li_110, li_255, li_680, li_700, li_9999, li_65536, li_65537, x_hT0 hp hq hX.1.2.1 (n_z x), x_refuse]
    · unfold fX11_extentFrom
      simp (disch := omega) only [↓mo_1, ↓mo_2, ad_m1, ite_m1_lt, ite_m2_lt, ite_le_m1, ite_eq_m1, ite_eq_m2, ite_m1_m1, ite_m2_m2, ite_T, ite_F, ite_nz, ite_zz, ite_m1_le, ite_m1_eq, oi_none, oi_some, ob_some, lw_def, ck_true, ckp_su, ite_lt_t, ite_lt_f, ite_le_t, ite_le_f, ite_eq_t, ite_eq_f, ck_inb, nI_add, sb_nI, mu_nI, nI_clamp, sO_at, sO_sO, Nat.add_sub_cancel, Nat.zero_add, Nat.add_zero, li_0, li_1, li_2, li_3, li_4, li_5, li_6, li_7, li_8, li_9, li_10, li_11, li_12, li_16, li_20, li_24, li_31, li_32, li_48, li_49, li_73, li_74, li_75, li_97, li_98, li_99, li_100, li_101, li_109, li_110, li_255, li_680, li_700, li_9999, li_65536, li_65537, ← e, m_iT0 hM, m_refused]
  | some z =>
    obtain ⟨D, T, s, h, im⟩ := z
    obtain ⟨hD, h6, hT, hW, hQ, hH, hI⟩ := hd
    have h48 := hD.2.2.2.1
    have hb1 := hD.1
    rcases rng x (show dnt D < 2 ^ 31 by omega) with ⟨t, ht, rfl⟩ | hx
    · have hdn1 := dnt_pos hD
      have e0 : dnt D - 1 + 1 = dnt D := by omega
      have hc : (exL s (dnt D)).1 ≤ dnt D := by rw [exL_1]; exact ctp_le _ _
      have hk := ctp_le (bgE s) (t + 1)
      cases hl : lpS s t with
      | some a =>
        have ha := (lpS_lt hl).1
        have h24 := hW.n24 hD
        obtain ⟨k1, k2, k3, k4⟩ := ex_lv ht (show (lpS s t).isSome = true by rw [hl]; rfl)
        refine ⟨nI (ctp (bgE s) (t + 1) - 1), 0, by omega, by omega, fun w q hq hp hX => ⟨w, XS.rf, ?_⟩, fun nd w w1 e ⟨d, b1, b2, b3, b4, b5, b6⟩ => ?_⟩
        · have e1 := x_extentsBegunBy (w := w) (j := 0) (l := t) hD hW hX.2.2.1 (by omega)
          have e2 := x_livePlaceOf (w := w) (j := 0) hD hW hX.2.2.1 (t := t) (by omega)
          rw [sO_id] at e1 e2
          rw [hl] at e2
          unfold fX9_extentFrom
          simp (disch := omega) only [↓mo_1, ↓mo_2, ad_m1, ite_m1_lt, ite_m2_lt, ite_le_m1, ite_eq_m1, ite_eq_m2, ite_m1_m1, ite_m2_m2, ite_T, ite_F, ite_nz, ite_zz, ite_m1_le, ite_m1_eq, oi_none, oi_some, ob_some, lw_def, ck_true, ckp_su, ite_lt_t, ite_lt_f, ite_le_t, ite_le_f, ite_eq_t, ite_eq_f, ck_inb, nI_add, sb_nI, mu_nI, nI_clamp, sO_at, sO_sO, Nat.add_sub_cancel, Nat.zero_add, Nat.add_zero, li_0, li_1, li_2, li_3, li_4, li_5, li_6, li_7, li_8, li_9, li_10, li_11, li_12, li_16, li_20, li_24, li_31, li_32, li_48, li_49, li_73, li_74, li_75, li_97, li_98, li_99, li_100, li_101, li_109, li_110, li_255, li_680, li_700, li_9999, li_65536, li_65537, x_hT1 hp hq hX.1.2.2.2.1, e1, e2, x_accept]
        · obtain ⟨w2, g, c1, c3, c4, c5⟩ := m_extentsNow hD b2 b1 b3 b4.1 hW b5
          refine ⟨mX w2 g, c4.tr SM.x, ?_⟩
          have e3 := m_ef (nd := nd) (f := g) h48 ht c5 (Nat.le_of_lt k2) k3 (fun _ => k4) _ 0 (Nat.zero_add _) fuel0 (by unfold fuel0; omega)
          rw [if_pos k2] at e3
          unfold fX11_extentFrom
          simp (disch := omega) only [↓mo_1, ↓mo_2, ad_m1, ite_m1_lt, ite_m2_lt, ite_le_m1, ite_eq_m1, ite_eq_m2, ite_m1_m1, ite_m2_m2, ite_T, ite_F, ite_nz, ite_zz, ite_m1_le, ite_m1_eq, oi_none, oi_some, ob_some, lw_def, ck_true, ckp_su, ite_lt_t, ite_lt_f, ite_le_t, ite_le_f, ite_eq_t, ite_eq_f, ck_inb, nI_add, sb_nI, mu_nI, nI_clamp, sO_at, sO_sO, Nat.add_sub_cancel, Nat.zero_add, Nat.add_zero, li_0, li_1, li_2, li_3, li_4, li_5, li_6, li_7, li_8, li_9, li_10, li_11, li_12, li_16, li_20, li_24, li_31, li_32, li_48, li_49, li_73, li_74, li_75, li_97, li_98, li_99, li_100, li_101, li_109, li_110, li_255, li_680, li_700, li_9999, li_65536, li_65537, ← e, m_iT1 b1 b2 b4.1, c1, e3]
      | none =>
        obtain ⟨k1, k2, k3⟩ := ex_nl ht (show ¬ (lpS s t).isSome = true by rw [hl]; simp)
        refine ⟨if ctp (bgE s) (t + 1) < (exL s (dnt D)).1 then nI (ctp (bgE s) (t + 1)) else m2, 0, by omega, by omega, fun w q hq hp hX => ⟨w, XS.rf, ?_⟩, fun nd w w1 e ⟨d, b1, b2, b3, b4, b5, b6⟩ => ?_⟩
        · have e1 := x_extentsBegunBy (w := w) (j := 0) (l := t) hD hW hX.2.2.1 (by omega)
          have e2 := x_livePlaceOf (w := w) (j := 0) hD hW hX.2.2.1 (t := t) (by omega)
          have e3 := x_extentsBegunBy (w := w) (j := 0) (l := dnt D - 1) hD hW hX.2.2.1 (by omega)
          rw [sO_id] at e1 e2 e3
          rw [hl] at e2
          rw [e0, ← exL_1] at e3
          unfold fX9_extentFrom
          by_cases c : ctp (bgE s) (t + 1) < (exL s (dnt D)).1
          · rw [if_pos c]
            simp (disch := omega) only [↓mo_1, ↓mo_2, ad_m1, ite_m1_lt, ite_m2_lt, ite_le_m1, ite_eq_m1, ite_eq_m2, ite_m1_m1, ite_m2_m2, ite_T, ite_F, ite_nz, ite_zz, ite_m1_le, ite_m1_eq, oi_none, oi_some, ob_some, lw_def, ck_true, ckp_su, ite_lt_t, ite_lt_f, ite_le_t, ite_le_f, ite_eq_t, ite_eq_f, ck_inb, nI_add, sb_nI, mu_nI, nI_clamp, sO_at, sO_sO, Nat.add_sub_cancel, Nat.zero_add, Nat.add_zero, li_0, li_1, li_2, li_3, li_4, li_5, li_6, li_7, li_8, li_9, li_10, li_11, li_12, li_16, li_20, li_24, li_31, li_32, li_48, li_49, li_73, li_74, li_75, li_97, li_98, li_99, li_100, li_101, li_109, li_110, li_255, li_680, li_700, li_9999, li_65536, li_65537, x_hT1 hp hq hX.1.2.2.2.1, e1, e2, hp, hX.1.2.2.2.1, e3, x_accept]
          · rw [if_neg c]
            simp (disch := omega) only [↓mo_1, ↓mo_2, ad_m1, ite_m1_lt, ite_m2_lt, ite_le_m1, ite_eq_m1, ite_eq_m2, ite_m1_m1, ite_m2_m2, ite_T, ite_F, ite_nz, ite_zz, ite_m1_le, ite_m1_eq, oi_none, oi_some, ob_some, lw_def, ck_true, ckp_su, ite_lt_t, ite_lt_f, ite_le_t, ite_le_f, ite_eq_t, ite_eq_f, ck_inb, nI_add, sb_nI, mu_nI, nI_clamp, sO_at, sO_sO, Nat.add_sub_cancel, Nat.zero_add, Nat.add_zero, li_0, li_1, li_2, li_3, li_4, li_5, li_6, li_7, li_8, li_9, li_10, li_11, li_12, li_16, li_20, li_24, li_31, li_32, li_48, li_49, li_73, li_74, li_75, li_97, li_98, li_99, li_100, li_101, li_109, li_110, li_255, li_680, li_700, li_9999, li_65536, li_65537, x_hT1 hp hq hX.1.2.2.2.1, e1, e2, hp, hX.1.2.2.2.1, e3, x_accept]
        · obtain ⟨w2, g, c1, c3, c4, c5⟩ := m_extentsNow hD b2 b1 b3 b4.1 hW b5
          refine ⟨mX w2 g, c4.tr SM.x, ?_⟩
          have e3 := m_ef (nd := nd) (f := g) h48 ht c5 k1 k2 k3 _ 0 (Nat.zero_add _) fuel0 (by unfold fuel0; omega)
          unfold fX11_extentFrom
          simp (disch := omega) only [↓mo_1, ↓mo_2, ad_m1, ite_m1_lt, ite_m2_lt, ite_le_m1, ite_eq_m1, ite_eq_m2, ite_m1_m1, ite_m2_m2, ite_T, ite_F, ite_nz, ite_zz, ite_m1_le, ite_m1_eq, oi_none, oi_some, ob_some, lw_def, ck_true, ckp_su, ite_lt_t, ite_lt_f, ite_le_t, ite_le_f, ite_eq_t, ite_eq_f, ck_inb, nI_add, sb_nI, mu_nI, nI_clamp, sO_at, sO_sO, Nat.add_sub_cancel, Nat.zero_add, Nat.add_zero, li_0, li_1, li_2, li_3, li_4, li_5, li_6, li_7, li_8, li_9, li_10, li_11, li_12, li_16, li_20, li_24, li_31, li_32, li_48, li_49, li_73, li_74, li_75, li_97, li_98, li_99, li_100, li_101, li_109, li_110, li_255, li_680, li_700, li_9999, li_65536, li_65537, ← e, m_iT1 b1 b2 b4.1, c1, e3]
    · refine ⟨m1, 1, by omega, by omega, fun w q hq hp hX => ⟨w, XS.rf, ?_⟩, fun nd w w1 e ⟨d, b1, b2, b3, b4, b5, b6⟩ => ⟨w1, SM.rf, ?_⟩⟩
      · unfold fX9_extentFrom
        simp (disch := omega) only [↓mo_1, ↓mo_2, ad_m1, ite_m1_lt, ite_m2_lt, ite_le_m1, ite_eq_m1, ite_eq_m2, ite_m1_m1, ite_m2_m2, ite_T, ite_F, ite_nz, ite_zz, ite_m1_le, ite_m1_eq, oi_none, oi_some, ob_some, lw_def, ck_true, ckp_su, ite_lt_t, ite_lt_f, ite_le_t, ite_le_f, ite_eq_t, ite_eq_f, ck_inb, nI_add, sb_nI, mu_nI, nI_clamp, sO_at, sO_sO, Nat.add_sub_cancel, Nat.zero_add, Nat.add_zero, li_0, li_1, li_2, li_3, li_4, li_5, li_6, li_7, li_8, li_9, li_10, li_11, li_12, li_16, li_20, li_24, li_31, li_32, li_48, li_49, li_73, li_74, li_75, li_97, li_98, li_99, li_100, li_101, li_109, li_110, li_255, li_680, li_700, li_9999, li_65536, li_65537, x_hT0 hp hq hX.1.2.2.2.1 hx, x_refuse]
      · unfold fX11_extentFrom
        simp (disch := omega) only [↓mo_1, ↓mo_2, ad_m1, ite_m1_lt, ite_m2_lt, ite_le_m1, ite_eq_m1, ite_eq_m2, ite_m1_m1, ite_m2_m2, ite_T, ite_F, ite_nz, ite_zz, ite_m1_le, ite_m1_eq, oi_none, oi_some, ob_some, lw_def, ck_true, ckp_su, ite_lt_t, ite_lt_f, ite_le_t, ite_le_f, ite_eq_t, ite_eq_f, ck_inb, nI_add, sb_nI, mu_nI, nI_clamp, sO_at, sO_sO, Nat.add_sub_cancel, Nat.zero_add, Nat.add_zero, li_0, li_1, li_2, li_3, li_4, li_5, li_6, li_7, li_8, li_9, li_10, li_11, li_12, li_16, li_20, li_24, li_31, li_32, li_48, li_49, li_73, li_74, li_75, li_97, li_98, li_99, li_100, li_101, li_109, li_110, li_255, li_680, li_700, li_9999, li_65536, li_65537, ← e, m_iT b1 b2 b4.1 hx, m_refused]
theorem m_ge0 {α : Type} {x y : α} {z : Int32} {n : Nat} (h : ¬ z < nI 0 ∧ nI n ≤ z) {inst : Decidable (z < nI 0)} : @ite _ (z < nI 0) inst x y = y := if_neg h.1
theorem q_extent {x y : Int32} : Qy (fun w => fX9_extent w x y) (fun nd w => fX11_extent nd w x y) := by
  intro d hd
  cases d with
  | none =>
    refine ⟨m1, 1, by omega, by omega, fun w q hq hp hX => ⟨w, XS.rf, ?_⟩, fun nd w w1 e hM => ⟨w1, SM.rf, ?_⟩⟩
    · have e1 : fX7_firstOfExtent 0 w x (nI 0) = some (m2, w) := rfl
      unfold fX9_extent
      simp (disch := omega) only [↓mo_1, ↓mo_2, ad_m1, ite_m1_lt, ite_m2_lt, ite_le_m1, ite_eq_m1, ite_eq_m2, ite_m1_m1, ite_m2_m2, ite_T, ite_F, ite_nz, ite_zz, ite_m1_le, ite_m1_eq, oi_none, oi_some, ob_some, lw_def, ck_true, ckp_su, ite_lt_t, ite_lt_f, ite_le_t, ite_le_f, ite_eq_t, ite_eq_f, ck_inb, nI_add, sb_nI, mu_nI, nI_clamp, sO_at, sO_sO, Nat.add_sub_cancel, Nat.zero_add, Nat.add_zero, li_0, li_1, li_2, li_3, li_4, li_5, li_6, li_7, li_8, li_9, li_10, li_11, li_12, li_16, li_20, li_24, li_31, li_32, li_48, li_49, li_73, li_74, li_75, li_97, li_98, li_99, li_100, li_101, li_109, li_110, li_255, li_680, li_700, li_9999, li_65536, li_65537, hp, hX.1.2.1, e1, x_refuse]
    · unfold fX11_extent
      simp (disch := omega) only [↓mo_1, ↓mo_2, ad_m1, ite_m1_lt, ite_m2_lt, ite_le_m1, ite_eq_m1, ite_eq_m2, ite_m1_m1, ite_m2_m2, ite_T, ite_F, ite_nz, ite_zz, ite_m1_le, ite_m1_eq, oi_none, oi_some, ob_some, lw_def, ck_true, ckp_su, ite_lt_t, ite_lt_f, ite_le_t, ite_le_f, ite_eq_t, ite_eq_f, ck_inb, nI_add, sb_nI, mu_nI, nI_clamp, sO_at, sO_sO, Nat.add_sub_cancel, Nat.zero_add, Nat.add_zero, li_0, li_1, li_2, li_3, li_4, li_5, li_6, li_7, li_8, li_9, li_10, li_11, li_12, li_16, li_20, li_24, li_31, li_32, li_48, li_49, li_73, li_74, li_75, li_97, li_98, li_99, li_100, li_101, li_109, li_110, li_255, li_680, li_700, li_9999, li_65536, li_65537, ← e, show (w1 11 0).2.2.1 3 = 0 from hM, m_refused]
  | some z =>
    obtain ⟨D, T, s, h, im⟩ := z
    obtain ⟨hD, h6, hT, hW, hQ, hH, hI⟩ := hd
    have h48 := hD.2.2.2.1
    have h24 := hW.n24 hD
    have hc : (exL s (dnt D)).1 ≤ dnt D := by rw [exL_1]; exact ctp_le _ _
    rcases rng x (show (exL s (dnt D)).1 < 2 ^ 31 by omega) with ⟨i, hi, rfl⟩ | hx
    · obtain ⟨b1', b2', b3', b4', b5', -⟩ := (exI (s := s) (dnt D)).1 i hi
      rcases rng y (show 3 < 2 ^ 31 by omega) with ⟨k, hk, rfl⟩ | hy
      · rcases (show k = 0 ∨ k = 1 ∨ k = 2 by omega) with rfl | rfl | rfl
        · refine ⟨nI ((exL s (dnt D)).2.1 i), 0, by omega, by omega, fun w q hq hp hX => ⟨w, XS.rf, ?_⟩, fun nd w w1 e ⟨d, b1, b2, b3, b4, b5, b6⟩ => ?_⟩
          · have e1 := x_fe (w := w) (j := 0) hD hW hX.2.2.1 h48 hi ((exL s (dnt D)).2.1 i) 0 (Nat.zero_add _) fuel0 (by unfold fuel0; omega)
            rw [sO_id] at e1
            have e2 : fX7_firstOfExtent 0 w (nI i) (nI (dnt D)) = some (nI ((exL s (dnt D)).2.1 i), w) := e1
            unfold fX9_extent
            simp (disch := omega) only [↓mo_1, ↓mo_2, ad_m1, ite_m1_lt, ite_m2_lt, ite_le_m1, ite_eq_m1, ite_eq_m2, ite_m1_m1, ite_m2_m2, ite_T, ite_F, ite_nz, ite_zz, ite_m1_le, ite_m1_eq, oi_none, oi_some, ob_some, lw_def, ck_true, ckp_su, ite_lt_t, ite_lt_f, ite_le_t, ite_le_f, ite_eq_t, ite_eq_f, ck_inb, nI_add, sb_nI, mu_nI, nI_clamp, sO_at, sO_sO, Nat.add_sub_cancel, Nat.zero_add, Nat.add_zero, li_0, li_1, li_2, li_3, li_4, li_5, li_6, li_7, li_8, li_9, li_10, li_11, li_12, li_16, li_20, li_24, li_31, li_32, li_48, li_49, li_73, li_74, li_75, li_97, li_98, li_99, li_100, li_101, li_109, li_110, li_255, li_680, li_700, li_9999, li_65536, li_65537, hp, hX.1.2.2.2.1, e2, hp, x_accept]
          · obtain ⟨w2, g, c1, c3, c4, c5⟩ := m_extentsNow hD b2 b1 b3 b4.1 hW b5
            refine ⟨mX w2 g, c4.tr SM.x, ?_⟩
            have r1 := (c5.2 i hi).1
            have r2 := (c5.2 i hi).2
            unfold fX11_extent
            simp (disch := first | omega | decide) only [↓mo_1, ↓mo_2, ad_m1, ite_m1_lt, ite_m2_lt, ite_le_m1, ite_eq_m1, ite_eq_m2, ite_m1_m1, ite_m2_m2, ite_T, ite_F, ite_nz, ite_zz, ite_m1_le, ite_m1_eq, oi_none, oi_some, ob_some, lw_def, ck_true, ckp_su, ite_lt_t, ite_lt_f, ite_le_t, ite_le_f, ite_eq_t, ite_eq_f, ck_inb, nI_add, sb_nI, mu_nI, nI_clamp, sO_at, sO_sO, Nat.add_sub_cancel, Nat.zero_add, Nat.add_zero, li_0, li_1, li_2, li_3, li_4, li_5, li_6, li_7, li_8, li_9, li_10, li_11, li_12, li_16, li_20, li_24, li_31, li_32, li_48, li_49, li_73, li_74, li_75, li_97, li_98, li_99, li_100, li_101, li_109, li_110, li_255, li_680, li_700, li_9999, li_65536, li_65537, ← e, b1, m_in1, c1, mX_i, c5.1, mX_r, r1, r2,  m_good]
        · refine ⟨nI ((exL s (dnt D)).2.2 i), 0, by omega, by omega, fun w q hq hp hX => ⟨w, XS.rf, ?_⟩, fun nd w w1 e ⟨d, b1, b2, b3, b4, b5, b6⟩ => ?_⟩
          · have e1 := x_fe (w := w) (j := 0) hD hW hX.2.2.1 h48 hi ((exL s (dnt D)).2.1 i) 0 (Nat.zero_add _) fuel0 (by unfold fuel0; omega)
            rw [sO_id] at e1
            have e2 : fX7_firstOfExtent 0 w (nI i) (nI (dnt D)) = some (nI ((exL s (dnt D)).2.1 i), w) := e1
            have e3 := x_el (w := w) (j := 0) hD hW hX.2.2.1 h48 hi ((exL s (dnt D)).2.2 i - 1) ((exL s (dnt D)).2.1 i + 1) (by omega) (by omega) fuel0 (by unfold fuel0; omega)
            rw [sO_id] at e3
            have e4 : fX7_extentLength 0 w (nI ((exL s (dnt D)).2.1 i)) (nI (dnt D)) = some (nI ((exL s (dnt D)).2.2 i), w) := by
              unfold fX7_extentLength
              rw [lw_def, li_1, nI_add]
              exact e3
            unfold fX9_extent
            simp (disch := omega) only [↓mo_1, ↓mo_2, ad_m1, ite_m1_lt, ite_m2_lt, ite_le_m1, ite_eq_m1, ite_eq_m2, ite_m1_m1, ite_m2_m2, ite_T, ite_F, ite_nz, ite_zz, ite_m1_le, ite_m1_eq, oi_none, oi_some, ob_some, lw_def, ck_true, ckp_su, ite_lt_t, ite_lt_f, ite_le_t, ite_le_f, ite_eq_t, ite_eq_f, ck_inb, nI_add, sb_nI, mu_nI, nI_clamp, sO_at, sO_sO, Nat.add_sub_cancel, Nat.zero_add, Nat.add_zero, li_0, li_1, li_2, li_3, li_4, li_5, li_6, li_7, li_8, li_9, li_10, li_11, li_12, li_16, li_20, li_24, li_31, li_32, li_48, li_49, li_73, li_74, li_75, li_97, li_98, li_99, li_100, li_101, li_109, li_110, li_255, li_680, li_700, li_9999, li_65536, li_65537, hp, hX.1.2.2.2.1, e2, e4, x_accept]
          · obtain ⟨w2, g, c1, c3, c4, c5⟩ := m_extentsNow hD b2 b1 b3 b4.1 hW b5
            refine ⟨mX w2 g, c4.tr SM.x, ?_⟩
            have r1 := (c5.2 i hi).1
            have r2 := (c5.2 i hi).2
            unfold fX11_extent
            simp (disch := first | omega | decide) only [↓mo_1, ↓mo_2, ad_m1, ite_m1_lt, ite_m2_lt, ite_le_m1, ite_eq_m1, ite_eq_m2, ite_m1_m1, ite_m2_m2, ite_T, ite_F, ite_nz, ite_zz, ite_m1_le, ite_m1_eq, oi_none, oi_some, ob_some, lw_def, ck_true, ckp_su, ite_lt_t, ite_lt_f, ite_le_t, ite_le_f, ite_eq_t, ite_eq_f, ck_inb, nI_add, sb_nI, mu_nI, nI_clamp, sO_at, sO_sO, Nat.add_sub_cancel, Nat.zero_add, Nat.add_zero, li_0, li_1, li_2, li_3, li_4, li_5, li_6, li_7, li_8, li_9, li_10, li_11, li_12, li_16, li_20, li_24, li_31, li_32, li_48, li_49, li_73, li_74, li_75, li_97, li_98, li_99, li_100, li_101, li_109, li_110, li_255, li_680, li_700, li_9999, li_65536, li_65537, ← e, b1, m_in1, c1, mX_i, c5.1, mX_r, r1, r2,  m_good]
        · refine ⟨oi (lpS s ((exL s (dnt D)).2.1 i)), 0, by omega, by omega, fun w q hq hp hX => ⟨w, XS.rf, ?_⟩, fun nd w w1 e ⟨d, b1, b2, b3, b4, b5, b6⟩ => ?_⟩
          · have e1 := x_fe (w := w) (j := 0) hD hW hX.2.2.1 h48 hi ((exL s (dnt D)).2.1 i) 0 (Nat.zero_add _) fuel0 (by unfold fuel0; omega)
            rw [sO_id] at e1
            have e2 : fX7_firstOfExtent 0 w (nI i) (nI (dnt D)) = some (nI ((exL s (dnt D)).2.1 i), w) := e1
            have e3 := x_livePlaceOf (w := w) (j := 0) hD hW hX.2.2.1 (t := (exL s (dnt D)).2.1 i) (by omega)
            rw [sO_id] at e3
            unfold fX9_extent
            simp (disch := omega) only [↓mo_1, ↓mo_2, ad_m1, ite_m1_lt, ite_m2_lt, ite_le_m1, ite_eq_m1, ite_eq_m2, ite_m1_m1, ite_m2_m2, ite_T, ite_F, ite_nz, ite_zz, ite_m1_le, ite_m1_eq, oi_none, oi_some, ob_some, lw_def, ck_true, ckp_su, ite_lt_t, ite_lt_f, ite_le_t, ite_le_f, ite_eq_t, ite_eq_f, ck_inb, nI_add, sb_nI, mu_nI, nI_clamp, sO_at, sO_sO, Nat.add_sub_cancel, Nat.zero_add, Nat.add_zero, li_0, li_1, li_2, li_3, li_4, li_5, li_6, li_7, li_8, li_9, li_10, li_11, li_12, li_16, li_20, li_24, li_31, li_32, li_48, li_49, li_73, li_74, li_75, li_97, li_98, li_99, li_100, li_101, li_109, li_110, li_255, li_680, li_700, li_9999, li_65536, li_65537, hp, hX.1.2.2.2.1, e2, e3, x_accept]
          · obtain ⟨w2, g, c1, c3, c4, c5⟩ := m_extentsNow hD b2 b1 b3 b4.1 hW b5
            refine ⟨mX w2 g, c4.tr SM.x, ?_⟩
            have r1 := (c5.2 i hi).1
            have r2 := (c5.2 i hi).2
            unfold fX11_extent
            simp (disch := first | omega | decide) only [↓mo_1, ↓mo_2, ad_m1, ite_m1_lt, ite_m2_lt, ite_le_m1, ite_eq_m1, ite_eq_m2, ite_m1_m1, ite_m2_m2, ite_T, ite_F, ite_nz, ite_zz, ite_m1_le, ite_m1_eq, oi_none, oi_some, ob_some, lw_def, ck_true, ckp_su, ite_lt_t, ite_lt_f, ite_le_t, ite_le_f, ite_eq_t, ite_eq_f, ck_inb, nI_add, sb_nI, mu_nI, nI_clamp, sO_at, sO_sO, Nat.add_sub_cancel, Nat.zero_add, Nat.add_zero, li_0, li_1, li_2, li_3, li_4, li_5, li_6, li_7, li_8, li_9, li_10, li_11, li_12, li_16, li_20, li_24, li_31, li_32, li_48, li_49, li_73, li_74, li_75, li_97, li_98, li_99, li_100, li_101, li_109, li_110, li_255, li_680, li_700, li_9999, li_65536, li_65537, ← e, b1, m_in1, c1, mX_i, c5.1, mX_r, r1, r2, m_liveOf hD hW c3, m_good]
      · refine ⟨m1, 1, by omega, by omega, fun w q hq hp hX => ⟨w, XS.rf, ?_⟩, fun nd w w1 e ⟨d, b1, b2, b3, b4, b5, b6⟩ => ⟨w1, SM.rf, ?_⟩⟩
        · have e1 := x_fe (w := w) (j := 0) hD hW hX.2.2.1 h48 hi ((exL s (dnt D)).2.1 i) 0 (Nat.zero_add _) fuel0 (by unfold fuel0; omega)
          rw [sO_id] at e1
          have e2 : fX7_firstOfExtent 0 w (nI i) (nI (dnt D)) = some (nI ((exL s (dnt D)).2.1 i), w) := e1
          unfold fX9_extent
          simp (disch := omega) only [↓mo_1, ↓mo_2, ad_m1, ite_m1_lt, ite_m2_lt, ite_le_m1, ite_eq_m1, ite_eq_m2, ite_m1_m1, ite_m2_m2, ite_T, ite_F, ite_nz, ite_zz, ite_m1_le, ite_m1_eq, oi_none, oi_some, ob_some, lw_def, ck_true, ckp_su, ite_lt_t, ite_lt_f, ite_le_t, ite_le_f, ite_eq_t, ite_eq_f, ck_inb, nI_add, sb_nI, mu_nI, nI_clamp, sO_at, sO_sO, Nat.add_sub_cancel, Nat.zero_add, Nat.add_zero, li_0, li_1, li_2, li_3, li_4, li_5, li_6, li_7, li_8, li_9, li_10, li_11, li_12, li_16, li_20, li_24, li_31, li_32, li_48, li_49, li_73, li_74, li_75, li_97, li_98, li_99, li_100, li_101, li_109, li_110, li_255, li_680, li_700, li_9999, li_65536, li_65537, hp, hX.1.2.2.2.1, e2, ite_out hy, x_refuse]
        · unfold fX11_extent
          simp (disch := omega) only [↓mo_1, ↓mo_2, ad_m1, ite_m1_lt, ite_m2_lt, ite_le_m1, ite_eq_m1, ite_eq_m2, ite_m1_m1, ite_m2_m2, ite_T, ite_F, ite_nz, ite_zz, ite_m1_le, ite_m1_eq, oi_none, oi_some, ob_some, lw_def, ck_true, ckp_su, ite_lt_t, ite_lt_f, ite_le_t, ite_le_f, ite_eq_t, ite_eq_f, ck_inb, nI_add, sb_nI, mu_nI, nI_clamp, sO_at, sO_sO, Nat.add_sub_cancel, Nat.zero_add, Nat.add_zero, li_0, li_1, li_2, li_3, li_4, li_5, li_6, li_7, li_8, li_9, li_10, li_11, li_12, li_16, li_20, li_24, li_31, li_32, li_48, li_49, li_73, li_74, li_75, li_97, li_98, li_99, li_100, li_101, li_109, li_110, li_255, li_680, li_700, li_9999, li_65536, li_65537, ← e, b1, m_in0 hy, m_refused]
    · have hxX : ∀ w q, q < 2 → (w 9 0).2.2.1 2 = q + 1 → XD w q (some (D, T, s, h, im)) → fX9_extent w x y = some (m1, sI w 9 0 13 (nI 1)) := fun w q hq hp hX => by
        have e1 := x_fo (w := w) (j := 0) hD hW hX.2.2.1 h48 hx (dnt D) 0 (Nat.zero_add _) fuel0 (by unfold fuel0; omega)
        rw [sO_id] at e1
        have e2 : fX7_firstOfExtent 0 w x (nI (dnt D)) = some (m2, w) := e1
        unfold fX9_extent
        simp (disch := omega) only [↓mo_1, ↓mo_2, ad_m1, ite_m1_lt, ite_m2_lt, ite_le_m1, ite_eq_m1, ite_eq_m2, ite_m1_m1, ite_m2_m2, ite_T, ite_F, ite_nz, ite_zz, ite_m1_le, ite_m1_eq, oi_none, oi_some, ob_some, lw_def, ck_true, ckp_su, ite_lt_t, ite_lt_f, ite_le_t, ite_le_f, ite_eq_t, ite_eq_f, ck_inb, nI_add, sb_nI, mu_nI, nI_clamp, sO_at, sO_sO, Nat.add_sub_cancel, Nat.zero_add, Nat.add_zero, li_0, li_1, li_2, li_3, li_4, li_5, li_6, li_7, li_8, li_9, li_10, li_11, li_12, li_16, li_20, li_24, li_31, li_32, li_48, li_49, li_73, li_74, li_75, li_97, li_98, li_99, li_100, li_101, li_109, li_110, li_255, li_680, li_700, li_9999, li_65536, li_65537, hp, hX.1.2.2.2.1, e2, x_refuse]
      refine ⟨m1, 1, by omega, by omega, fun w q hq hp hX => ⟨w, XS.rf, hxX w q hq hp hX⟩, fun nd w w1 e ⟨d, b1, b2, b3, b4, b5, b6⟩ => ?_⟩
      rcases hx with hx | hx
      · refine ⟨w1, SM.rf, ?_⟩
        unfold fX11_extent
        simp (disch := omega) only [↓mo_1, ↓mo_2, ad_m1, ite_m1_lt, ite_m2_lt, ite_le_m1, ite_eq_m1, ite_eq_m2, ite_m1_m1, ite_m2_m2, ite_T, ite_F, ite_nz, ite_zz, ite_m1_le, ite_m1_eq, oi_none, oi_some, ob_some, lw_def, ck_true, ckp_su, ite_lt_t, ite_lt_f, ite_le_t, ite_le_f, ite_eq_t, ite_eq_f, ck_inb, nI_add, sb_nI, mu_nI, nI_clamp, sO_at, sO_sO, Nat.add_sub_cancel, Nat.zero_add, Nat.add_zero, li_0, li_1, li_2, li_3, li_4, li_5, li_6, li_7, li_8, li_9, li_10, li_11, li_12, li_16, li_20, li_24, li_31, li_32, li_48, li_49, li_73, li_74, li_75, li_97, li_98, li_99, li_100, li_101, li_109, li_110, li_255, li_680, li_700, li_9999, li_65536, li_65537, ← e, b1, m_refused]
        exact if_pos hx
      · rcases rng y (show 3 < 2 ^ 31 by omega) with ⟨k, hk, rfl⟩ | hy
        · obtain ⟨w2, g, c1, c3, c4, c5⟩ := m_extentsNow hD b2 b1 b3 b4.1 hW b5
          refine ⟨mX w2 g, c4.tr SM.x, ?_⟩
          have hx2 : ¬ x < nI (exL s (dnt D)).1 := by
            have := hx.2
            rw [Int32.le_iff_toInt_le] at this
            rw [Int32.lt_iff_toInt_lt]
            omega
          unfold fX11_extent
          simp (disch := omega) only [↓mo_1, ↓mo_2, ad_m1, ite_m1_lt, ite_m2_lt, ite_le_m1, ite_eq_m1, ite_eq_m2, ite_m1_m1, ite_m2_m2, ite_T, ite_F, ite_nz, ite_zz, ite_m1_le, ite_m1_eq, oi_none, oi_some, ob_some, lw_def, ck_true, ckp_su, ite_lt_t, ite_lt_f, ite_le_t, ite_le_f, ite_eq_t, ite_eq_f, ck_inb, nI_add, sb_nI, mu_nI, nI_clamp, sO_at, sO_sO, Nat.add_sub_cancel, Nat.zero_add, Nat.add_zero, li_0, li_1, li_2, li_3, li_4, li_5, li_6, li_7, li_8, li_9, li_10, li_11, li_12, li_16, li_20, li_24, li_31, li_32, li_48, li_49, li_73, li_74, li_75, li_97, li_98, li_99, li_100, li_101, li_109, li_110, li_255, li_680, li_700, li_9999, li_65536, li_65537, ← e, b1, m_ge0 hx, m_in1, c1, mX_i, c5.1, m_refused]
          exact if_neg hx2
        · refine ⟨w1, SM.rf, ?_⟩
          unfold fX11_extent
          simp (disch := omega) only [↓mo_1, ↓mo_2, ad_m1, ite_m1_lt, ite_m2_lt, ite_le_m1, ite_eq_m1, ite_eq_m2, ite_m1_m1, ite_m2_m2, ite_T, ite_F, ite_nz, ite_zz, ite_m1_le, ite_m1_eq, oi_none, oi_some, ob_some, lw_def, ck_true, ckp_su, ite_lt_t, ite_lt_f, ite_le_t, ite_le_f, ite_eq_t, ite_eq_f, ck_inb, nI_add, sb_nI, mu_nI, nI_clamp, sO_at, sO_sO, Nat.add_sub_cancel, Nat.zero_add, Nat.add_zero, li_0, li_1, li_2, li_3, li_4, li_5, li_6, li_7, li_8, li_9, li_10, li_11, li_12, li_16, li_20, li_24, li_31, li_32, li_48, li_49, li_73, li_74, li_75, li_97, li_98, li_99, li_100, li_101, li_109, li_110, li_255, li_680, li_700, li_9999, li_65536, li_65537, ← e, b1, m_ge0 hx, m_in0 hy, m_refused]
