/-! ===== the questions of what fits ===== -/
theorem q_fits : Qw (fun w => fX9_fits w) (fun nd w => fX11_fits nd w) := by
  intro d hd
  cases d with
  | none =>
    refine ⟨m1, 1, by omega, by omega, fun w q hq hp hX => ⟨w, XS.rf, ?_⟩, fun nd w w1 e hM => ⟨w1, SW.rf, ?_⟩⟩
    · unfold fX9_fits
      simp (disch := omega) only [↓mo_1, ↓mo_2, ad_m1, ite_m1_lt, ite_m2_lt, ite_le_m1, ite_eq_m1, ite_eq_m2, ite_m1_m1, ite_m2_m2, ite_T, ite_F, ite_nz, ite_zz, ite_m1_le, ite_m1_eq, oi_none, oi_some, ob_some, lw_def, ck_true, ckp_su, ite_lt_t, ite_lt_f, ite_le_t, ite_le_f, ite_eq_t, ite_eq_f, ck_inb, nI_add, sb_nI, mu_nI, nI_clamp, sO_at, sO_sO, Nat.add_sub_cancel, Nat.zero_add, Nat.add_zero, li_0, li_1, li_2, li_3, li_4, li_5, li_6, li_7, li_8, li_9, li_10, li_11, li_12, li_16, li_20, li_24, li_31, li_32, li_48, li_49, li_73, li_74, li_75, li_97, li_98, li_99, li_100, li_101, li_109, li_110, li_255, li_680, li_700, li_9999, li_65536, li_65537, x_hD0 hp hq hX.1.1, x_refuse]
    · unfold fX11_fits
      simp (disch := omega) only [↓mo_1, ↓mo_2, ad_m1, ite_m1_lt, ite_m2_lt, ite_le_m1, ite_eq_m1, ite_eq_m2, ite_m1_m1, ite_m2_m2, ite_T, ite_F, ite_nz, ite_zz, ite_m1_le, ite_m1_eq, oi_none, oi_some, ob_some, lw_def, ck_true, ckp_su, ite_lt_t, ite_lt_f, ite_le_t, ite_le_f, ite_eq_t, ite_eq_f, ck_inb, nI_add, sb_nI, mu_nI, nI_clamp, sO_at, sO_sO, Nat.add_sub_cancel, Nat.zero_add, Nat.add_zero, li_0, li_1, li_2, li_3, li_4, li_5, li_6, li_7, li_8, li_9, li_10, li_11, li_12, li_16, li_20, li_24, li_31, li_32, li_48, li_49, li_73, li_74, li_75, li_97, li_98, li_99, li_100, li_101, li_109, li_110, li_255, li_680, li_700, li_9999, li_65536, li_65537, ← e, show (w1 11 0).2.2.1 3 = 0 from hM, m_refused]
  | some z =>
    obtain ⟨D, T, s, h, im⟩ := z
    obtain ⟨hD, h6, hT, hW, hQ, hH, hI⟩ := hd
    have h48 := hD.2.2.2.1
    have hb1 := hD.1
    refine ⟨nI (ctp (fitB D T) (2 ^ T.2.2.1.1)), 0, by omega, by omega, fun w q hq hp hX => ⟨w, XS.rf, ?_⟩, fun nd w w1 e ⟨d, b1, b2, b3, b4, b5, b6⟩ => ?_⟩
    · unfold fX9_fits
      simp (disch := omega) only [↓mo_1, ↓mo_2, ad_m1, ite_m1_lt, ite_m2_lt, ite_le_m1, ite_eq_m1, ite_eq_m2, ite_m1_m1, ite_m2_m2, ite_T, ite_F, ite_nz, ite_zz, ite_m1_le, ite_m1_eq, oi_none, oi_some, ob_some, lw_def, ck_true, ckp_su, ite_lt_t, ite_lt_f, ite_le_t, ite_le_f, ite_eq_t, ite_eq_f, ck_inb, nI_add, sb_nI, mu_nI, nI_clamp, sO_at, sO_sO, Nat.add_sub_cancel, Nat.zero_add, Nat.add_zero, li_0, li_1, li_2, li_3, li_4, li_5, li_6, li_7, li_8, li_9, li_10, li_11, li_12, li_16, li_20, li_24, li_31, li_32, li_48, li_49, li_73, li_74, li_75, li_97, li_98, li_99, li_100, li_101, li_109, li_110, li_255, li_680, li_700, li_9999, li_65536, li_65537, x_hD1 hp hq hX.1.2.2.1 hD.1 (by omega), hp, hX.2.2.2.1.1, fa_1, x_accept]
    · obtain ⟨w2, c1, c2, c3, c4, c5, c6⟩ := m_fitting (x := m1) hD hT b2 b1 b3 b4
      refine ⟨w2, c2, ?_⟩
      unfold fX11_fits
      simp (disch := omega) only [↓mo_1, ↓mo_2, ad_m1, ite_m1_lt, ite_m2_lt, ite_le_m1, ite_eq_m1, ite_eq_m2, ite_m1_m1, ite_m2_m2, ite_T, ite_F, ite_nz, ite_zz, ite_m1_le, ite_m1_eq, oi_none, oi_some, ob_some, lw_def, ck_true, ckp_su, ite_lt_t, ite_lt_f, ite_le_t, ite_le_f, ite_eq_t, ite_eq_f, ck_inb, nI_add, sb_nI, mu_nI, nI_clamp, sO_at, sO_sO, Nat.add_sub_cancel, Nat.zero_add, Nat.add_zero, li_0, li_1, li_2, li_3, li_4, li_5, li_6, li_7, li_8, li_9, li_10, li_11, li_12, li_16, li_20, li_24, li_31, li_32, li_48, li_49, li_73, li_74, li_75, li_97, li_98, li_99, li_100, li_101, li_109, li_110, li_255, li_680, li_700, li_9999, li_65536, li_65537, ← e, b1, c1, c3, m_good]
theorem q_could : Qw (fun w => fX9_could w) (fun nd w => fX11_could nd w) := by
  intro d hd
  cases d with
  | none =>
    refine ⟨m1, 1, by omega, by omega, fun w q hq hp hX => ⟨w, XS.rf, ?_⟩, fun nd w w1 e hM => ⟨w1, SW.rf, ?_⟩⟩
    · unfold fX9_could
      simp (disch := omega) only [↓mo_1, ↓mo_2, ad_m1, ite_m1_lt, ite_m2_lt, ite_le_m1, ite_eq_m1, ite_eq_m2, ite_m1_m1, ite_m2_m2, ite_T, ite_F, ite_nz, ite_zz, ite_m1_le, ite_m1_eq, oi_none, oi_some, ob_some, lw_def, ck_true, ckp_su, ite_lt_t, ite_lt_f, ite_le_t, ite_le_f, ite_eq_t, ite_eq_f, ck_inb, nI_add, sb_nI, mu_nI, nI_clamp, sO_at, sO_sO, Nat.add_sub_cancel, Nat.zero_add, Nat.add_zero, li_0, li_1, li_2, li_3, li_4, li_5, li_6, li_7, li_8, li_9, li_10, li_11, li_12, li_16, li_20, li_24, li_31, li_32, li_48, li_49, li_73, li_74, li_75, li_97, li_98, li_99, li_100, li_101, li_109, li_110, li_255, li_680, li_700, li_9999, li_65536, li_65537, x_hD0 hp hq hX.1.1, x_refuse]
    · unfold fX11_could
      simp (disch := omega) only [↓mo_1, ↓mo_2, ad_m1, ite_m1_lt, ite_m2_lt, ite_le_m1, ite_eq_m1, ite_eq_m2, ite_m1_m1, ite_m2_m2, ite_T, ite_F, ite_nz, ite_zz, ite_m1_le, ite_m1_eq, oi_none, oi_some, ob_some, lw_def, ck_true, ckp_su, ite_lt_t, ite_lt_f, ite_le_t, ite_le_f, ite_eq_t, ite_eq_f, ck_inb, nI_add, sb_nI, mu_nI, nI_clamp, sO_at, sO_sO, Nat.add_sub_cancel, Nat.zero_add, Nat.add_zero, li_0, li_1, li_2, li_3, li_4, li_5, li_6, li_7, li_8, li_9, li_10, li_11, li_12, li_16, li_20, li_24, li_31, li_32, li_48, li_49, li_73, li_74, li_75, li_97, li_98, li_99, li_100, li_101, li_109, li_110, li_255, li_680, li_700, li_9999, li_65536, li_65537, ← e, show (w1 11 0).2.2.1 3 = 0 from hM, m_refused]
  | some z =>
    obtain ⟨D, T, s, h, im⟩ := z
    obtain ⟨hD, h6, hT, hW, hQ, hH, hI⟩ := hd
    have h48 := hD.2.2.2.1
    have hb1 := hD.1
    refine ⟨fp op1 (nI 0) (fitB D T) (2 ^ T.2.2.1.1), 0, by omega, by omega, fun w q hq hp hX => ⟨w, XS.rf, ?_⟩, fun nd w w1 e ⟨d, b1, b2, b3, b4, b5, b6⟩ => ?_⟩
    · unfold fX9_could
      simp (disch := omega) only [↓mo_1, ↓mo_2, ad_m1, ite_m1_lt, ite_m2_lt, ite_le_m1, ite_eq_m1, ite_eq_m2, ite_m1_m1, ite_m2_m2, ite_T, ite_F, ite_nz, ite_zz, ite_m1_le, ite_m1_eq, oi_none, oi_some, ob_some, lw_def, ck_true, ckp_su, ite_lt_t, ite_lt_f, ite_le_t, ite_le_f, ite_eq_t, ite_eq_f, ck_inb, nI_add, sb_nI, mu_nI, nI_clamp, sO_at, sO_sO, Nat.add_sub_cancel, Nat.zero_add, Nat.add_zero, li_0, li_1, li_2, li_3, li_4, li_5, li_6, li_7, li_8, li_9, li_10, li_11, li_12, li_16, li_20, li_24, li_31, li_32, li_48, li_49, li_73, li_74, li_75, li_97, li_98, li_99, li_100, li_101, li_109, li_110, li_255, li_680, li_700, li_9999, li_65536, li_65537, x_hD1 hp hq hX.1.2.2.1 hD.1 (by omega), hp, x_inSome hT hX.2.2.2.1, x_accept]
    · obtain ⟨w2, c1, c2, c3, c4, c5, c6⟩ := m_fitting (x := m1) hD hT b2 b1 b3 b4
      refine ⟨w2, c2, ?_⟩
      unfold fX11_could
      simp (disch := omega) only [↓mo_1, ↓mo_2, ad_m1, ite_m1_lt, ite_m2_lt, ite_le_m1, ite_eq_m1, ite_eq_m2, ite_m1_m1, ite_m2_m2, ite_T, ite_F, ite_nz, ite_zz, ite_m1_le, ite_m1_eq, oi_none, oi_some, ob_some, lw_def, ck_true, ckp_su, ite_lt_t, ite_lt_f, ite_le_t, ite_le_f, ite_eq_t, ite_eq_f, ck_inb, nI_add, sb_nI, mu_nI, nI_clamp, sO_at, sO_sO, Nat.add_sub_cancel, Nat.zero_add, Nat.add_zero, li_0, li_1, li_2, li_3, li_4, li_5, li_6, li_7, li_8, li_9, li_10, li_11, li_12, li_16, li_20, li_24, li_31, li_32, li_48, li_49, li_73, li_74, li_75, li_97, li_98, li_99, li_100, li_101, li_109, li_110, li_255, li_680, li_700, li_9999, li_65536, li_65537, ← e, b1, c1, c4, m_good]
theorem q_surely : Qw (fun w => fX9_surely w) (fun nd w => fX11_surely nd w) := by
  intro d hd
  cases d with
  | none =>
    refine ⟨m1, 1, by omega, by omega, fun w q hq hp hX => ⟨w, XS.rf, ?_⟩, fun nd w w1 e hM => ⟨w1, SW.rf, ?_⟩⟩
    · unfold fX9_surely
      simp (disch := omega) only [↓mo_1, ↓mo_2, ad_m1, ite_m1_lt, ite_m2_lt, ite_le_m1, ite_eq_m1, ite_eq_m2, ite_m1_m1, ite_m2_m2, ite_T, ite_F, ite_nz, ite_zz, ite_m1_le, ite_m1_eq, oi_none, oi_some, ob_some, lw_def, ck_true, ckp_su, ite_lt_t, ite_lt_f, ite_le_t, ite_le_f, ite_eq_t, ite_eq_f, ck_inb, nI_add, sb_nI, mu_nI, nI_clamp, sO_at, sO_sO, Nat.add_sub_cancel, Nat.zero_add, Nat.add_zero, li_0, li_1, li_2, li_3, li_4, li_5, li_6, li_7, li_8, li_9, li_10, li_11, li_12, li_16, li_20, li_24, li_31, li_32, li_48, li_49, li_73, li_74, li_75, li_97, li_98, li_99, li_100, li_101, li_109, li_110, li_255, li_680, li_700, li_9999, li_65536, li_65537, x_hD0 hp hq hX.1.1, x_refuse]
    · unfold fX11_surely
      simp (disch := omega) only [↓mo_1, ↓mo_2, ad_m1, ite_m1_lt, ite_m2_lt, ite_le_m1, ite_eq_m1, ite_eq_m2, ite_m1_m1, ite_m2_m2, ite_T, ite_F, ite_nz, ite_zz, ite_m1_le, ite_m1_eq, oi_none, oi_some, ob_some, lw_def, ck_true, ckp_su, ite_lt_t, ite_lt_f, ite_le_t, ite_le_f, ite_eq_t, ite_eq_f, ck_inb, nI_add, sb_nI, mu_nI, nI_clamp, sO_at, sO_sO, Nat.add_sub_cancel, Nat.zero_add, Nat.add_zero, li_0, li_1, li_2, li_3, li_4, li_5, li_6, li_7, li_8, li_9, li_10, li_11, li_12, li_16, li_20, li_24, li_31, li_32, li_48, li_49, li_73, li_74, li_75, li_97, li_98, li_99, li_100, li_101, li_109, li_110, li_255, li_680, li_700, li_9999, li_65536, li_65537, ← e, show (w1 11 0).2.2.1 3 = 0 from hM, m_refused]
  | some z =>
    obtain ⟨D, T, s, h, im⟩ := z
    obtain ⟨hD, h6, hT, hW, hQ, hH, hI⟩ := hd
    have h48 := hD.2.2.2.1
    have hb1 := hD.1
    refine ⟨evS D T, 0, by omega, by omega, fun w q hq hp hX => ⟨w, XS.rf, ?_⟩, fun nd w w1 e ⟨d, b1, b2, b3, b4, b5, b6⟩ => ?_⟩
    · unfold fX9_surely
      simp (disch := omega) only [↓mo_1, ↓mo_2, ad_m1, ite_m1_lt, ite_m2_lt, ite_le_m1, ite_eq_m1, ite_eq_m2, ite_m1_m1, ite_m2_m2, ite_T, ite_F, ite_nz, ite_zz, ite_m1_le, ite_m1_eq, oi_none, oi_some, ob_some, lw_def, ck_true, ckp_su, ite_lt_t, ite_lt_f, ite_le_t, ite_le_f, ite_eq_t, ite_eq_f, ck_inb, nI_add, sb_nI, mu_nI, nI_clamp, sO_at, sO_sO, Nat.add_sub_cancel, Nat.zero_add, Nat.add_zero, li_0, li_1, li_2, li_3, li_4, li_5, li_6, li_7, li_8, li_9, li_10, li_11, li_12, li_16, li_20, li_24, li_31, li_32, li_48, li_49, li_73, li_74, li_75, li_97, li_98, li_99, li_100, li_101, li_109, li_110, li_255, li_680, li_700, li_9999, li_65536, li_65537, x_hD1 hp hq hX.1.2.2.1 hD.1 (by omega), hp, x_inAll hT hX.2.2.2.1, x_accept]
    · obtain ⟨w2, c1, c2, c3, c4, c5, c6⟩ := m_fitting (x := m1) hD hT b2 b1 b3 b4
      refine ⟨w2, c2, ?_⟩
      unfold fX11_surely
      simp (disch := omega) only [↓mo_1, ↓mo_2, ad_m1, ite_m1_lt, ite_m2_lt, ite_le_m1, ite_eq_m1, ite_eq_m2, ite_m1_m1, ite_m2_m2, ite_T, ite_F, ite_nz, ite_zz, ite_m1_le, ite_m1_eq, oi_none, oi_some, ob_some, lw_def, ck_true, ckp_su, ite_lt_t, ite_lt_f, ite_le_t, ite_le_f, ite_eq_t, ite_eq_f, ck_inb, nI_add, sb_nI, mu_nI, nI_clamp, sO_at, sO_sO, Nat.add_sub_cancel, Nat.zero_add, Nat.add_zero, li_0, li_1, li_2, li_3, li_4, li_5, li_6, li_7, li_8, li_9, li_10, li_11, li_12, li_16, li_20, li_24, li_31, li_32, li_48, li_49, li_73, li_74, li_75, li_97, li_98, li_99, li_100, li_101, li_109, li_110, li_255, li_680, li_700, li_9999, li_65536, li_65537, ← e, b1, c1, c5, m_good]
theorem q_ask : Qw (fun w => fX9_ask w) (fun nd w => fX11_ask nd w) := by
  intro d hd
  cases d with
  | none =>
    refine ⟨m1, 1, by omega, by omega, fun w q hq hp hX => ⟨w, XS.rf, ?_⟩, fun nd w w1 e hM => ⟨w1, SW.rf, ?_⟩⟩
    · unfold fX9_ask
      simp (disch := omega) only [↓mo_1, ↓mo_2, ad_m1, ite_m1_lt, ite_m2_lt, ite_le_m1, ite_eq_m1, ite_eq_m2, ite_m1_m1, ite_m2_m2, ite_T, ite_F, ite_nz, ite_zz, ite_m1_le, ite_m1_eq, oi_none, oi_some, ob_some, lw_def, ck_true, ckp_su, ite_lt_t, ite_lt_f, ite_le_t, ite_le_f, ite_eq_t, ite_eq_f, ck_inb, nI_add, sb_nI, mu_nI, nI_clamp, sO_at, sO_sO, Nat.add_sub_cancel, Nat.zero_add, Nat.add_zero, li_0, li_1, li_2, li_3, li_4, li_5, li_6, li_7, li_8, li_9, li_10, li_11, li_12, li_16, li_20, li_24, li_31, li_32, li_48, li_49, li_73, li_74, li_75, li_97, li_98, li_99, li_100, li_101, li_109, li_110, li_255, li_680, li_700, li_9999, li_65536, li_65537, x_hD0 hp hq hX.1.1, x_refuse]
    · unfold fX11_ask
      simp (disch := omega) only [↓mo_1, ↓mo_2, ad_m1, ite_m1_lt, ite_m2_lt, ite_le_m1, ite_eq_m1, ite_eq_m2, ite_m1_m1, ite_m2_m2, ite_T, ite_F, ite_nz, ite_zz, ite_m1_le, ite_m1_eq, oi_none, oi_some, ob_some, lw_def, ck_true, ckp_su, ite_lt_t, ite_lt_f, ite_le_t, ite_le_f, ite_eq_t, ite_eq_f, ck_inb, nI_add, sb_nI, mu_nI, nI_clamp, sO_at, sO_sO, Nat.add_sub_cancel, Nat.zero_add, Nat.add_zero, li_0, li_1, li_2, li_3, li_4, li_5, li_6, li_7, li_8, li_9, li_10, li_11, li_12, li_16, li_20, li_24, li_31, li_32, li_48, li_49, li_73, li_74, li_75, li_97, li_98, li_99, li_100, li_101, li_109, li_110, li_255, li_680, li_700, li_9999, li_65536, li_65537, ← e, show (w1 11 0).2.2.1 3 = 0 from hM, m_refused]
  | some z =>
    obtain ⟨D, T, s, h, im⟩ := z
    obtain ⟨hD, h6, hT, hW, hQ, hH, hI⟩ := hd
    have h48 := hD.2.2.2.1
    have hb1 := hD.1
    refine ⟨oi2 (btA D T), 0, by omega, by omega, fun w q hq hp hX => ⟨w, XS.rf, ?_⟩, fun nd w w1 e ⟨d, b1, b2, b3, b4, b5, b6⟩ => ?_⟩
    · have h2 := hX.2.1.2.2.1.1
      unfold fX9_ask
      simp (disch := omega) only [↓mo_1, ↓mo_2, ad_m1, ite_m1_lt, ite_m2_lt, ite_le_m1, ite_eq_m1, ite_eq_m2, ite_m1_m1, ite_m2_m2, ite_T, ite_F, ite_nz, ite_zz, ite_m1_le, ite_m1_eq, oi_none, oi_some, ob_some, lw_def, ck_true, ckp_su, ite_lt_t, ite_lt_f, ite_le_t, ite_le_f, ite_eq_t, ite_eq_f, ck_inb, nI_add, sb_nI, mu_nI, nI_clamp, sO_at, sO_sO, Nat.add_sub_cancel, Nat.zero_add, Nat.add_zero, li_0, li_1, li_2, li_3, li_4, li_5, li_6, li_7, li_8, li_9, li_10, li_11, li_12, li_16, li_20, li_24, li_31, li_32, li_48, li_49, li_73, li_74, li_75, li_97, li_98, li_99, li_100, li_101, li_109, li_110, li_255, li_680, li_700, li_9999, li_65536, li_65537, x_hD1 hp hq hX.1.2.2.1 hD.1 (by omega), hp, h2, x_bestToTell hT hX.2.2.2.1, x_accept]
    · obtain ⟨w2, c1, c2, c3⟩ := m_asks hD hT b2 b1 b3 b4
      refine ⟨w2, c2, ?_⟩
      unfold fX11_ask
      simp (disch := omega) only [↓mo_1, ↓mo_2, ad_m1, ite_m1_lt, ite_m2_lt, ite_le_m1, ite_eq_m1, ite_eq_m2, ite_m1_m1, ite_m2_m2, ite_T, ite_F, ite_nz, ite_zz, ite_m1_le, ite_m1_eq, oi_none, oi_some, ob_some, lw_def, ck_true, ckp_su, ite_lt_t, ite_lt_f, ite_le_t, ite_le_f, ite_eq_t, ite_eq_f, ck_inb, nI_add, sb_nI, mu_nI, nI_clamp, sO_at, sO_sO, Nat.add_sub_cancel, Nat.zero_add, Nat.add_zero, li_0, li_1, li_2, li_3, li_4, li_5, li_6, li_7, li_8, li_9, li_10, li_11, li_12, li_16, li_20, li_24, li_31, li_32, li_48, li_49, li_73, li_74, li_75, li_97, li_98, li_99, li_100, li_101, li_109, li_110, li_255, li_680, li_700, li_9999, li_65536, li_65537, ← e, b1, c1, c1, m_good]
theorem q_askLeaves : Qw (fun w => fX9_askLeaves w) (fun nd w => fX11_askLeaves nd w) := by
  intro d hd
  cases d with
  | none =>
    refine ⟨m1, 1, by omega, by omega, fun w q hq hp hX => ⟨w, XS.rf, ?_⟩, fun nd w w1 e hM => ⟨w1, SW.rf, ?_⟩⟩
    · unfold fX9_askLeaves
      simp (disch := omega) only [↓mo_1, ↓mo_2, ad_m1, ite_m1_lt, ite_m2_lt, ite_le_m1, ite_eq_m1, ite_eq_m2, ite_m1_m1, ite_m2_m2, ite_T, ite_F, ite_nz, ite_zz, ite_m1_le, ite_m1_eq, oi_none, oi_some, ob_some, lw_def, ck_true, ckp_su, ite_lt_t, ite_lt_f, ite_le_t, ite_le_f, ite_eq_t, ite_eq_f, ck_inb, nI_add, sb_nI, mu_nI, nI_clamp, sO_at, sO_sO, Nat.add_sub_cancel, Nat.zero_add, Nat.add_zero, li_0, li_1, li_2, li_3, li_4, li_5, li_6, li_7, li_8, li_9, li_10, li_11, li_12, li_16, li_20, li_24, li_31, li_32, li_48, li_49, li_73, li_74, li_75, li_97, li_98, li_99, li_100, li_101, li_109, li_110, li_255, li_680, li_700, li_9999, li_65536, li_65537, x_hD0 hp hq hX.1.1, x_refuse]
    · unfold fX11_askLeaves
      simp (disch := omega) only [↓mo_1, ↓mo_2, ad_m1, ite_m1_lt, ite_m2_lt, ite_le_m1, ite_eq_m1, ite_eq_m2, ite_m1_m1, ite_m2_m2, ite_T, ite_F, ite_nz, ite_zz, ite_m1_le, ite_m1_eq, oi_none, oi_some, ob_some, lw_def, ck_true, ckp_su, ite_lt_t, ite_lt_f, ite_le_t, ite_le_f, ite_eq_t, ite_eq_f, ck_inb, nI_add, sb_nI, mu_nI, nI_clamp, sO_at, sO_sO, Nat.add_sub_cancel, Nat.zero_add, Nat.add_zero, li_0, li_1, li_2, li_3, li_4, li_5, li_6, li_7, li_8, li_9, li_10, li_11, li_12, li_16, li_20, li_24, li_31, li_32, li_48, li_49, li_73, li_74, li_75, li_97, li_98, li_99, li_100, li_101, li_109, li_110, li_255, li_680, li_700, li_9999, li_65536, li_65537, ← e, show (w1 11 0).2.2.1 3 = 0 from hM, m_refused]
  | some z =>
    obtain ⟨D, T, s, h, im⟩ := z
    obtain ⟨hD, h6, hT, hW, hQ, hH, hI⟩ := hd
    have h48 := hD.2.2.2.1
    have hb1 := hD.1
    have h4 := hT.2.2.1.1
    refine ⟨alS D T (btA D T), 0, by omega, by omega, fun w q hq hp hX => ⟨w, XS.rf, ?_⟩, fun nd w w1 e ⟨d, b1, b2, b3, b4, b5, b6⟩ => ?_⟩
    · have h2 := hX.2.1.2.2.1.1
      have e1 := x_bestToTell hT hX.2.2.2.1
      unfold fX9_askLeaves
      cases hb : btA D T with
      | none =>
        rw [hb, oi2_n] at e1
        simp (disch := omega) only [↓mo_1, ↓mo_2, ad_m1, ite_m1_lt, ite_m2_lt, ite_le_m1, ite_eq_m1, ite_eq_m2, ite_m1_m1, ite_m2_m2, ite_T, ite_F, ite_nz, ite_zz, ite_m1_le, ite_m1_eq, oi_none, oi_some, ob_some, lw_def, ck_true, ckp_su, ite_lt_t, ite_lt_f, ite_le_t, ite_le_f, ite_eq_t, ite_eq_f, ck_inb, nI_add, sb_nI, mu_nI, nI_clamp, sO_at, sO_sO, Nat.add_sub_cancel, Nat.zero_add, Nat.add_zero, li_0, li_1, li_2, li_3, li_4, li_5, li_6, li_7, li_8, li_9, li_10, li_11, li_12, li_16, li_20, li_24, li_31, li_32, li_48, li_49, li_73, li_74, li_75, li_97, li_98, li_99, li_100, li_101, li_109, li_110, li_255, li_680, li_700, li_9999, li_65536, li_65537, x_hD1 hp hq hX.1.2.2.1 hD.1 (by omega), hp, h2, e1, x_accept]
        rfl
      | some b =>
        have hbl : b < T.2.2.1.1 := by
          unfold btA at hb
          by_cases c : ctp (fitB D T) (2 ^ T.2.2.1.1) = 0
          · rw [if_pos c] at hb; cases hb
          · rw [if_neg c] at hb; exact bt_lt _ hb
        rw [hb, oi2_s] at e1
        simp (disch := omega) only [↓mo_1, ↓mo_2, ad_m1, ite_m1_lt, ite_m2_lt, ite_le_m1, ite_eq_m1, ite_eq_m2, ite_m1_m1, ite_m2_m2, ite_T, ite_F, ite_nz, ite_zz, ite_m1_le, ite_m1_eq, oi_none, oi_some, ob_some, lw_def, ck_true, ckp_su, ite_lt_t, ite_lt_f, ite_le_t, ite_le_f, ite_eq_t, ite_eq_f, ck_inb, nI_add, sb_nI, mu_nI, nI_clamp, sO_at, sO_sO, Nat.add_sub_cancel, Nat.zero_add, Nat.add_zero, li_0, li_1, li_2, li_3, li_4, li_5, li_6, li_7, li_8, li_9, li_10, li_11, li_12, li_16, li_20, li_24, li_31, li_32, li_48, li_49, li_73, li_74, li_75, li_97, li_98, li_99, li_100, li_101, li_109, li_110, li_255, li_680, li_700, li_9999, li_65536, li_65537, x_hD1 hp hq hX.1.2.2.1 hD.1 (by omega), hp, h2, e1, x_leftAtMost (show b < 4 by omega) hT hX.2.2.2.1, x_accept]
        rfl
    · obtain ⟨w2, c1, c2, c3⟩ := m_asks hD hT b2 b1 b3 b4
      refine ⟨w2, c2, ?_⟩
      unfold fX11_askLeaves
      simp (disch := omega) only [↓mo_1, ↓mo_2, ad_m1, ite_m1_lt, ite_m2_lt, ite_le_m1, ite_eq_m1, ite_eq_m2, ite_m1_m1, ite_m2_m2, ite_T, ite_F, ite_nz, ite_zz, ite_m1_le, ite_m1_eq, oi_none, oi_some, ob_some, lw_def, ck_true, ckp_su, ite_lt_t, ite_lt_f, ite_le_t, ite_le_f, ite_eq_t, ite_eq_f, ck_inb, nI_add, sb_nI, mu_nI, nI_clamp, sO_at, sO_sO, Nat.add_sub_cancel, Nat.zero_add, Nat.add_zero, li_0, li_1, li_2, li_3, li_4, li_5, li_6, li_7, li_8, li_9, li_10, li_11, li_12, li_16, li_20, li_24, li_31, li_32, li_48, li_49, li_73, li_74, li_75, li_97, li_98, li_99, li_100, li_101, li_109, li_110, li_255, li_680, li_700, li_9999, li_65536, li_65537, ← e, b1, c1, c3, m_good]
theorem q_fitAt {x : Int32} : Qw (fun w => fX9_fitAt w x) (fun nd w => fX11_fitAt nd w x) := by
  intro d hd
  cases d with
  | none =>
    refine ⟨m1, 1, by omega, by omega, fun w q hq hp hX => ⟨w, XS.rf, ?_⟩, fun nd w w1 e hM => ⟨w1, SW.rf, ?_⟩⟩
    · unfold fX9_fitAt
      simp (disch := omega) only [↓mo_1, ↓mo_2, ad_m1, ite_m1_lt, ite_m2_lt, ite_le_m1, ite_eq_m1, ite_eq_m2, ite_m1_m1, ite_m2_m2, ite_T, ite_F, ite_nz, ite_zz, ite_m1_le, ite_m1_eq, oi_none, oi_some, ob_some, lw_def, ck_true, ckp_su, ite_lt_t, ite_lt_f, ite_le_t, ite_le_f, ite_eq_t, ite_eq_f, ck_inb, nI_add, sb_nI, mu_nI, nI_clamp, sO_at, sO_sO, Nat.add_sub_cancel, Nat.zero_add, Nat.add_zero, li_0, li_1, li_2, li_3, li_4, li_5, li_6, li_7, li_8, li_9, li_10, li_11, li_12, li_16, li_20, li_24, li_31, li_32, li_48, li_49, li_73, li_74, li_75, li_97, li_98, li_99, li_100, li_101, li_109, li_110, li_255, li_680, li_700, li_9999, li_65536, li_65537, x_hD0 hp hq hX.1.1, x_refuse]
    · unfold fX11_fitAt
      simp (disch := omega) only [↓mo_1, ↓mo_2, ad_m1, ite_m1_lt, ite_m2_lt, ite_le_m1, ite_eq_m1, ite_eq_m2, ite_m1_m1, ite_m2_m2, ite_T, ite_F, ite_nz, ite_zz, ite_m1_le, ite_m1_eq, oi_none, oi_some, ob_some, lw_def, ck_true, ckp_su, ite_lt_t, ite_lt_f, ite_le_t, ite_le_f, ite_eq_t, ite_eq_f, ck_inb, nI_add, sb_nI, mu_nI, nI_clamp, sO_at, sO_sO, Nat.add_sub_cancel, Nat.zero_add, Nat.add_zero, li_0, li_1, li_2, li_3, li_4, li_5, li_6, li_7, li_8, li_9, li_10, li_11, li_12, li_16, li_20, li_24, li_31, li_32, li_48, li_49, li_73, li_74, li_75, li_97, li_98, li_99, li_100, li_101, li_109, li_110, li_255, li_680, li_700, li_9999, li_65536, li_65537, ← e, show (w1 11 0).2.2.1 3 = 0 from hM, m_refused]
  | some z =>
    obtain ⟨D, T, s, h, im⟩ := z
    obtain ⟨hD, h6, hT, hW, hQ, hH, hI⟩ := hd
    have h48 := hD.2.2.2.1
    have hb1 := hD.1
    have h1 := fa_1 (D := D) (T := T)
    have h16 := fa_16 hT
    have hp2 := p2_16 hT.2.2.1.1
    have hl : aln 1 0 0 = 16 := rfl
    rcases rng x (show (fitA D T).1 < 2 ^ 31 by omega) with ⟨i, hi, rfl⟩ | hx
    · have hf : fdX D T (nI i) (2 ^ T.2.2.1.1) = nI ((fitA D T).2 i) := fd_in _ hp2.2 hi
      have hlt : (fitA D T).2 i < 2 ^ T.2.2.1.1 := fl_lt i hi
      refine ⟨nI ((fitA D T).2 i), 0, by omega, by omega, fun w q hq hp hX => ⟨w, XS.rf, ?_⟩, fun nd w w1 e ⟨d, b1, b2, b3, b4, b5, b6⟩ => ?_⟩
      · have e1 := hX.2.2.2.1.2 i hi
        unfold fX9_fitAt
        simp (disch := omega) only [↓mo_1, ↓mo_2, ad_m1, ite_m1_lt, ite_m2_lt, ite_le_m1, ite_eq_m1, ite_eq_m2, ite_m1_m1, ite_m2_m2, ite_T, ite_F, ite_nz, ite_zz, ite_m1_le, ite_m1_eq, oi_none, oi_some, ob_some, lw_def, ck_true, ckp_su, ite_lt_t, ite_lt_f, ite_le_t, ite_le_f, ite_eq_t, ite_eq_f, ck_inb, nI_add, sb_nI, mu_nI, nI_clamp, sO_at, sO_sO, Nat.add_sub_cancel, Nat.zero_add, Nat.add_zero, li_0, li_1, li_2, li_3, li_4, li_5, li_6, li_7, li_8, li_9, li_10, li_11, li_12, li_16, li_20, li_24, li_31, li_32, li_48, li_49, li_73, li_74, li_75, li_97, li_98, li_99, li_100, li_101, li_109, li_110, li_255, li_680, li_700, li_9999, li_65536, li_65537, x_hD1 hp hq hX.1.2.2.1 hD.1 (by omega), hX.2.2.2.1.1, at_in, e1, x_accept]
      · obtain ⟨w2, c1, c2, c3, c4, c5, c6⟩ := m_fitting (x := nI i) hD hT b2 b1 b3 b4
        rw [hf] at c1
        refine ⟨w2, c2, ?_⟩
        unfold fX11_fitAt
        simp (disch := omega) only [↓mo_1, ↓mo_2, ad_m1, ite_m1_lt, ite_m2_lt, ite_le_m1, ite_eq_m1, ite_eq_m2, ite_m1_m1, ite_m2_m2, ite_T, ite_F, ite_nz, ite_zz, ite_m1_le, ite_m1_eq, oi_none, oi_some, ob_some, lw_def, ck_true, ckp_su, ite_lt_t, ite_lt_f, ite_le_t, ite_le_f, ite_eq_t, ite_eq_f, ck_inb, nI_add, sb_nI, mu_nI, nI_clamp, sO_at, sO_sO, Nat.add_sub_cancel, Nat.zero_add, Nat.add_zero, li_0, li_1, li_2, li_3, li_4, li_5, li_6, li_7, li_8, li_9, li_10, li_11, li_12, li_16, li_20, li_24, li_31, li_32, li_48, li_49, li_73, li_74, li_75, li_97, li_98, li_99, li_100, li_101, li_109, li_110, li_255, li_680, li_700, li_9999, li_65536, li_65537, ← e, b1, c1, m_good]
    · have hx2 : x < nI 0 ∨ ¬ x < nI 0 ∧ nI (ctp (fitB D T) (2 ^ T.2.2.1.1)) ≤ x := by rw [← h1]; exact hx
      have hf : fdX D T x (2 ^ T.2.2.1.1) = m1 := fd_out hx2 hp2.2 _ (Nat.le_refl _)
      have hxX : ∀ w q, q < 2 → (w 9 0).2.2.1 2 = q + 1 → XD w q (some (D, T, s, h, im)) → fX9_fitAt w x = some (m1, sI w 9 0 13 (nI 1)) := fun w q hq hp hX => by
        unfold fX9_fitAt
        simp (disch := omega) only [↓mo_1, ↓mo_2, ad_m1, ite_m1_lt, ite_m2_lt, ite_le_m1, ite_eq_m1, ite_eq_m2, ite_m1_m1, ite_m2_m2, ite_T, ite_F, ite_nz, ite_zz, ite_m1_le, ite_m1_eq, oi_none, oi_some, ob_some, lw_def, ck_true, ckp_su, ite_lt_t, ite_lt_f, ite_le_t, ite_le_f, ite_eq_t, ite_eq_f, ck_inb, nI_add, sb_nI, mu_nI, nI_clamp, sO_at, sO_sO, Nat.add_sub_cancel, Nat.zero_add, Nat.add_zero, li_0, li_1, li_2, li_3, li_4, li_5, li_6, li_7, li_8, li_9, li_10, li_11, li_12, li_16, li_20, li_24, li_31, li_32, li_48, li_49, li_73, li_74, li_75, li_97, li_98, li_99, li_100, li_101, li_109, li_110, li_255, li_680, li_700, li_9999, li_65536, li_65537, x_hD1 hp hq hX.1.2.2.1 hD.1 (by omega), hX.2.2.2.1.1, x_refuse]
        rcases hx with hx | ⟨hx, hy⟩
        · exact if_pos hx
        · refine (if_neg hx).trans (if_neg ?_)
          rw [Int32.le_iff_toInt_le] at hy
          rw [Int32.lt_iff_toInt_lt]
          omega
      by_cases h0 : x < nI 0
      · refine ⟨m1, 1, by omega, by omega, fun w q hq hp hX => ⟨w, XS.rf, hxX w q hq hp hX⟩, fun nd w w1 e ⟨d, b1, b2, b3, b4, b5, b6⟩ => ⟨w1, SW.rf, ?_⟩⟩
        have h0' : ¬ nI 0 ≤ x := by
          rw [Int32.lt_iff_toInt_lt] at h0
          rw [Int32.le_iff_toInt_le]
          omega
        unfold fX11_fitAt
        simp (disch := omega) only [↓mo_1, ↓mo_2, ad_m1, ite_m1_lt, ite_m2_lt, ite_le_m1, ite_eq_m1, ite_eq_m2, ite_m1_m1, ite_m2_m2, ite_T, ite_F, ite_nz, ite_zz, ite_m1_le, ite_m1_eq, oi_none, oi_some, ob_some, lw_def, ck_true, ckp_su, ite_lt_t, ite_lt_f, ite_le_t, ite_le_f, ite_eq_t, ite_eq_f, ck_inb, nI_add, sb_nI, mu_nI, nI_clamp, sO_at, sO_sO, Nat.add_sub_cancel, Nat.zero_add, Nat.add_zero, li_0, li_1, li_2, li_3, li_4, li_5, li_6, li_7, li_8, li_9, li_10, li_11, li_12, li_16, li_20, li_24, li_31, li_32, li_48, li_49, li_73, li_74, li_75, li_97, li_98, li_99, li_100, li_101, li_109, li_110, li_255, li_680, li_700, li_9999, li_65536, li_65537, ← e, b1, m_refused]
        exact if_neg h0'
      · refine ⟨m1, 1, by omega, by omega, fun w q hq hp hX => ⟨w, XS.rf, hxX w q hq hp hX⟩, fun nd w w1 e ⟨d, b1, b2, b3, b4, b5, b6⟩ => ?_⟩
        have h0' : nI 0 ≤ x := by
          rw [Int32.lt_iff_toInt_lt] at h0
          rw [Int32.le_iff_toInt_le]
          omega
        obtain ⟨w2, c1, c2, c3, c4, c5, c6⟩ := m_fitting (x := x) hD hT b2 b1 b3 b4
        rw [hf] at c1
        refine ⟨w2, c2, ?_⟩
        unfold fX11_fitAt
        simp (disch := omega) only [↓mo_1, ↓mo_2, ad_m1, ite_m1_lt, ite_m2_lt, ite_le_m1, ite_eq_m1, ite_eq_m2, ite_m1_m1, ite_m2_m2, ite_T, ite_F, ite_nz, ite_zz, ite_m1_le, ite_m1_eq, oi_none, oi_some, ob_some, lw_def, ck_true, ckp_su, ite_lt_t, ite_lt_f, ite_le_t, ite_le_f, ite_eq_t, ite_eq_f, ck_inb, nI_add, sb_nI, mu_nI, nI_clamp, sO_at, sO_sO, Nat.add_sub_cancel, Nat.zero_add, Nat.add_zero, li_0, li_1, li_2, li_3, li_4, li_5, li_6, li_7, li_8, li_9, li_10, li_11, li_12, li_16, li_20, li_24, li_31, li_32, li_48, li_49, li_73, li_74, li_75, li_97, li_98, li_99, li_100, li_101, li_109, li_110, li_255, li_680, li_700, li_9999, li_65536, li_65537, ← e, b1, c1, m_refused]
        exact if_pos h0'
