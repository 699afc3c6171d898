/-! ===== write, clean, cut, recover ===== -/
theorem li_9999' : (9999 : Int32) = nI 9999 := id rfl
section ACT
variable {D : Dk} {T : Tk} {s : Sd} {h im : Nat × (Nat → Sd)} {nd : Nat}
/-- the new disk's part is fit -/
theorem dok_act {s2 : Sd} (hd : DOK (some (D, T, s, h, im))) (h1 : WFS D s2) (h2 : QT s2) : DOK (some (D, T, s2, hpu h s, im)) := by
  obtain ⟨hD, h6, hT, hW, hQ, hH, hI⟩ := hd
  exact ⟨hD, h6, hT, h1, h2, hpu_ok hH.1 hH.2 hW hQ, hI⟩
theorem c_write {x y : Int32} : Ac (fun w => fX9_write w x y) (fun nd w => fX11_write nd w x y) := by
  intro d hd
  cases d with
  | none =>
    refine Or.inl ⟨m1, 1, by omega, by omega, fun w q hq hp hX => ⟨w, XS.rf, ?_⟩, fun nd w w1 e hM => ⟨w1, SM.rf, ?_⟩⟩
    · unfold fX9_write
      simp (disch := omega) only [↓mo_1, ↓mo_2, ad_m1, ite_m1_lt, ite_m2_lt, ite_le_m1, ite_eq_m1, ite_eq_m2, ite_m1_m1, ite_m2_m2, ite_T, ite_F, ite_nz, ite_zz, ite_m1_le, ite_m1_eq, oi_none, oi_some, ob_some, lw_def, ck_true, ckp_su, ite_lt_t, ite_lt_f, ite_le_t, ite_le_f, ite_eq_t, ite_eq_f, ck_inb, nI_add, sb_nI, mu_nI, nI_clamp, sO_at, sO_sO, Nat.add_sub_cancel, Nat.zero_add, Nat.add_zero, li_0, li_1, li_2, li_3, li_4, li_5, li_6, li_7, li_8, li_9, li_10, li_11, li_12, li_16, li_20, li_24, li_31, li_32, li_48, li_49, li_73, li_74, li_75, li_97, li_98, li_99, li_100, li_101, li_109, li_110, li_255, li_680, li_700, li_9999, li_65536, li_65537, x_hT0 hp hq hX.1.2.1 (n_z x), x_refuse]
    · unfold fX11_write
      simp (disch := omega) only [↓mo_1, ↓mo_2, ad_m1, ite_m1_lt, ite_m2_lt, ite_le_m1, ite_eq_m1, ite_eq_m2, ite_m1_m1, ite_m2_m2, ite_T, ite_F, ite_nz, ite_zz, ite_m1_le, ite_m1_eq, oi_none, oi_some, ob_some, lw_def, ck_true, ckp_su, ite_lt_t, ite_lt_f, ite_le_t, ite_le_f, ite_eq_t, ite_eq_f, ck_inb, nI_add, sb_nI, mu_nI, nI_clamp, sO_at, sO_sO, Nat.add_sub_cancel, Nat.zero_add, Nat.add_zero, li_0, li_1, li_2, li_3, li_4, li_5, li_6, li_7, li_8, li_9, li_10, li_11, li_12, li_16, li_20, li_24, li_31, li_32, li_48, li_49, li_73, li_74, li_75, li_97, li_98, li_99, li_100, li_101, li_109, li_110, li_255, li_680, li_700, li_9999, li_65536, li_65537, ← e, m_iT0 (show (w1 11 0).2.2.1 3 = 0 from hM), m_refused]
  | some z =>
    obtain ⟨D, T, s, h, im⟩ := z
    have hd' := hd
    obtain ⟨hD, h6, hT, hW, hQ, hH, hI⟩ := hd'
    have h48 := hD.2.2.2.1
    rcases rng x (show dnt D < 2 ^ 31 by omega) with ⟨t, ht, rfl⟩ | hx
    · rcases rng2 y (show 0 < 2 ^ 31 by omega) (show 9999 < 2 ^ 31 by omega) with ⟨v, -, hv, rfl⟩ | hy
      · cases hdn : sdn s with
        | true =>
          refine Or.inl ⟨m1, 5, by omega, by omega, fun w q hq hp hX => ⟨w, XS.rf, ?_⟩, fun nd w w1 e ⟨d, b1, b2, b3, b4, b5, b6⟩ => ⟨w1, SM.rf, ?_⟩⟩
          · have h8 : (w 7 0).1 8 = nI 1 := by rw [hX.2.2.1.2.2.2.2.2.2.2.2.1, hdn]; rfl
            unfold fX9_write
            simp (disch := omega) only [↓mo_1, ↓mo_2, ad_m1, ite_m1_lt, ite_m2_lt, ite_le_m1, ite_eq_m1, ite_eq_m2, ite_m1_m1, ite_m2_m2, ite_T, ite_F, ite_nz, ite_zz, ite_m1_le, ite_m1_eq, oi_none, oi_some, ob_some, lw_def, ck_true, ckp_su, ite_lt_t, ite_lt_f, ite_le_t, ite_le_f, ite_eq_t, ite_eq_f, ck_inb, nI_add, sb_nI, mu_nI, nI_clamp, sO_at, sO_sO, Nat.add_sub_cancel, Nat.zero_add, Nat.add_zero, li_0, li_1, li_2, li_3, li_4, li_5, li_6, li_7, li_8, li_9, li_10, li_11, li_12, li_16, li_20, li_24, li_31, li_32, li_48, li_49, li_73, li_74, li_75, li_97, li_98, li_99, li_100, li_101, li_109, li_110, li_255, li_680, li_700, li_9999, li_65536, li_65537, x_hT1 hp hq hX.1.2.2.2.1, h8, x_refuse]
          · unfold fX11_write
            simp (disch := omega) only [↓mo_1, ↓mo_2, ad_m1, ite_m1_lt, ite_m2_lt, ite_le_m1, ite_eq_m1, ite_eq_m2, ite_m1_m1, ite_m2_m2, ite_T, ite_F, ite_nz, ite_zz, ite_m1_le, ite_m1_eq, oi_none, oi_some, ob_some, lw_def, ck_true, ckp_su, ite_lt_t, ite_lt_f, ite_le_t, ite_le_f, ite_eq_t, ite_eq_f, ck_inb, nI_add, sb_nI, mu_nI, nI_clamp, sO_at, sO_sO, Nat.add_sub_cancel, Nat.zero_add, Nat.add_zero, li_0, li_1, li_2, li_3, li_4, li_5, li_6, li_7, li_8, li_9, li_10, li_11, li_12, li_16, li_20, li_24, li_31, li_32, li_48, li_49, li_73, li_74, li_75, li_97, li_98, li_99, li_100, li_101, li_109, li_110, li_255, li_680, li_700, li_9999, li_65536, li_65537, ← e, m_iT1 b1 b2 b4.1, m_in1, m_isDown1 b5 hdn, m_refused]
        | false =>
          obtain ⟨j0, jf0⟩ := hQ hdn
          obtain ⟨a1, a2, a3, a4, a5⟩ := ad_wf (t := t) (x := nI v) hD hW j0 jf0 ht
          have hrm := (rm_wf hD hW j0 jf0).1.n24 hD
          have hsn : sn (adS D s t (nI v)) = sn (rmS D s) + 1 := rfl
          refine Or.inr ⟨nI (sn (rmS D s)), some (D, T, adS D s t (nI v), hpu h s, im), dok_act hd a1 (fun _ => ⟨a2, a3⟩), fun w q hq hp hX => ?_, fun nd w w1 e hM => ?_⟩
          · have h8 : (w 7 0).1 8 = nI 0 := by rw [hX.2.2.1.2.2.2.2.2.2.2.2.1, hdn]; rfl
            obtain ⟨w2, e1, e2, e3, e4, e5⟩ := x_kept hD hW hH.1 hI.1 hq hX
            obtain ⟨o, f1, f2, -⟩ := x_addEntry (w := w2) (j := 0) (a := q) hD (by rw [e3]; exact hX.1) hW e4 j0 jf0 (t := t) (x := nI v)
            rw [sO_id] at f1
            have hp2 : (w2 9 0).2.2.1 2 = q + 1 := by rw [e2]; exact hp
            obtain ⟨g1, g2⟩ := e5 o _ f2
            refine ⟨sO w2 7 0 o, g2, g1, ?_⟩
            unfold fX9_write
            simp (disch := omega) only [↓mo_1, ↓mo_2, ad_m1, ite_m1_lt, ite_m2_lt, ite_le_m1, ite_eq_m1, ite_eq_m2, ite_m1_m1, ite_m2_m2, ite_T, ite_F, ite_nz, ite_zz, ite_m1_le, ite_m1_eq, oi_none, oi_some, ob_some, lw_def, ck_true, ckp_su, ite_lt_t, ite_lt_f, ite_le_t, ite_le_f, ite_eq_t, ite_eq_f, ck_inb, nI_add, sb_nI, mu_nI, nI_clamp, sO_at, sO_sO, Nat.add_sub_cancel, Nat.zero_add, Nat.add_zero, li_0, li_1, li_2, li_3, li_4, li_5, li_6, li_7, li_8, li_9, li_10, li_11, li_12, li_16, li_20, li_24, li_31, li_32, li_48, li_49, li_73, li_74, li_75, li_97, li_98, li_99, li_100, li_101, li_109, li_110, li_255, li_680, li_700, li_9999, li_65536, li_65537, x_hT1 hp hq hX.1.2.2.2.1, h8, e1, hp2, f1, f2.2.1, hsn, x_accept]
          · have hM' := hM
            obtain ⟨d, b1, b2, b3, b4, b5, b6, b7, b8, b9⟩ := hM'
            obtain ⟨w2, g, c1, c2, c3, c4, c5, c6⟩ := m_remembers hD hW hH.1 (fun i hi => (hH.2 i hi).1) b2 b1 b3 b5 b6 b7
            obtain ⟨g2, f1, f2⟩ := m_writes hD c2 hW c3 j0 jf0 (t := t) (x := nI v)
            obtain ⟨w4, k1, k2, k3⟩ := m_act (v := nI (sn (rmS D s))) (w3 := mC w2 (cl1 D s ((w2 11 0).1 25))) hD a1 hM (c4.tr SM.c.sh) (by rw [mC_i (by decide)]; exact c5) (by rw [mC_2]; exact c6) f2
            refine ⟨w4, k2, k3, ?_⟩
            unfold fX11_write
            simp (disch := omega) only [↓mo_1, ↓mo_2, ad_m1, ite_m1_lt, ite_m2_lt, ite_le_m1, ite_eq_m1, ite_eq_m2, ite_m1_m1, ite_m2_m2, ite_T, ite_F, ite_nz, ite_zz, ite_m1_le, ite_m1_eq, oi_none, oi_some, ob_some, lw_def, ck_true, ckp_su, ite_lt_t, ite_lt_f, ite_le_t, ite_le_f, ite_eq_t, ite_eq_f, ck_inb, nI_add, sb_nI, mu_nI, nI_clamp, sO_at, sO_sO, Nat.add_sub_cancel, Nat.zero_add, Nat.add_zero, li_0, li_1, li_2, li_3, li_4, li_5, li_6, li_7, li_8, li_9, li_10, li_11, li_12, li_16, li_20, li_24, li_31, li_32, li_48, li_49, li_73, li_74, li_75, li_97, li_98, li_99, li_100, li_101, li_109, li_110, li_255, li_680, li_700, li_9999, li_65536, li_65537, ← e, m_iT1 b1 b2 b4.1, m_in1, m_isDown0 b5 hdn, c1, f1, k1]
      · refine Or.inl ⟨m1, 2, by omega, by omega, fun w q hq hp hX => ⟨w, XS.rf, ?_⟩, fun nd w w1 e ⟨d, b1, b2, b3, b4, b5, b6⟩ => ⟨w1, SM.rf, ?_⟩⟩
        · unfold fX9_write
          simp (disch := omega) only [↓mo_1, ↓mo_2, ad_m1, ite_m1_lt, ite_m2_lt, ite_le_m1, ite_eq_m1, ite_eq_m2, ite_m1_m1, ite_m2_m2, ite_T, ite_F, ite_nz, ite_zz, ite_m1_le, ite_m1_eq, oi_none, oi_some, ob_some, lw_def, ck_true, ckp_su, ite_lt_t, ite_lt_f, ite_le_t, ite_le_f, ite_eq_t, ite_eq_f, ck_inb, nI_add, sb_nI, mu_nI, nI_clamp, sO_at, sO_sO, Nat.add_sub_cancel, Nat.zero_add, Nat.add_zero, li_0, li_1, li_2, li_3, li_4, li_5, li_6, li_7, li_8, li_9, li_10, li_11, li_12, li_16, li_20, li_24, li_31, li_32, li_48, li_49, li_73, li_74, li_75, li_97, li_98, li_99, li_100, li_101, li_109, li_110, li_255, li_680, li_700, li_9999, li_65536, li_65537, x_hT1 hp hq hX.1.2.2.2.1, x_refuse]
          exact ite_r2 hy
        · unfold fX11_write
          simp (disch := omega) only [↓mo_1, ↓mo_2, ad_m1, ite_m1_lt, ite_m2_lt, ite_le_m1, ite_eq_m1, ite_eq_m2, ite_m1_m1, ite_m2_m2, ite_T, ite_F, ite_nz, ite_zz, ite_m1_le, ite_m1_eq, oi_none, oi_some, ob_some, lw_def, ck_true, ckp_su, ite_lt_t, ite_lt_f, ite_le_t, ite_le_f, ite_eq_t, ite_eq_f, ck_inb, nI_add, sb_nI, mu_nI, nI_clamp, sO_at, sO_sO, Nat.add_sub_cancel, Nat.zero_add, Nat.add_zero, li_0, li_1, li_2, li_3, li_4, li_5, li_6, li_7, li_8, li_9, li_10, li_11, li_12, li_16, li_20, li_24, li_31, li_32, li_48, li_49, li_73, li_74, li_75, li_97, li_98, li_99, li_100, li_101, li_109, li_110, li_255, li_680, li_700, li_9999, li_65536, li_65537, ← e, m_iT1 b1 b2 b4.1, m_inO hy, m_refused]
    · refine Or.inl ⟨m1, 1, by omega, by omega, fun w q hq hp hX => ⟨w, XS.rf, ?_⟩, fun nd w w1 e ⟨d, b1, b2, b3, b4, b5, b6⟩ => ⟨w1, SM.rf, ?_⟩⟩
      · unfold fX9_write
        simp (disch := omega) only [↓mo_1, ↓mo_2, ad_m1, ite_m1_lt, ite_m2_lt, ite_le_m1, ite_eq_m1, ite_eq_m2, ite_m1_m1, ite_m2_m2, ite_T, ite_F, ite_nz, ite_zz, ite_m1_le, ite_m1_eq, oi_none, oi_some, ob_some, lw_def, ck_true, ckp_su, ite_lt_t, ite_lt_f, ite_le_t, ite_le_f, ite_eq_t, ite_eq_f, ck_inb, nI_add, sb_nI, mu_nI, nI_clamp, sO_at, sO_sO, Nat.add_sub_cancel, Nat.zero_add, Nat.add_zero, li_0, li_1, li_2, li_3, li_4, li_5, li_6, li_7, li_8, li_9, li_10, li_11, li_12, li_16, li_20, li_24, li_31, li_32, li_48, li_49, li_73, li_74, li_75, li_97, li_98, li_99, li_100, li_101, li_109, li_110, li_255, li_680, li_700, li_9999, li_65536, li_65537, x_hT0 hp hq hX.1.2.2.2.1 hx, x_refuse]
      · unfold fX11_write
        simp (disch := omega) only [↓mo_1, ↓mo_2, ad_m1, ite_m1_lt, ite_m2_lt, ite_le_m1, ite_eq_m1, ite_eq_m2, ite_m1_m1, ite_m2_m2, ite_T, ite_F, ite_nz, ite_zz, ite_m1_le, ite_m1_eq, oi_none, oi_some, ob_some, lw_def, ck_true, ckp_su, ite_lt_t, ite_lt_f, ite_le_t, ite_le_f, ite_eq_t, ite_eq_f, ck_inb, nI_add, sb_nI, mu_nI, nI_clamp, sO_at, sO_sO, Nat.add_sub_cancel, Nat.zero_add, Nat.add_zero, li_0, li_1, li_2, li_3, li_4, li_5, li_6, li_7, li_8, li_9, li_10, li_11, li_12, li_16, li_20, li_24, li_31, li_32, li_48, li_49, li_73, li_74, li_75, li_97, li_98, li_99, li_100, li_101, li_109, li_110, li_255, li_680, li_700, li_9999, li_65536, li_65537, ← e, m_iT b1 b2 b4.1 hx, m_refused]
theorem c_clean {x : Int32} : Ac (fun w => fX9_clean w x) (fun nd w => fX11_clean nd w x) := by
  intro d hd
  cases d with
  | none =>
    refine Or.inl ⟨m1, 1, by omega, by omega, fun w q hq hp hX => ⟨w, XS.rf, ?_⟩, fun nd w w1 e hM => ⟨w1, SM.rf, ?_⟩⟩
    · unfold fX9_clean
      simp (disch := omega) only [↓mo_1, ↓mo_2, ad_m1, ite_m1_lt, ite_m2_lt, ite_le_m1, ite_eq_m1, ite_eq_m2, ite_m1_m1, ite_m2_m2, ite_T, ite_F, ite_nz, ite_zz, ite_m1_le, ite_m1_eq, oi_none, oi_some, ob_some, lw_def, ck_true, ckp_su, ite_lt_t, ite_lt_f, ite_le_t, ite_le_f, ite_eq_t, ite_eq_f, ck_inb, nI_add, sb_nI, mu_nI, nI_clamp, sO_at, sO_sO, Nat.add_sub_cancel, Nat.zero_add, Nat.add_zero, li_0, li_1, li_2, li_3, li_4, li_5, li_6, li_7, li_8, li_9, li_10, li_11, li_12, li_16, li_20, li_24, li_31, li_32, li_48, li_49, li_73, li_74, li_75, li_97, li_98, li_99, li_100, li_101, li_109, li_110, li_255, li_680, li_700, li_9999, li_65536, li_65537, x_hB0 hp hq hX.1.1 (n_z x), x_refuse]
    · unfold fX11_clean
      simp (disch := omega) only [↓mo_1, ↓mo_2, ad_m1, ite_m1_lt, ite_m2_lt, ite_le_m1, ite_eq_m1, ite_eq_m2, ite_m1_m1, ite_m2_m2, ite_T, ite_F, ite_nz, ite_zz, ite_m1_le, ite_m1_eq, oi_none, oi_some, ob_some, lw_def, ck_true, ckp_su, ite_lt_t, ite_lt_f, ite_le_t, ite_le_f, ite_eq_t, ite_eq_f, ck_inb, nI_add, sb_nI, mu_nI, nI_clamp, sO_at, sO_sO, Nat.add_sub_cancel, Nat.zero_add, Nat.add_zero, li_0, li_1, li_2, li_3, li_4, li_5, li_6, li_7, li_8, li_9, li_10, li_11, li_12, li_16, li_20, li_24, li_31, li_32, li_48, li_49, li_73, li_74, li_75, li_97, li_98, li_99, li_100, li_101, li_109, li_110, li_255, li_680, li_700, li_9999, li_65536, li_65537, ← e, m_iB0 (show (w1 11 0).2.2.1 3 = 0 from hM), m_refused]
  | some z =>
    obtain ⟨D, T, s, h, im⟩ := z
    have hd' := hd
    obtain ⟨hD, h6, hT, hW, hQ, hH, hI⟩ := hd'
    have h24 := hW.n24 hD
    rcases rng x (show D.1 < 2 ^ 31 by omega) with ⟨b, hb, rfl⟩ | hx
    · cases hdn : sdn s with
      | true =>
        refine Or.inl ⟨m1, 5, by omega, by omega, fun w q hq hp hX => ⟨w, XS.rf, ?_⟩, fun nd w w1 e ⟨d, b1, b2, b3, b4, b5, b6⟩ => ⟨w1, SM.rf, ?_⟩⟩
        · have h8 : (w 7 0).1 8 = nI 1 := by rw [hX.2.2.1.2.2.2.2.2.2.2.2.1, hdn]; rfl
          unfold fX9_clean
          simp (disch := omega) only [↓mo_1, ↓mo_2, ad_m1, ite_m1_lt, ite_m2_lt, ite_le_m1, ite_eq_m1, ite_eq_m2, ite_m1_m1, ite_m2_m2, ite_T, ite_F, ite_nz, ite_zz, ite_m1_le, ite_m1_eq, oi_none, oi_some, ob_some, lw_def, ck_true, ckp_su, ite_lt_t, ite_lt_f, ite_le_t, ite_le_f, ite_eq_t, ite_eq_f, ck_inb, nI_add, sb_nI, mu_nI, nI_clamp, sO_at, sO_sO, Nat.add_sub_cancel, Nat.zero_add, Nat.add_zero, li_0, li_1, li_2, li_3, li_4, li_5, li_6, li_7, li_8, li_9, li_10, li_11, li_12, li_16, li_20, li_24, li_31, li_32, li_48, li_49, li_73, li_74, li_75, li_97, li_98, li_99, li_100, li_101, li_109, li_110, li_255, li_680, li_700, li_9999, li_65536, li_65537, x_hB1 hp hq hX.1.2.2.1, h8, x_refuse]
        · unfold fX11_clean
          simp (disch := omega) only [↓mo_1, ↓mo_2, ad_m1, ite_m1_lt, ite_m2_lt, ite_le_m1, ite_eq_m1, ite_eq_m2, ite_m1_m1, ite_m2_m2, ite_T, ite_F, ite_nz, ite_zz, ite_m1_le, ite_m1_eq, oi_none, oi_some, ob_some, lw_def, ck_true, ckp_su, ite_lt_t, ite_lt_f, ite_le_t, ite_le_f, ite_eq_t, ite_eq_f, ck_inb, nI_add, sb_nI, mu_nI, nI_clamp, sO_at, sO_sO, Nat.add_sub_cancel, Nat.zero_add, Nat.add_zero, li_0, li_1, li_2, li_3, li_4, li_5, li_6, li_7, li_8, li_9, li_10, li_11, li_12, li_16, li_20, li_24, li_31, li_32, li_48, li_49, li_73, li_74, li_75, li_97, li_98, li_99, li_100, li_101, li_109, li_110, li_255, li_680, li_700, li_9999, li_65536, li_65537, ← e, m_iB1 b1 b2 b3.2.2.1, m_isDown1 b5 hdn, m_refused]
      | false =>
        obtain ⟨j0, jf0⟩ := hQ hdn
        obtain ⟨a1, a2, a3, a4, a5⟩ := cl_wf hD hW hb j0 jf0
        refine Or.inr ⟨nI (cB D s b), some (D, T, clS D s b, hpu h s, im), dok_act hd a1 (fun _ => ⟨a2, a3⟩), fun w q hq hp hX => ?_, fun nd w w1 e hM => ?_⟩
        · have h8 : (w 7 0).1 8 = nI 0 := by rw [hX.2.2.1.2.2.2.2.2.2.2.2.1, hdn]; rfl
          obtain ⟨w2, e1, e2, e3, e4, e5⟩ := x_kept hD hW hH.1 hI.1 hq hX
          have hS2 : RSh (w2 5 q) D := by rw [e3]; exact hX.1
          obtain ⟨o, f1, f2, -⟩ := x_doSteps (w := w2) (j := 0) (a := q) hD hS2 hW e4 hb (Nat.le_refl _) j0 jf0
          rw [sO_id] at f1
          have hp2 : (w2 9 0).2.2.1 2 = q + 1 := by rw [e2]; exact hp
          obtain ⟨g1, g2⟩ := e5 o _ f2
          refine ⟨sO w2 7 0 o, g2, g1, ?_⟩
          have e6 : sn s - sn (spS D s b (2 * D.2.1 b + 2)) = cB D s b := by
            have : sn (spS D s b (2 * D.2.1 b + 2)) + cB D s b = sn s := a5
            omega
          have e7 : sn (spS D s b (2 * D.2.1 b + 2)) ≤ sn s := by
            have : sn (spS D s b (2 * D.2.1 b + 2)) + cB D s b = sn s := a5
            omega
          unfold fX9_clean
          simp (disch := omega) only [↓mo_1, ↓mo_2, ad_m1, ite_m1_lt, ite_m2_lt, ite_le_m1, ite_eq_m1, ite_eq_m2, ite_m1_m1, ite_m2_m2, ite_T, ite_F, ite_nz, ite_zz, ite_m1_le, ite_m1_eq, oi_none, oi_some, ob_some, lw_def, ck_true, ckp_su, ite_lt_t, ite_lt_f, ite_le_t, ite_le_f, ite_eq_t, ite_eq_f, ck_inb, nI_add, sb_nI, mu_nI, nI_clamp, sO_at, sO_sO, Nat.add_sub_cancel, Nat.zero_add, Nat.add_zero, li_0, li_1, li_2, li_3, li_4, li_5, li_6, li_7, li_8, li_9, li_10, li_11, li_12, li_16, li_20, li_24, li_31, li_32, li_48, li_49, li_73, li_74, li_75, li_97, li_98, li_99, li_100, li_101, li_109, li_110, li_255, li_680, li_700, li_9999, li_65536, li_65537, x_hB1 hp hq hX.1.2.2.1, h8, e1, hp2, e4.2.1, x_stepsOf hS2 hD hb, f1, f2.2.1, e6, x_accept]
        · have hM' := hM
          obtain ⟨d, b1, b2, b3, b4, b5, b6, b7, b8, b9⟩ := hM'
          obtain ⟨w2, g, c1, c2, c3, c4, c5, c6⟩ := m_remembers hD hW hH.1 (fun i hi => (hH.2 i hi).1) b2 b1 b3 b5 b6 b7
          obtain ⟨g2, f1, f2⟩ := m_cleans hD c2 hW c3 j0 jf0 hb
          obtain ⟨w4, k1, k2, k3⟩ := m_act (v := nI (cB D s b)) (w3 := mC w2 ((w2 11 0).1 25 + nI 1)) hD a1 hM (c4.tr SM.c.sh) (by rw [mC_i (by decide)]; exact c5) (by rw [mC_2]; exact c6) f2
          refine ⟨w4, k2, k3, ?_⟩
          unfold fX11_clean
          simp (disch := omega) only [↓mo_1, ↓mo_2, ad_m1, ite_m1_lt, ite_m2_lt, ite_le_m1, ite_eq_m1, ite_eq_m2, ite_m1_m1, ite_m2_m2, ite_T, ite_F, ite_nz, ite_zz, ite_m1_le, ite_m1_eq, oi_none, oi_some, ob_some, lw_def, ck_true, ckp_su, ite_lt_t, ite_lt_f, ite_le_t, ite_le_f, ite_eq_t, ite_eq_f, ck_inb, nI_add, sb_nI, mu_nI, nI_clamp, sO_at, sO_sO, Nat.add_sub_cancel, Nat.zero_add, Nat.add_zero, li_0, li_1, li_2, li_3, li_4, li_5, li_6, li_7, li_8, li_9, li_10, li_11, li_12, li_16, li_20, li_24, li_31, li_32, li_48, li_49, li_73, li_74, li_75, li_97, li_98, li_99, li_100, li_101, li_109, li_110, li_255, li_680, li_700, li_9999, li_65536, li_65537, ← e, m_iB1 b1 b2 b3.2.2.1, m_isDown0 b5 hdn, c1, f1, k1]
    · refine Or.inl ⟨m1, 1, by omega, by omega, fun w q hq hp hX => ⟨w, XS.rf, ?_⟩, fun nd w w1 e ⟨d, b1, b2, b3, b4, b5, b6⟩ => ⟨w1, SM.rf, ?_⟩⟩
      · unfold fX9_clean
        simp (disch := omega) only [↓mo_1, ↓mo_2, ad_m1, ite_m1_lt, ite_m2_lt, ite_le_m1, ite_eq_m1, ite_eq_m2, ite_m1_m1, ite_m2_m2, ite_T, ite_F, ite_nz, ite_zz, ite_m1_le, ite_m1_eq, oi_none, oi_some, ob_some, lw_def, ck_true, ckp_su, ite_lt_t, ite_lt_f, ite_le_t, ite_le_f, ite_eq_t, ite_eq_f, ck_inb, nI_add, sb_nI, mu_nI, nI_clamp, sO_at, sO_sO, Nat.add_sub_cancel, Nat.zero_add, Nat.add_zero, li_0, li_1, li_2, li_3, li_4, li_5, li_6, li_7, li_8, li_9, li_10, li_11, li_12, li_16, li_20, li_24, li_31, li_32, li_48, li_49, li_73, li_74, li_75, li_97, li_98, li_99, li_100, li_101, li_109, li_110, li_255, li_680, li_700, li_9999, li_65536, li_65537, x_hB0 hp hq hX.1.2.2.1 hx, x_refuse]
      · unfold fX11_clean
        simp (disch := omega) only [↓mo_1, ↓mo_2, ad_m1, ite_m1_lt, ite_m2_lt, ite_le_m1, ite_eq_m1, ite_eq_m2, ite_m1_m1, ite_m2_m2, ite_T, ite_F, ite_nz, ite_zz, ite_m1_le, ite_m1_eq, oi_none, oi_some, ob_some, lw_def, ck_true, ckp_su, ite_lt_t, ite_lt_f, ite_le_t, ite_le_f, ite_eq_t, ite_eq_f, ck_inb, nI_add, sb_nI, mu_nI, nI_clamp, sO_at, sO_sO, Nat.add_sub_cancel, Nat.zero_add, Nat.add_zero, li_0, li_1, li_2, li_3, li_4, li_5, li_6, li_7, li_8, li_9, li_10, li_11, li_12, li_16, li_20, li_24, li_31, li_32, li_48, li_49, li_73, li_74, li_75, li_97, li_98, li_99, li_100, li_101, li_109, li_110, li_255, li_680, li_700, li_9999, li_65536, li_65537, ← e, m_iB b1 b2 b3.2.2.1 hx, m_refused]
theorem c_cut {x y : Int32} : Ac (fun w => fX9_cut w x y) (fun nd w => fX11_cut nd w x y) := by
  intro d hd
  cases d with
  | none =>
    refine Or.inl ⟨m1, 1, by omega, by omega, fun w q hq hp hX => ⟨w, XS.rf, ?_⟩, fun nd w w1 e hM => ⟨w1, SM.rf, ?_⟩⟩
    · unfold fX9_cut
      simp (disch := omega) only [↓mo_1, ↓mo_2, ad_m1, ite_m1_lt, ite_m2_lt, ite_le_m1, ite_eq_m1, ite_eq_m2, ite_m1_m1, ite_m2_m2, ite_T, ite_F, ite_nz, ite_zz, ite_m1_le, ite_m1_eq, oi_none, oi_some, ob_some, lw_def, ck_true, ckp_su, ite_lt_t, ite_lt_f, ite_le_t, ite_le_f, ite_eq_t, ite_eq_f, ck_inb, nI_add, sb_nI, mu_nI, nI_clamp, sO_at, sO_sO, Nat.add_sub_cancel, Nat.zero_add, Nat.add_zero, li_0, li_1, li_2, li_3, li_4, li_5, li_6, li_7, li_8, li_9, li_10, li_11, li_12, li_16, li_20, li_24, li_31, li_32, li_48, li_49, li_73, li_74, li_75, li_97, li_98, li_99, li_100, li_101, li_109, li_110, li_255, li_680, li_700, li_9999, li_65536, li_65537, x_why1 hq hp hX.1.1 (n_z x), x_refuse]
    · have e1 : fX11_refusesCut nd w1 x y = some (nI 1, w1) := by
        unfold fX11_refusesCut
        simp (disch := omega) only [↓mo_1, ↓mo_2, ad_m1, ite_m1_lt, ite_m2_lt, ite_le_m1, ite_eq_m1, ite_eq_m2, ite_m1_m1, ite_m2_m2, ite_T, ite_F, ite_nz, ite_zz, ite_m1_le, ite_m1_eq, oi_none, oi_some, ob_some, lw_def, ck_true, ckp_su, ite_lt_t, ite_lt_f, ite_le_t, ite_le_f, ite_eq_t, ite_eq_f, ck_inb, nI_add, sb_nI, mu_nI, nI_clamp, sO_at, sO_sO, Nat.add_sub_cancel, Nat.zero_add, Nat.add_zero, li_0, li_1, li_2, li_3, li_4, li_5, li_6, li_7, li_8, li_9, li_10, li_11, li_12, li_16, li_20, li_24, li_31, li_32, li_48, li_49, li_73, li_74, li_75, li_97, li_98, li_99, li_100, li_101, li_109, li_110, li_255, li_680, li_700, li_9999, li_65536, li_65537, m_iB0 (show (w1 11 0).2.2.1 3 = 0 from hM)]
      unfold fX11_cut
      simp (disch := omega) only [↓mo_1, ↓mo_2, ad_m1, ite_m1_lt, ite_m2_lt, ite_le_m1, ite_eq_m1, ite_eq_m2, ite_m1_m1, ite_m2_m2, ite_T, ite_F, ite_nz, ite_zz, ite_m1_le, ite_m1_eq, oi_none, oi_some, ob_some, lw_def, ck_true, ckp_su, ite_lt_t, ite_lt_f, ite_le_t, ite_le_f, ite_eq_t, ite_eq_f, ck_inb, nI_add, sb_nI, mu_nI, nI_clamp, sO_at, sO_sO, Nat.add_sub_cancel, Nat.zero_add, Nat.add_zero, li_0, li_1, li_2, li_3, li_4, li_5, li_6, li_7, li_8, li_9, li_10, li_11, li_12, li_16, li_20, li_24, li_31, li_32, li_48, li_49, li_73, li_74, li_75, li_97, li_98, li_99, li_100, li_101, li_109, li_110, li_255, li_680, li_700, li_9999, li_65536, li_65537, ← e, e1, m_refused]
  | some z =>
    obtain ⟨D, T, s, h, im⟩ := z
    have hd' := hd
    obtain ⟨hD, h6, hT, hW, hQ, hH, hI⟩ := hd'
    have hb24 := hD.2.1
    rcases rng x (show D.1 < 2 ^ 31 by omega) with ⟨b, hb, rfl⟩ | hx
    · have h8 := (hD.2.2.1 b hb).2
      rcases rng y (show 2 * D.2.1 b + 3 < 2 ^ 31 by omega) with ⟨k, hk, rfl⟩ | hy
      · cases hdn : sdn s with
        | true =>
          refine Or.inl ⟨m1, 5, by omega, by omega, fun w q hq hp hX => ⟨w, XS.rf, ?_⟩, fun nd w w1 e ⟨d, b1, b2, b3, b4, b5, b6⟩ => ?_⟩
          · have e1 := x_why3 hD hq hp hX.1 hb hk hX.2.2.1.2.2.2.2.2.2.2.2.1
            rw [if_pos hdn] at e1
            unfold fX9_cut
            simp (disch := omega) only [↓mo_1, ↓mo_2, ad_m1, ite_m1_lt, ite_m2_lt, ite_le_m1, ite_eq_m1, ite_eq_m2, ite_m1_m1, ite_m2_m2, ite_T, ite_F, ite_nz, ite_zz, ite_m1_le, ite_m1_eq, oi_none, oi_some, ob_some, lw_def, ck_true, ckp_su, ite_lt_t, ite_lt_f, ite_le_t, ite_le_f, ite_eq_t, ite_eq_f, ck_inb, nI_add, sb_nI, mu_nI, nI_clamp, sO_at, sO_sO, Nat.add_sub_cancel, Nat.zero_add, Nat.add_zero, li_0, li_1, li_2, li_3, li_4, li_5, li_6, li_7, li_8, li_9, li_10, li_11, li_12, li_16, li_20, li_24, li_31, li_32, li_48, li_49, li_73, li_74, li_75, li_97, li_98, li_99, li_100, li_101, li_109, li_110, li_255, li_680, li_700, li_9999, li_65536, li_65537, e1, x_refuse]
          · obtain ⟨w2, g, c1, c2, c3, c4, c5⟩ := m_rc (y := nI k) hD b2 b1 b3 hW b5 hb
            have e1 := c5 k hk rfl
            rw [if_pos hdn] at e1
            refine ⟨mX w2 g, c3.tr SM.x, ?_⟩
            unfold fX11_cut
            simp (disch := omega) only [↓mo_1, ↓mo_2, ad_m1, ite_m1_lt, ite_m2_lt, ite_le_m1, ite_eq_m1, ite_eq_m2, ite_m1_m1, ite_m2_m2, ite_T, ite_F, ite_nz, ite_zz, ite_m1_le, ite_m1_eq, oi_none, oi_some, ob_some, lw_def, ck_true, ckp_su, ite_lt_t, ite_lt_f, ite_le_t, ite_le_f, ite_eq_t, ite_eq_f, ck_inb, nI_add, sb_nI, mu_nI, nI_clamp, sO_at, sO_sO, Nat.add_sub_cancel, Nat.zero_add, Nat.add_zero, li_0, li_1, li_2, li_3, li_4, li_5, li_6, li_7, li_8, li_9, li_10, li_11, li_12, li_16, li_20, li_24, li_31, li_32, li_48, li_49, li_73, li_74, li_75, li_97, li_98, li_99, li_100, li_101, li_109, li_110, li_255, li_680, li_700, li_9999, li_65536, li_65537, ← e, e1, m_refused]
        | false =>
          obtain ⟨j0, jf0⟩ := hQ hdn
          have a1 := ct_wf2 hD hW hQ hdn hb (show k ≤ 2 * D.2.1 b + 2 by omega)
          refine Or.inr ⟨nI (dmA D (sTr (ctS D s b k)) D.1), some (D, T, ctS D s b k, hpu h s, im), dok_act hd a1 (fun z => absurd z (by show ¬ true = false; simp)), fun w q hq hp hX => ?_, fun nd w w1 e hM => ?_⟩
          · have e0 := x_why3 hD hq hp hX.1 hb hk hX.2.2.1.2.2.2.2.2.2.2.2.1
            rw [if_neg (by rw [hdn]; simp)] at e0
            obtain ⟨w2, e1, e2, e3, e4, e5⟩ := x_kept hD hW hH.1 hI.1 hq hX
            have hS2 : RSh (w2 5 q) D := by rw [e3]; exact hX.1
            obtain ⟨o, f1, f2⟩ := x_cutPower (w := w2) (j := 0) (a := q) hD hS2 hW e4 hb (show k ≤ 2 * D.2.1 b + 2 by omega) j0 jf0
            rw [sO_id] at f1
            have hp2 : (w2 9 0).2.2.1 2 = q + 1 := by rw [e2]; exact hp
            have hp3 : (sO w2 7 0 o 9 0).2.2.1 2 = q + 1 := by rw [sO_nc (by decide)]; exact hp2
            obtain ⟨g1, g2⟩ := e5 o _ f2
            refine ⟨sO w2 7 0 o, g2, g1, ?_⟩
            unfold fX9_cut
            simp (disch := omega) only [↓mo_1, ↓mo_2, ad_m1, ite_m1_lt, ite_m2_lt, ite_le_m1, ite_eq_m1, ite_eq_m2, ite_m1_m1, ite_m2_m2, ite_T, ite_F, ite_nz, ite_zz, ite_m1_le, ite_m1_eq, oi_none, oi_some, ob_some, lw_def, ck_true, ckp_su, ite_lt_t, ite_lt_f, ite_le_t, ite_le_f, ite_eq_t, ite_eq_f, ck_inb, nI_add, sb_nI, mu_nI, nI_clamp, sO_at, sO_sO, Nat.add_sub_cancel, Nat.zero_add, Nat.add_zero, li_0, li_1, li_2, li_3, li_4, li_5, li_6, li_7, li_8, li_9, li_10, li_11, li_12, li_16, li_20, li_24, li_31, li_32, li_48, li_49, li_73, li_74, li_75, li_97, li_98, li_99, li_100, li_101, li_109, li_110, li_255, li_680, li_700, li_9999, li_65536, li_65537, e0, e1, hp2, f1, hp3, x_damagedInAll hD hS2 f2, x_accept]
          · have hM' := hM
            obtain ⟨d, b1, b2, b3, b4, b5, b6, b7, b8, b9⟩ := hM'
            obtain ⟨w0, g0, r1, r2, r3, r4, r5⟩ := m_rc (y := nI k) hD b2 b1 b3 hW b5 hb
            have e0 := r5 k hk rfl
            rw [if_neg (by rw [hdn]; simp)] at e0
            have s0 : SM w1 (mX w0 g0) := r3.tr SM.x
            obtain ⟨w2, g, c1, c2, c3, c4, c5, c6⟩ := m_remembers (w := mX w0 g0) (h := h) hD hW hH.1 (fun i hi => (hH.2 i hi).1) b2 (by rw [s0.2.1]; exact b1) (by rw [s0.1 10 d (by omega)]; exact b3) (by rw [s0.2.2.2 15 (by decide)]; exact b5) (by rw [s0.2.2.1 19 (by decide)]; exact b6) (by rw [s0.2.2.2 17 (by decide)]; exact b7)
            obtain ⟨g2, f1, f2⟩ := m_cuts hD c2 hW c3 hb (show k ≤ 2 * D.2.1 b + 2 by omega) j0 jf0
            obtain ⟨w4, k1, k2, k3⟩ := m_act (v := nI (dmA D (sTr (ctS D s b k)) D.1)) (w3 := w2) hD a1 hM (s0.sh.tr c4) c5 c6 f2
            refine ⟨w4, k2, k3, ?_⟩
            unfold fX11_cut
            simp (disch := omega) only [↓mo_1, ↓mo_2, ad_m1, ite_m1_lt, ite_m2_lt, ite_le_m1, ite_eq_m1, ite_eq_m2, ite_m1_m1, ite_m2_m2, ite_T, ite_F, ite_nz, ite_zz, ite_m1_le, ite_m1_eq, oi_none, oi_some, ob_some, lw_def, ck_true, ckp_su, ite_lt_t, ite_lt_f, ite_le_t, ite_le_f, ite_eq_t, ite_eq_f, ck_inb, nI_add, sb_nI, mu_nI, nI_clamp, sO_at, sO_sO, Nat.add_sub_cancel, Nat.zero_add, Nat.add_zero, li_0, li_1, li_2, li_3, li_4, li_5, li_6, li_7, li_8, li_9, li_10, li_11, li_12, li_16, li_20, li_24, li_31, li_32, li_48, li_49, li_73, li_74, li_75, li_97, li_98, li_99, li_100, li_101, li_109, li_110, li_255, li_680, li_700, li_9999, li_65536, li_65537, ← e, e0, c1, f1, k1]
      · refine Or.inl ⟨m1, 2, by omega, by omega, fun w q hq hp hX => ⟨w, XS.rf, ?_⟩, fun nd w w1 e ⟨d, b1, b2, b3, b4, b5, b6⟩ => ?_⟩
        · unfold fX9_cut
          simp (disch := omega) only [↓mo_1, ↓mo_2, ad_m1, ite_m1_lt, ite_m2_lt, ite_le_m1, ite_eq_m1, ite_eq_m2, ite_m1_m1, ite_m2_m2, ite_T, ite_F, ite_nz, ite_zz, ite_m1_le, ite_m1_eq, oi_none, oi_some, ob_some, lw_def, ck_true, ckp_su, ite_lt_t, ite_lt_f, ite_le_t, ite_le_f, ite_eq_t, ite_eq_f, ck_inb, nI_add, sb_nI, mu_nI, nI_clamp, sO_at, sO_sO, Nat.add_sub_cancel, Nat.zero_add, Nat.add_zero, li_0, li_1, li_2, li_3, li_4, li_5, li_6, li_7, li_8, li_9, li_10, li_11, li_12, li_16, li_20, li_24, li_31, li_32, li_48, li_49, li_73, li_74, li_75, li_97, li_98, li_99, li_100, li_101, li_109, li_110, li_255, li_680, li_700, li_9999, li_65536, li_65537, x_why2 hD hq hp hX.1 hb hy, x_refuse]
        · obtain ⟨w2, g, c1, c2, c3, c4, c5⟩ := m_rc (y := y) hD b2 b1 b3 hW b5 hb
          refine ⟨mX w2 g, c3.tr SM.x, ?_⟩
          unfold fX11_cut
          simp (disch := omega) only [↓mo_1, ↓mo_2, ad_m1, ite_m1_lt, ite_m2_lt, ite_le_m1, ite_eq_m1, ite_eq_m2, ite_m1_m1, ite_m2_m2, ite_T, ite_F, ite_nz, ite_zz, ite_m1_le, ite_m1_eq, oi_none, oi_some, ob_some, lw_def, ck_true, ckp_su, ite_lt_t, ite_lt_f, ite_le_t, ite_le_f, ite_eq_t, ite_eq_f, ck_inb, nI_add, sb_nI, mu_nI, nI_clamp, sO_at, sO_sO, Nat.add_sub_cancel, Nat.zero_add, Nat.add_zero, li_0, li_1, li_2, li_3, li_4, li_5, li_6, li_7, li_8, li_9, li_10, li_11, li_12, li_16, li_20, li_24, li_31, li_32, li_48, li_49, li_73, li_74, li_75, li_97, li_98, li_99, li_100, li_101, li_109, li_110, li_255, li_680, li_700, li_9999, li_65536, li_65537, ← e, c4 hy, m_refused]
    · refine Or.inl ⟨m1, 1, by omega, by omega, fun w q hq hp hX => ⟨w, XS.rf, ?_⟩, fun nd w w1 e ⟨d, b1, b2, b3, b4, b5, b6⟩ => ⟨w1, SM.rf, ?_⟩⟩
      · unfold fX9_cut
        simp (disch := omega) only [↓mo_1, ↓mo_2, ad_m1, ite_m1_lt, ite_m2_lt, ite_le_m1, ite_eq_m1, ite_eq_m2, ite_m1_m1, ite_m2_m2, ite_T, ite_F, ite_nz, ite_zz, ite_m1_le, ite_m1_eq, oi_none, oi_some, ob_some, lw_def, ck_true, ckp_su, ite_lt_t, ite_lt_f, ite_le_t, ite_le_f, ite_eq_t, ite_eq_f, ck_inb, nI_add, sb_nI, mu_nI, nI_clamp, sO_at, sO_sO, Nat.add_sub_cancel, Nat.zero_add, Nat.add_zero, li_0, li_1, li_2, li_3, li_4, li_5, li_6, li_7, li_8, li_9, li_10, li_11, li_12, li_16, li_20, li_24, li_31, li_32, li_48, li_49, li_73, li_74, li_75, li_97, li_98, li_99, li_100, li_101, li_109, li_110, li_255, li_680, li_700, li_9999, li_65536, li_65537, x_why1 hq hp hX.1.2.2.1 hx, x_refuse]
      · have e1 : fX11_refusesCut nd w1 x y = some (nI 1, w1) := by
          unfold fX11_refusesCut
          simp (disch := omega) only [↓mo_1, ↓mo_2, ad_m1, ite_m1_lt, ite_m2_lt, ite_le_m1, ite_eq_m1, ite_eq_m2, ite_m1_m1, ite_m2_m2, ite_T, ite_F, ite_nz, ite_zz, ite_m1_le, ite_m1_eq, oi_none, oi_some, ob_some, lw_def, ck_true, ckp_su, ite_lt_t, ite_lt_f, ite_le_t, ite_le_f, ite_eq_t, ite_eq_f, ck_inb, nI_add, sb_nI, mu_nI, nI_clamp, sO_at, sO_sO, Nat.add_sub_cancel, Nat.zero_add, Nat.add_zero, li_0, li_1, li_2, li_3, li_4, li_5, li_6, li_7, li_8, li_9, li_10, li_11, li_12, li_16, li_20, li_24, li_31, li_32, li_48, li_49, li_73, li_74, li_75, li_97, li_98, li_99, li_100, li_101, li_109, li_110, li_255, li_680, li_700, li_9999, li_65536, li_65537, m_iB b1 b2 b3.2.2.1 hx]
        unfold fX11_cut
        simp (disch := omega) only [↓mo_1, ↓mo_2, ad_m1, ite_m1_lt, ite_m2_lt, ite_le_m1, ite_eq_m1, ite_eq_m2, ite_m1_m1, ite_m2_m2, ite_T, ite_F, ite_nz, ite_zz, ite_m1_le, ite_m1_eq, oi_none, oi_some, ob_some, lw_def, ck_true, ckp_su, ite_lt_t, ite_lt_f, ite_le_t, ite_le_f, ite_eq_t, ite_eq_f, ck_inb, nI_add, sb_nI, mu_nI, nI_clamp, sO_at, sO_sO, Nat.add_sub_cancel, Nat.zero_add, Nat.add_zero, li_0, li_1, li_2, li_3, li_4, li_5, li_6, li_7, li_8, li_9, li_10, li_11, li_12, li_16, li_20, li_24, li_31, li_32, li_48, li_49, li_73, li_74, li_75, li_97, li_98, li_99, li_100, li_101, li_109, li_110, li_255, li_680, li_700, li_9999, li_65536, li_65537, ← e, e1, m_refused]
theorem c_recover : Ac (fun w => fX9_recover w) (fun nd w => fX11_recover nd w) := by
  intro d hd
  cases d with
  | none =>
    refine Or.inl ⟨m1, 1, by omega, by omega, fun w q hq hp hX => ⟨w, XS.rf, ?_⟩, fun nd w w1 e hM => ⟨w1, SM.rf, ?_⟩⟩
    · unfold fX9_recover
      simp (disch := omega) only [↓mo_1, ↓mo_2, ad_m1, ite_m1_lt, ite_m2_lt, ite_le_m1, ite_eq_m1, ite_eq_m2, ite_m1_m1, ite_m2_m2, ite_T, ite_F, ite_nz, ite_zz, ite_m1_le, ite_m1_eq, oi_none, oi_some, ob_some, lw_def, ck_true, ckp_su, ite_lt_t, ite_lt_f, ite_le_t, ite_le_f, ite_eq_t, ite_eq_f, ck_inb, nI_add, sb_nI, mu_nI, nI_clamp, sO_at, sO_sO, Nat.add_sub_cancel, Nat.zero_add, Nat.add_zero, li_0, li_1, li_2, li_3, li_4, li_5, li_6, li_7, li_8, li_9, li_10, li_11, li_12, li_16, li_20, li_24, li_31, li_32, li_48, li_49, li_73, li_74, li_75, li_97, li_98, li_99, li_100, li_101, li_109, li_110, li_255, li_680, li_700, li_9999, li_65536, li_65537, x_hD0 hp hq hX.1.1, x_refuse]
    · unfold fX11_recover
      simp (disch := omega) only [↓mo_1, ↓mo_2, ad_m1, ite_m1_lt, ite_m2_lt, ite_le_m1, ite_eq_m1, ite_eq_m2, ite_m1_m1, ite_m2_m2, ite_T, ite_F, ite_nz, ite_zz, ite_m1_le, ite_m1_eq, oi_none, oi_some, ob_some, lw_def, ck_true, ckp_su, ite_lt_t, ite_lt_f, ite_le_t, ite_le_f, ite_eq_t, ite_eq_f, ck_inb, nI_add, sb_nI, mu_nI, nI_clamp, sO_at, sO_sO, Nat.add_sub_cancel, Nat.zero_add, Nat.add_zero, li_0, li_1, li_2, li_3, li_4, li_5, li_6, li_7, li_8, li_9, li_10, li_11, li_12, li_16, li_20, li_24, li_31, li_32, li_48, li_49, li_73, li_74, li_75, li_97, li_98, li_99, li_100, li_101, li_109, li_110, li_255, li_680, li_700, li_9999, li_65536, li_65537, ← e, show (w1 11 0).2.2.1 3 = 0 from hM, m_refused]
  | some z =>
    obtain ⟨D, T, s, h, im⟩ := z
    have hd' := hd
    obtain ⟨hD, h6, hT, hW, hQ, hH, hI⟩ := hd'
    have hb1 := hD.1
    cases hdn : sdn s with
    | false =>
      refine Or.inl ⟨m1, 5, by omega, by omega, fun w q hq hp hX => ⟨w, XS.rf, ?_⟩, fun nd w w1 e ⟨d, b1, b2, b3, b4, b5, b6⟩ => ⟨w1, SM.rf, ?_⟩⟩
      · have h8 : (w 7 0).1 8 = nI 0 := by rw [hX.2.2.1.2.2.2.2.2.2.2.2.1, hdn]; rfl
        unfold fX9_recover
        simp (disch := omega) only [↓mo_1, ↓mo_2, ad_m1, ite_m1_lt, ite_m2_lt, ite_le_m1, ite_eq_m1, ite_eq_m2, ite_m1_m1, ite_m2_m2, ite_T, ite_F, ite_nz, ite_zz, ite_m1_le, ite_m1_eq, oi_none, oi_some, ob_some, lw_def, ck_true, ckp_su, ite_lt_t, ite_lt_f, ite_le_t, ite_le_f, ite_eq_t, ite_eq_f, ck_inb, nI_add, sb_nI, mu_nI, nI_clamp, sO_at, sO_sO, Nat.add_sub_cancel, Nat.zero_add, Nat.add_zero, li_0, li_1, li_2, li_3, li_4, li_5, li_6, li_7, li_8, li_9, li_10, li_11, li_12, li_16, li_20, li_24, li_31, li_32, li_48, li_49, li_73, li_74, li_75, li_97, li_98, li_99, li_100, li_101, li_109, li_110, li_255, li_680, li_700, li_9999, li_65536, li_65537, x_hD1 hp hq hX.1.2.2.1 hD.1 (by omega), h8, x_refuse]
      · unfold fX11_recover
        simp (disch := omega) only [↓mo_1, ↓mo_2, ad_m1, ite_m1_lt, ite_m2_lt, ite_le_m1, ite_eq_m1, ite_eq_m2, ite_m1_m1, ite_m2_m2, ite_T, ite_F, ite_nz, ite_zz, ite_m1_le, ite_m1_eq, oi_none, oi_some, ob_some, lw_def, ck_true, ckp_su, ite_lt_t, ite_lt_f, ite_le_t, ite_le_f, ite_eq_t, ite_eq_f, ck_inb, nI_add, sb_nI, mu_nI, nI_clamp, sO_at, sO_sO, Nat.add_sub_cancel, Nat.zero_add, Nat.add_zero, li_0, li_1, li_2, li_3, li_4, li_5, li_6, li_7, li_8, li_9, li_10, li_11, li_12, li_16, li_20, li_24, li_31, li_32, li_48, li_49, li_73, li_74, li_75, li_97, li_98, li_99, li_100, li_101, li_109, li_110, li_255, li_680, li_700, li_9999, li_65536, li_65537, ← e, b1, m_isDown0 b5 hdn, m_refused]
    | true =>
      obtain ⟨a1, a2, a3, a4⟩ := rv_wf (D := D) hW
      refine Or.inr ⟨oi2 (rvB s), some (D, T, rvS D s, hpu h s, im), dok_act hd a1 (fun _ => ⟨a2, a3⟩), fun w q hq hp hX => ?_, fun nd w w1 e hM => ?_⟩
      · have h8 : (w 7 0).1 8 = nI 1 := by rw [hX.2.2.1.2.2.2.2.2.2.2.2.1, hdn]; rfl
        obtain ⟨w2, e1, e2, e3, e4, e5⟩ := x_kept hD hW hH.1 hI.1 hq hX
        obtain ⟨o, f1, f2⟩ := x_comeBack (w := w2) (j := 0) (a := q) hD (by rw [e3]; exact hX.1) hW e4
        rw [sO_id] at f1
        have hp2 : (w2 9 0).2.2.1 2 = q + 1 := by rw [e2]; exact hp
        obtain ⟨g1, g2⟩ := e5 o _ f2
        refine ⟨sO w2 7 0 o, g2, g1, ?_⟩
        unfold fX9_recover
        simp (disch := omega) only [↓mo_1, ↓mo_2, ad_m1, ite_m1_lt, ite_m2_lt, ite_le_m1, ite_eq_m1, ite_eq_m2, ite_m1_m1, ite_m2_m2, ite_T, ite_F, ite_nz, ite_zz, ite_m1_le, ite_m1_eq, oi_none, oi_some, ob_some, lw_def, ck_true, ckp_su, ite_lt_t, ite_lt_f, ite_le_t, ite_le_f, ite_eq_t, ite_eq_f, ck_inb, nI_add, sb_nI, mu_nI, nI_clamp, sO_at, sO_sO, Nat.add_sub_cancel, Nat.zero_add, Nat.add_zero, li_0, li_1, li_2, li_3, li_4, li_5, li_6, li_7, li_8, li_9, li_10, li_11, li_12, li_16, li_20, li_24, li_31, li_32, li_48, li_49, li_73, li_74, li_75, li_97, li_98, li_99, li_100, li_101, li_109, li_110, li_255, li_680, li_700, li_9999, li_65536, li_65537, x_hD1 hp hq hX.1.2.2.1 hD.1 (by omega), h8, e1, hp2, f1, x_accept]
      · have hM' := hM
        obtain ⟨d, b1, b2, b3, b4, b5, b6, b7, b8, b9⟩ := hM'
        obtain ⟨w2, g, c1, c2, c3, c4, c5, c6⟩ := m_remembers hD hW hH.1 (fun i hi => (hH.2 i hi).1) b2 b1 b3 b5 b6 b7
        obtain ⟨g2, f1, f2⟩ := m_recovers hD c2 hW c3
        obtain ⟨w4, k1, k2, k3⟩ := m_act (v := oi2 (rvB s)) (w3 := w2) hD a1 hM c4 c5 c6 f2
        refine ⟨w4, k2, k3, ?_⟩
        unfold fX11_recover
        simp (disch := omega) only [↓mo_1, ↓mo_2, ad_m1, ite_m1_lt, ite_m2_lt, ite_le_m1, ite_eq_m1, ite_eq_m2, ite_m1_m1, ite_m2_m2, ite_T, ite_F, ite_nz, ite_zz, ite_m1_le, ite_m1_eq, oi_none, oi_some, ob_some, lw_def, ck_true, ckp_su, ite_lt_t, ite_lt_f, ite_le_t, ite_le_f, ite_eq_t, ite_eq_f, ck_inb, nI_add, sb_nI, mu_nI, nI_clamp, sO_at, sO_sO, Nat.add_sub_cancel, Nat.zero_add, Nat.add_zero, li_0, li_1, li_2, li_3, li_4, li_5, li_6, li_7, li_8, li_9, li_10, li_11, li_12, li_16, li_20, li_24, li_31, li_32, li_48, li_49, li_73, li_74, li_75, li_97, li_98, li_99, li_100, li_101, li_109, li_110, li_255, li_680, li_700, li_9999, li_65536, li_65537, ← e, b1, m_isDown1 b5 hdn, c1, f1, k1]
end ACT
