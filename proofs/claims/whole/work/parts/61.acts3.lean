/-! ===== undo, image, back ===== -/
section UNDO
variable {w : Wd} {D : Dk} {T : Tk} {s : Sd} {h im : Nat × (Nat → Sd)} {nd q : Nat}
theorem m_denied {k : Int32} : fX11_denied nd w k = some (nI 0, mT w k) := rfl
theorem m_granted : fX11_granted nd w = some (nI 1, mT w (nI 0)) := rfl
theorem isb_0 : isb (nI 0) = true := id rfl
theorem isb_1 : isb (nI 1) = true := id rfl
/-- only the row of now changes -/
def S15 (w w2 : Wd) : Prop := (∀ c i, ¬ (c = 11 ∧ i = 0) → w2 c i = w c i) ∧ (w2 11 0).2.2.1 = (w 11 0).2.2.1 ∧ (w2 11 0).1 = (w 11 0).1 ∧ ∀ k, k ≠ 15 → (w2 11 0).2.1 k = (w 11 0).2.1 k
theorem S15.rf : S15 w w := ⟨fun _ _ _ => rfl, rfl, rfl, fun _ _ => rfl⟩
theorem S15.a {i : Nat} {v : Int32} : S15 w (sA w 11 0 15 i v) := ⟨fun c i z => sO_ne z, by unfold sA; rw [sO_at]; rfl, by unfold sA; rw [sO_at]; rfl, fun k hk => by unfold sA; rw [sO_at, oA_n hk]⟩
theorem S15.tr {w1 w2 w3 : Wd} (h : S15 w1 w2) (h2 : S15 w2 w3) : S15 w1 w3 := ⟨fun c i z => (h2.1 c i z).trans (h.1 c i z), h2.2.1.trans h.2.1, h2.2.2.1.trans h.2.2.1, fun k z => (h2.2.2.2 k z).trans (h.2.2.2 k z)⟩
theorem m_un {a : Nat} (ha : a < 16) : ∀ r t, t + r = 110 → ∀ (m : Nat) (w : Wd), r < m → (w 11 0).1 19 = nI a → (∀ u, u < t → (w 11 0).2.1 15 u = (w 11 0).2.1 17 (110 * a + u)) → ∃ w2 : Wd, fX11_undo_38 nd m w (nI t) = some (nI 1, mT w2 (nI 0)) ∧ S15 w w2 ∧ ∀ u, u < 110 → (w2 11 0).2.1 15 u = (w 11 0).2.1 17 (110 * a + u) := by
  intro r
  induction r with
  | zero =>
    intro t ht m w hm h19 hr
    obtain ⟨m, rfl⟩ : ∃ z, m = z + 1 := ⟨m - 1, by omega⟩
    have e : t = 110 := by omega
    subst e
    refine ⟨w, ?_, S15.rf, hr⟩
    rw [fX11_undo_38.eq_2]
    simp (disch := omega) only [↓mo_1, ↓mo_2, ad_m1, ite_m1_lt, ite_m2_lt, ite_le_m1, ite_eq_m1, ite_eq_m2, ite_m1_m1, ite_m2_m2, ite_T, ite_F, ite_nz, ite_zz, ite_m1_le, ite_m1_eq, oi_none, oi_some, ob_some, lw_def, ck_true, ckp_su, ite_lt_t, ite_lt_f, ite_le_t, ite_le_f, ite_eq_t, ite_eq_f, ck_inb, nI_add, sb_nI, mu_nI, nI_clamp, sO_at, sO_sO, Nat.add_sub_cancel, Nat.zero_add, Nat.add_zero, li_0, li_1, li_2, li_3, li_4, li_5, li_6, li_7, li_8, li_9, li_10, li_11, li_12, li_16, li_20, li_24, li_31, li_32, li_48, li_49, li_73, li_74, li_75, li_97, li_98, li_99, li_100, li_101, li_109, li_110, li_255, li_680, li_700, li_9999, li_65536, li_65537, m_granted, isb_1]
  | succ r ih =>
    intro t ht m w hm h19 hr
    obtain ⟨m, rfl⟩ : ∃ z, m = z + 1 := ⟨m - 1, by omega⟩
    have k17 : (sA w 11 0 15 t ((w 11 0).2.1 17 (110 * a + t)) 11 0).2.1 17 = (w 11 0).2.1 17 := by unfold sA; rw [sO_at, oA_n (by decide)]
    obtain ⟨w2, e1, e2, e3⟩ := ih (t + 1) (by omega) m (sA w 11 0 15 t ((w 11 0).2.1 17 (110 * a + t))) (by omega) (by unfold sA; rw [sO_at]; exact h19) (fun u hu => by
      rw [k17]
      unfold sA
      rw [sO_at, oA_a]
      by_cases c : u = t
      · rw [c, upd_at]
      · rw [upd_ne c]; exact hr u (by omega))
    refine ⟨w2, ?_, S15.a.tr e2, fun u hu => by rw [e3 u hu, k17]⟩
    rw [fX11_undo_38.eq_2]
    simp (disch := omega) only [↓mo_1, ↓mo_2, ad_m1, ite_m1_lt, ite_m2_lt, ite_le_m1, ite_eq_m1, ite_eq_m2, ite_m1_m1, ite_m2_m2, ite_T, ite_F, ite_nz, ite_zz, ite_m1_le, ite_m1_eq, oi_none, oi_some, ob_some, lw_def, ck_true, ckp_su, ite_lt_t, ite_lt_f, ite_le_t, ite_le_f, ite_eq_t, ite_eq_f, ck_inb, nI_add, sb_nI, mu_nI, nI_clamp, sO_at, sO_sO, Nat.add_sub_cancel, Nat.zero_add, Nat.add_zero, li_0, li_1, li_2, li_3, li_4, li_5, li_6, li_7, li_8, li_9, li_10, li_11, li_12, li_16, li_20, li_24, li_31, li_32, li_48, li_49, li_73, li_74, li_75, li_97, li_98, li_99, li_100, li_101, li_109, li_110, li_255, li_680, li_700, li_9999, li_65536, li_65537, h19]
    exact e1
theorem m_bk {a : Nat} (ha : a < 3) : ∀ r t, t + r = 110 → ∀ (m : Nat) (w : Wd), r < m → (∀ u, u < t → (w 11 0).2.1 15 u = (w 11 0).2.1 18 (110 * a + u)) → ∃ w2 : Wd, fX11_back_32 nd m w (nI a) (nI t) = some (nI 1, mT (sI w2 11 0 19 (nI 0)) (nI 0)) ∧ S15 w w2 ∧ ∀ u, u < 110 → (w2 11 0).2.1 15 u = (w 11 0).2.1 18 (110 * a + u) := by
  intro r
  induction r with
  | zero =>
    intro t ht m w hm hr
    obtain ⟨m, rfl⟩ : ∃ z, m = z + 1 := ⟨m - 1, by omega⟩
    have e : t = 110 := by omega
    subst e
    refine ⟨w, ?_, S15.rf, hr⟩
    rw [fX11_back_32.eq_2]
    simp (disch := omega) only [↓mo_1, ↓mo_2, ad_m1, ite_m1_lt, ite_m2_lt, ite_le_m1, ite_eq_m1, ite_eq_m2, ite_m1_m1, ite_m2_m2, ite_T, ite_F, ite_nz, ite_zz, ite_m1_le, ite_m1_eq, oi_none, oi_some, ob_some, lw_def, ck_true, ckp_su, ite_lt_t, ite_lt_f, ite_le_t, ite_le_f, ite_eq_t, ite_eq_f, ck_inb, nI_add, sb_nI, mu_nI, nI_clamp, sO_at, sO_sO, Nat.add_sub_cancel, Nat.zero_add, Nat.add_zero, li_0, li_1, li_2, li_3, li_4, li_5, li_6, li_7, li_8, li_9, li_10, li_11, li_12, li_16, li_20, li_24, li_31, li_32, li_48, li_49, li_73, li_74, li_75, li_97, li_98, li_99, li_100, li_101, li_109, li_110, li_255, li_680, li_700, li_9999, li_65536, li_65537, m_granted, isb_1]
  | succ r ih =>
    intro t ht m w hm hr
    obtain ⟨m, rfl⟩ : ∃ z, m = z + 1 := ⟨m - 1, by omega⟩
    have k18 : (sA w 11 0 15 t ((w 11 0).2.1 18 (110 * a + t)) 11 0).2.1 18 = (w 11 0).2.1 18 := by unfold sA; rw [sO_at, oA_n (by decide)]
    obtain ⟨w2, e1, e2, e3⟩ := ih (t + 1) (by omega) m (sA w 11 0 15 t ((w 11 0).2.1 18 (110 * a + t))) (by omega) (fun u hu => by
      rw [k18]
      unfold sA
      rw [sO_at, oA_a]
      by_cases c : u = t
      · rw [c, upd_at]
      · rw [upd_ne c]; exact hr u (by omega))
    refine ⟨w2, ?_, S15.a.tr e2, fun u hu => by rw [e3 u hu, k18]⟩
    rw [fX11_back_32.eq_2]
    simp (disch := omega) only [↓mo_1, ↓mo_2, ad_m1, ite_m1_lt, ite_m2_lt, ite_le_m1, ite_eq_m1, ite_eq_m2, ite_m1_m1, ite_m2_m2, ite_T, ite_F, ite_nz, ite_zz, ite_m1_le, ite_m1_eq, oi_none, oi_some, ob_some, lw_def, ck_true, ckp_su, ite_lt_t, ite_lt_f, ite_le_t, ite_le_f, ite_eq_t, ite_eq_f, ck_inb, nI_add, sb_nI, mu_nI, nI_clamp, sO_at, sO_sO, Nat.add_sub_cancel, Nat.zero_add, Nat.add_zero, li_0, li_1, li_2, li_3, li_4, li_5, li_6, li_7, li_8, li_9, li_10, li_11, li_12, li_16, li_20, li_24, li_31, li_32, li_48, li_49, li_73, li_74, li_75, li_97, li_98, li_99, li_100, li_101, li_109, li_110, li_255, li_680, li_700, li_9999, li_65536, li_65537]
    exact e1
/-- only the row of images changes -/
def S18 (w w2 : Wd) : Prop := (∀ c i, ¬ (c = 11 ∧ i = 0) → w2 c i = w c i) ∧ (w2 11 0).2.2.1 = (w 11 0).2.2.1 ∧ (w2 11 0).1 = (w 11 0).1 ∧ ∀ k, k ≠ 18 → (w2 11 0).2.1 k = (w 11 0).2.1 k
theorem S18.rf : S18 w w := ⟨fun _ _ _ => rfl, rfl, rfl, fun _ _ => rfl⟩
theorem S18.a {i : Nat} {v : Int32} : S18 w (sA w 11 0 18 i v) := ⟨fun c i z => sO_ne z, by unfold sA; rw [sO_at]; rfl, by unfold sA; rw [sO_at]; rfl, fun k hk => by unfold sA; rw [sO_at, oA_n hk]⟩
theorem S18.tr {w1 w2 w3 : Wd} (h : S18 w1 w2) (h2 : S18 w2 w3) : S18 w1 w3 := ⟨fun c i z => (h2.1 c i z).trans (h.1 c i z), h2.2.1.trans h.2.1, h2.2.2.1.trans h.2.2.1, fun k z => (h2.2.2.2 k z).trans (h.2.2.2 k z)⟩
theorem m_im {a : Nat} (ha : a < 3) : ∀ r t, t + r = 110 → ∀ (m : Nat) (w : Wd), r < m → (w 11 0).1 20 = nI a → (∀ u, u < t → (w 11 0).2.1 18 (110 * a + u) = (w 11 0).2.1 15 u) → ∃ w2 : Wd, fX11_image_34 nd m w (nI t) = some (nI a, mT (sI w2 11 0 20 (nI (a + 1))) (nI 0)) ∧ S18 w w2 ∧ (∀ u, u < 110 → (w2 11 0).2.1 18 (110 * a + u) = (w 11 0).2.1 15 u) ∧ ∀ u, u < 110 * a → (w2 11 0).2.1 18 u = (w 11 0).2.1 18 u := by
  intro r
  induction r with
  | zero =>
    intro t ht m w hm h20 hr
    obtain ⟨m, rfl⟩ : ∃ z, m = z + 1 := ⟨m - 1, by omega⟩
    have e : t = 110 := by omega
    subst e
    refine ⟨w, ?_, S18.rf, hr, fun _ _ => rfl⟩
    rw [fX11_image_34.eq_2]
    simp (disch := omega) only [↓mo_1, ↓mo_2, ad_m1, ite_m1_lt, ite_m2_lt, ite_le_m1, ite_eq_m1, ite_eq_m2, ite_m1_m1, ite_m2_m2, ite_T, ite_F, ite_nz, ite_zz, ite_m1_le, ite_m1_eq, oi_none, oi_some, ob_some, lw_def, ck_true, ckp_su, ite_lt_t, ite_lt_f, ite_le_t, ite_le_f, ite_eq_t, ite_eq_f, ck_inb, nI_add, sb_nI, mu_nI, nI_clamp, sO_at, sO_sO, Nat.add_sub_cancel, Nat.zero_add, Nat.add_zero, li_0, li_1, li_2, li_3, li_4, li_5, li_6, li_7, li_8, li_9, li_10, li_11, li_12, li_16, li_20, li_24, li_31, li_32, li_48, li_49, li_73, li_74, li_75, li_97, li_98, li_99, li_100, li_101, li_109, li_110, li_255, li_680, li_700, li_9999, li_65536, li_65537, h20, sI_i, m_good]
  | succ r ih =>
    intro t ht m w hm h20 hr
    obtain ⟨m, rfl⟩ : ∃ z, m = z + 1 := ⟨m - 1, by omega⟩
    have k15 : (sA w 11 0 18 (110 * a + t) ((w 11 0).2.1 15 t) 11 0).2.1 15 = (w 11 0).2.1 15 := by unfold sA; rw [sO_at, oA_n (by decide)]
    obtain ⟨w2, e1, e2, e3, e4⟩ := ih (t + 1) (by omega) m (sA w 11 0 18 (110 * a + t) ((w 11 0).2.1 15 t)) (by omega) (by unfold sA; rw [sO_at]; exact h20) (fun u hu => by
      rw [k15]
      unfold sA
      rw [sO_at, oA_a]
      by_cases c : u = t
      · rw [c, upd_at]
      · rw [upd_ne (by omega)]; exact hr u (by omega))
    refine ⟨w2, ?_, S18.a.tr e2, fun u hu => by rw [e3 u hu, k15], fun u hu => ?_⟩
    · rw [fX11_image_34.eq_2]
      simp (disch := omega) only [↓mo_1, ↓mo_2, ad_m1, ite_m1_lt, ite_m2_lt, ite_le_m1, ite_eq_m1, ite_eq_m2, ite_m1_m1, ite_m2_m2, ite_T, ite_F, ite_nz, ite_zz, ite_m1_le, ite_m1_eq, oi_none, oi_some, ob_some, lw_def, ck_true, ckp_su, ite_lt_t, ite_lt_f, ite_le_t, ite_le_f, ite_eq_t, ite_eq_f, ck_inb, nI_add, sb_nI, mu_nI, nI_clamp, sO_at, sO_sO, Nat.add_sub_cancel, Nat.zero_add, Nat.add_zero, li_0, li_1, li_2, li_3, li_4, li_5, li_6, li_7, li_8, li_9, li_10, li_11, li_12, li_16, li_20, li_24, li_31, li_32, li_48, li_49, li_73, li_74, li_75, li_97, li_98, li_99, li_100, li_101, li_109, li_110, li_255, li_680, li_700, li_9999, li_65536, li_65537, h20]
      exact e1
    · rw [e4 u hu]
      unfold sA
      rw [sO_at, oA_a, upd_ne (by omega)]
theorem c_undo : Ac (fun w => fX9_undo w) (fun nd w => fX11_undo nd w) := by
  intro d hd
  cases d with
  | none =>
    refine Or.inl ⟨nI 0, 6, by omega, by omega, fun w q hq hp hX => ⟨w, XS.rf, ?_⟩, fun nd w w1 e hM => ⟨w1, SM.rf, ?_⟩⟩
    · unfold fX9_undo
      simp (disch := omega) only [↓mo_1, ↓mo_2, ad_m1, ite_m1_lt, ite_m2_lt, ite_le_m1, ite_eq_m1, ite_eq_m2, ite_m1_m1, ite_m2_m2, ite_T, ite_F, ite_nz, ite_zz, ite_m1_le, ite_m1_eq, oi_none, oi_some, ob_some, lw_def, ck_true, ckp_su, ite_lt_t, ite_lt_f, ite_le_t, ite_le_f, ite_eq_t, ite_eq_f, ck_inb, nI_add, sb_nI, mu_nI, nI_clamp, sO_at, sO_sO, Nat.add_sub_cancel, Nat.zero_add, Nat.add_zero, li_0, li_1, li_2, li_3, li_4, li_5, li_6, li_7, li_8, li_9, li_10, li_11, li_12, li_16, li_20, li_24, li_31, li_32, li_48, li_49, li_73, li_74, li_75, li_97, li_98, li_99, li_100, li_101, li_109, li_110, li_255, li_680, li_700, li_9999, li_65536, li_65537, hX.2.2.2.1.1, x_refuse]
    · unfold fX11_undo
      simp (disch := omega) only [↓mo_1, ↓mo_2, ad_m1, ite_m1_lt, ite_m2_lt, ite_le_m1, ite_eq_m1, ite_eq_m2, ite_m1_m1, ite_m2_m2, ite_T, ite_F, ite_nz, ite_zz, ite_m1_le, ite_m1_eq, oi_none, oi_some, ob_some, lw_def, ck_true, ckp_su, ite_lt_t, ite_lt_f, ite_le_t, ite_le_f, ite_eq_t, ite_eq_f, ck_inb, nI_add, sb_nI, mu_nI, nI_clamp, sO_at, sO_sO, Nat.add_sub_cancel, Nat.zero_add, Nat.add_zero, li_0, li_1, li_2, li_3, li_4, li_5, li_6, li_7, li_8, li_9, li_10, li_11, li_12, li_16, li_20, li_24, li_31, li_32, li_48, li_49, li_73, li_74, li_75, li_97, li_98, li_99, li_100, li_101, li_109, li_110, li_255, li_680, li_700, li_9999, li_65536, li_65537, ← e, show (w1 11 0).2.2.1 3 = 0 from hM, m_denied, isb_0]
  | some z =>
    obtain ⟨D, T, s, h, im⟩ := z
    obtain ⟨hD, h6, hT, hW, hQ, hH, hI⟩ := hd
    have h16 := hH.1
    by_cases h0 : h.1 = 0
    · refine Or.inl ⟨nI 0, 6, by omega, by omega, fun w q hq hp hX => ⟨w, XS.rf, ?_⟩, fun nd w w1 e ⟨d, b1, b2, b3, b4, b5, b6, b7⟩ => ⟨w1, SM.rf, ?_⟩⟩
      · have e1 := hX.2.2.2.2.1.1
        rw [h0] at e1
        unfold fX9_undo
        simp (disch := omega) only [↓mo_1, ↓mo_2, ad_m1, ite_m1_lt, ite_m2_lt, ite_le_m1, ite_eq_m1, ite_eq_m2, ite_m1_m1, ite_m2_m2, ite_T, ite_F, ite_nz, ite_zz, ite_m1_le, ite_m1_eq, oi_none, oi_some, ob_some, lw_def, ck_true, ckp_su, ite_lt_t, ite_lt_f, ite_le_t, ite_le_f, ite_eq_t, ite_eq_f, ck_inb, nI_add, sb_nI, mu_nI, nI_clamp, sO_at, sO_sO, Nat.add_sub_cancel, Nat.zero_add, Nat.add_zero, li_0, li_1, li_2, li_3, li_4, li_5, li_6, li_7, li_8, li_9, li_10, li_11, li_12, li_16, li_20, li_24, li_31, li_32, li_48, li_49, li_73, li_74, li_75, li_97, li_98, li_99, li_100, li_101, li_109, li_110, li_255, li_680, li_700, li_9999, li_65536, li_65537, e1, x_refuse]
      · rw [h0] at b6
        unfold fX11_undo
        simp (disch := omega) only [↓mo_1, ↓mo_2, ad_m1, ite_m1_lt, ite_m2_lt, ite_le_m1, ite_eq_m1, ite_eq_m2, ite_m1_m1, ite_m2_m2, ite_T, ite_F, ite_nz, ite_zz, ite_m1_le, ite_m1_eq, oi_none, oi_some, ob_some, lw_def, ck_true, ckp_su, ite_lt_t, ite_lt_f, ite_le_t, ite_le_f, ite_eq_t, ite_eq_f, ck_inb, nI_add, sb_nI, mu_nI, nI_clamp, sO_at, sO_sO, Nat.add_sub_cancel, Nat.zero_add, Nat.add_zero, li_0, li_1, li_2, li_3, li_4, li_5, li_6, li_7, li_8, li_9, li_10, li_11, li_12, li_16, li_20, li_24, li_31, li_32, li_48, li_49, li_73, li_74, li_75, li_97, li_98, li_99, li_100, li_101, li_109, li_110, li_255, li_680, li_700, li_9999, li_65536, li_65537, ← e, b1, b6, m_denied, isb_0]
    · obtain ⟨hW2, hQ2⟩ := hH.2 (h.1 - 1) (by omega)
      refine Or.inr ⟨nI 1, some (D, T, h.2 (h.1 - 1), (h.1 - 1, h.2), im), ⟨hD, h6, hT, hW2, hQ2, ⟨(show h.1 - 1 ≤ 16 by omega), fun i hi => hH.2 i (show i < h.1 by have : i < h.1 - 1 := hi; omega)⟩, hI⟩, fun w q hq hp hX => ?_, fun nd w w1 e hM => ?_⟩
      · obtain ⟨a1, a2, a3, a4, ⟨k1, p, k2, k3, k4⟩, a6, a7⟩ := hX
        have hx := k4 (h.1 - 1) (by omega)
        rw [show (p + 16 - h.1 + (h.1 - 1)) % 16 = (p + 15) % 16 by omega] at hx
        have e16 : p + 16 - 1 = p + 15 := by omega
        have hlt : (p + 15) % 16 < 16 := Nat.mod_lt _ (by omega)
        have c0 : sI w 2 0 1 (nI ((p + 15) % 16)) 7 (2 + (p + 15) % 16) = w 7 (2 + (p + 15) % 16) := sI_nc (by decide)
        obtain ⟨o, f1, f2, -⟩ := x_copyFrom (w := sI w 2 0 1 (nI ((p + 15) % 16))) (a := 0) (b := 2 + (p + 15) % 16) hD hW2 (by omega) (by rw [c0]; exact hx)
        have e1 : fX6_takeOut 0 0 (sI w 2 0 1 (nI ((p + 15) % 16))) (nI ((p + 15) % 16)) = some ((), sO (sI w 2 0 1 (nI ((p + 15) % 16))) 7 0 o) := by
          unfold fX6_takeOut
          rw [x_copyAt0 hlt]
          simp (disch := omega) only [↓mo_1, ↓mo_2, ad_m1, ite_m1_lt, ite_m2_lt, ite_le_m1, ite_eq_m1, ite_eq_m2, ite_m1_m1, ite_m2_m2, ite_T, ite_F, ite_nz, ite_zz, ite_m1_le, ite_m1_eq, oi_none, oi_some, ob_some, lw_def, ck_true, ckp_su, ite_lt_t, ite_lt_f, ite_le_t, ite_le_f, ite_eq_t, ite_eq_f, ck_inb, nI_add, sb_nI, mu_nI, nI_clamp, sO_at, sO_sO, Nat.add_sub_cancel, Nat.zero_add, Nat.add_zero, li_0, li_1, li_2, li_3, li_4, li_5, li_6, li_7, li_8, li_9, li_10, li_11, li_12, li_16, li_20, li_24, li_31, li_32, li_48, li_49, li_73, li_74, li_75, li_97, li_98, li_99, li_100, li_101, li_109, li_110, li_255, li_680, li_700, li_9999, li_65536, li_65537, f1]
        have e2 : (sO (sI w 2 0 1 (nI ((p + 15) % 16))) 7 0 o 2 0).1 2 = nI h.1 := by rw [sO_nc (by decide), sI_n (by decide)]; exact k1
        refine ⟨sI (sO (sI w 2 0 1 (nI ((p + 15) % 16))) 7 0 o) 2 0 2 (nI (h.1 - 1)), ⟨by rw [sI_nc (by decide), sO_nc (by decide), sI_nc (by decide)], fun k _ => by rw [sI_nc (by decide), sO_nc (by decide), sI_nc (by decide)], fun c j hc => by rw [sI_nc (by omega), sO_nc (by omega), sI_nc (by omega)]⟩, ⟨by rw [sI_nc (by decide), sO_nc (by decide), sI_nc (by decide)]; exact a1, ?_, by rw [sI_nc (by decide), sO_at]; exact f2, by rw [sI_nc (by decide), sO_nc (by decide), sI_nc (by decide)]; exact a4, ⟨sI_i, (p + 15) % 16, hlt, by rw [sI_n (by decide), sO_nc (by decide), sI_i], fun i hi => ?_⟩, by rw [sI_nc (by decide), sO_nc (by decide), sI_nc (by decide)]; exact a6, fun i hi => by rw [sI_nc (by decide), sO_nj (by omega), sI_nc (by decide)]; exact a7 i hi⟩, ?_⟩
        · unfold RT
          rw [sI_nc (by decide), sO_nc (by decide), sI_nc (by decide), sI_nc (by decide), sO_nc (by decide), sI_nc (by decide), sI_nc (by decide), sO_nc (by decide), sI_nc (by decide), sI_nc (by decide), sO_nc (by decide), sI_nc (by decide)]
          exact a2
        · have hi' : i < h.1 - 1 := hi
          rw [sI_nc (by decide), sO_nj (by omega), sI_nc (by decide)]
          have := k4 i (by omega)
          show RX (w 7 (2 + ((p + 15) % 16 + 16 - (h.1 - 1) + i) % 16)) (h.2 i)
          rw [show (p + 16 - h.1 + i) % 16 = ((p + 15) % 16 + 16 - (h.1 - 1) + i) % 16 by omega] at this
          exact this
        · have e3 : fX2_takeBack 0 w = some ((), sI (sO (sI w 2 0 1 (nI ((p + 15) % 16))) 7 0 o) 2 0 2 (nI (h.1 - 1))) := by
            have e5 : nI p + nI 16 - nI 1 = nI (p + 15) := by rw [nI_add, pk_sub (by omega), e16]
            unfold fX2_takeBack
            simp only [li_16, li_1, li_0, k3, e5]
            simp (disch := omega) only [↓mo_1, ↓mo_2, ad_m1, ite_m1_lt, ite_m2_lt, ite_le_m1, ite_eq_m1, ite_eq_m2, ite_m1_m1, ite_m2_m2, ite_T, ite_F, ite_nz, ite_zz, ite_m1_le, ite_m1_eq, oi_none, oi_some, ob_some, lw_def, ck_true, ckp_su, ite_lt_t, ite_lt_f, ite_le_t, ite_le_f, ite_eq_t, ite_eq_f, ck_inb, nI_add, nI_clamp, sO_at, sO_sO, Nat.add_sub_cancel, Nat.zero_add, Nat.add_zero, li_0, li_1, li_2, li_3, li_4, li_5, li_6, li_7, li_8, li_9, li_10, li_11, li_12, li_16, li_20, li_24, li_31, li_32, li_48, li_49, li_73, li_74, li_75, li_97, li_98, li_99, li_100, li_101, li_109, li_110, li_255, li_680, li_700, li_9999, li_65536, li_65537, pk_rem, sI_i, e1, e2]
            rw [sb_nI (by omega)]
          unfold fX9_undo
          simp (disch := omega) only [↓mo_1, ↓mo_2, ad_m1, ite_m1_lt, ite_m2_lt, ite_le_m1, ite_eq_m1, ite_eq_m2, ite_m1_m1, ite_m2_m2, ite_T, ite_F, ite_nz, ite_zz, ite_m1_le, ite_m1_eq, oi_none, oi_some, ob_some, lw_def, ck_true, ckp_su, ite_lt_t, ite_lt_f, ite_le_t, ite_le_f, ite_eq_t, ite_eq_f, ck_inb, nI_add, sb_nI, mu_nI, nI_clamp, sO_at, sO_sO, Nat.add_sub_cancel, Nat.zero_add, Nat.add_zero, li_0, li_1, li_2, li_3, li_4, li_5, li_6, li_7, li_8, li_9, li_10, li_11, li_12, li_16, li_20, li_24, li_31, li_32, li_48, li_49, li_73, li_74, li_75, li_97, li_98, li_99, li_100, li_101, li_109, li_110, li_255, li_680, li_700, li_9999, li_65536, li_65537, k1, e3]
      · have hM' := hM
        obtain ⟨d, b1, b2, b3, b4, b5, b6, b7, b8, b9⟩ := hM'
        have s0 : ∀ k, k ≠ 19 → (sI w1 11 0 19 (nI (h.1 - 1)) 11 0).1 k = (w1 11 0).1 k := fun k hk => sI_n hk
        obtain ⟨w2, e1, e2, e3⟩ := m_un (nd := nd) (a := h.1 - 1) (by omega) 110 0 (by omega) fuel0 (sI w1 11 0 19 (nI (h.1 - 1))) (by unfold fuel0; omega) sI_i (fun u hu => absurd hu (Nat.not_lt_zero u))
        have e10 : w2 10 d = w1 10 d := by rw [e2.1 10 d (by omega), sI_nc (by decide)]
        have h17 : (w2 11 0).2.1 17 = (w1 11 0).2.1 17 := by rw [e2.2.2.2 17 (by decide), sI_2]
        refine ⟨w2, ⟨by rw [e2.2.2.1, s0 6 (by decide)], by rw [e2.2.2.1, s0 12 (by decide)], by rw [e2.2.2.2 5 (by decide), sI_2], fun c j _ hc => by rw [e2.1 c j (by omega), sI_nc hc]⟩, ⟨d, by rw [e2.2.1, sI_2]; exact b1, b2, by rw [e10]; exact b3, by rw [e10]; exact b4, ?_, by rw [e2.2.2.1, sI_i], ?_, by rw [e2.2.2.1, s0 20 (by decide)]; exact b8, by rw [e2.2.2.2 18 (by decide), sI_2]; exact b9⟩, ?_⟩
        · refine (b7 (h.1 - 1) (by omega)).cg (hW2.n24 hD) (hW2.j8 hD) (fun t ht => ?_)
          rw [e3 t ht, sI_2]
        · intro i hi
          have hi' : i < h.1 - 1 := hi
          rw [h17]
          exact b7 i (by omega)
        · unfold fX11_undo
          simp (disch := omega) only [↓mo_1, ↓mo_2, ad_m1, ite_m1_lt, ite_m2_lt, ite_le_m1, ite_eq_m1, ite_eq_m2, ite_m1_m1, ite_m2_m2, ite_T, ite_F, ite_nz, ite_zz, ite_m1_le, ite_m1_eq, oi_none, oi_some, ob_some, lw_def, ck_true, ckp_su, ite_lt_t, ite_lt_f, ite_le_t, ite_le_f, ite_eq_t, ite_eq_f, ck_inb, nI_add, sb_nI, mu_nI, nI_clamp, sO_at, sO_sO, Nat.add_sub_cancel, Nat.zero_add, Nat.add_zero, li_0, li_1, li_2, li_3, li_4, li_5, li_6, li_7, li_8, li_9, li_10, li_11, li_12, li_16, li_20, li_24, li_31, li_32, li_48, li_49, li_73, li_74, li_75, li_97, li_98, li_99, li_100, li_101, li_109, li_110, li_255, li_680, li_700, li_9999, li_65536, li_65537, ← e, b1, b6, e1]
theorem c_image : Ac (fun w => fX9_image w) (fun nd w => fX11_image nd w) := by
  intro d hd
  cases d with
  | none =>
    refine Or.inl ⟨m1, 1, by omega, by omega, fun w q hq hp hX => ⟨w, XS.rf, ?_⟩, fun nd w w1 e hM => ⟨w1, SM.rf, ?_⟩⟩
    · unfold fX9_image
      simp (disch := omega) only [↓mo_1, ↓mo_2, ad_m1, ite_m1_lt, ite_m2_lt, ite_le_m1, ite_eq_m1, ite_eq_m2, ite_m1_m1, ite_m2_m2, ite_T, ite_F, ite_nz, ite_zz, ite_m1_le, ite_m1_eq, oi_none, oi_some, ob_some, lw_def, ck_true, ckp_su, ite_lt_t, ite_lt_f, ite_le_t, ite_le_f, ite_eq_t, ite_eq_f, ck_inb, nI_add, sb_nI, mu_nI, nI_clamp, sO_at, sO_sO, Nat.add_sub_cancel, Nat.zero_add, Nat.add_zero, li_0, li_1, li_2, li_3, li_4, li_5, li_6, li_7, li_8, li_9, li_10, li_11, li_12, li_16, li_20, li_24, li_31, li_32, li_48, li_49, li_73, li_74, li_75, li_97, li_98, li_99, li_100, li_101, li_109, li_110, li_255, li_680, li_700, li_9999, li_65536, li_65537, x_hD0 hp hq hX.1.1, x_refuse]
    · unfold fX11_image
      simp (disch := omega) only [↓mo_1, ↓mo_2, ad_m1, ite_m1_lt, ite_m2_lt, ite_le_m1, ite_eq_m1, ite_eq_m2, ite_m1_m1, ite_m2_m2, ite_T, ite_F, ite_nz, ite_zz, ite_m1_le, ite_m1_eq, oi_none, oi_some, ob_some, lw_def, ck_true, ckp_su, ite_lt_t, ite_lt_f, ite_le_t, ite_le_f, ite_eq_t, ite_eq_f, ck_inb, nI_add, sb_nI, mu_nI, nI_clamp, sO_at, sO_sO, Nat.add_sub_cancel, Nat.zero_add, Nat.add_zero, li_0, li_1, li_2, li_3, li_4, li_5, li_6, li_7, li_8, li_9, li_10, li_11, li_12, li_16, li_20, li_24, li_31, li_32, li_48, li_49, li_73, li_74, li_75, li_97, li_98, li_99, li_100, li_101, li_109, li_110, li_255, li_680, li_700, li_9999, li_65536, li_65537, ← e, show (w1 11 0).2.2.1 3 = 0 from hM, m_refused]
  | some z =>
    obtain ⟨D, T, s, h, im⟩ := z
    obtain ⟨hD, h6, hT, hW, hQ, hH, hI⟩ := hd
    have hb1 := hD.1
    have h3 := hI.1
    by_cases h0 : im.1 = 3
    · refine Or.inl ⟨m1, 3, by omega, by omega, fun w q hq hp hX => ⟨w, XS.rf, ?_⟩, fun nd w w1 e ⟨d, b1, b2, b3, b4, b5, b6, b7, b8, b9⟩ => ⟨w1, SM.rf, ?_⟩⟩
      · have e1 := hX.2.2.2.2.2.1
        rw [h0] at e1
        unfold fX9_image
        simp (disch := omega) only [↓mo_1, ↓mo_2, ad_m1, ite_m1_lt, ite_m2_lt, ite_le_m1, ite_eq_m1, ite_eq_m2, ite_m1_m1, ite_m2_m2, ite_T, ite_F, ite_nz, ite_zz, ite_m1_le, ite_m1_eq, oi_none, oi_some, ob_some, lw_def, ck_true, ckp_su, ite_lt_t, ite_lt_f, ite_le_t, ite_le_f, ite_eq_t, ite_eq_f, ck_inb, nI_add, sb_nI, mu_nI, nI_clamp, sO_at, sO_sO, Nat.add_sub_cancel, Nat.zero_add, Nat.add_zero, li_0, li_1, li_2, li_3, li_4, li_5, li_6, li_7, li_8, li_9, li_10, li_11, li_12, li_16, li_20, li_24, li_31, li_32, li_48, li_49, li_73, li_74, li_75, li_97, li_98, li_99, li_100, li_101, li_109, li_110, li_255, li_680, li_700, li_9999, li_65536, li_65537, x_hD1 hp hq hX.1.2.2.1 hD.1 (by omega), e1, x_refuse]
      · rw [h0] at b8
        unfold fX11_image
        simp (disch := omega) only [↓mo_1, ↓mo_2, ad_m1, ite_m1_lt, ite_m2_lt, ite_le_m1, ite_eq_m1, ite_eq_m2, ite_m1_m1, ite_m2_m2, ite_T, ite_F, ite_nz, ite_zz, ite_m1_le, ite_m1_eq, oi_none, oi_some, ob_some, lw_def, ck_true, ckp_su, ite_lt_t, ite_lt_f, ite_le_t, ite_le_f, ite_eq_t, ite_eq_f, ck_inb, nI_add, sb_nI, mu_nI, nI_clamp, sO_at, sO_sO, Nat.add_sub_cancel, Nat.zero_add, Nat.add_zero, li_0, li_1, li_2, li_3, li_4, li_5, li_6, li_7, li_8, li_9, li_10, li_11, li_12, li_16, li_20, li_24, li_31, li_32, li_48, li_49, li_73, li_74, li_75, li_97, li_98, li_99, li_100, li_101, li_109, li_110, li_255, li_680, li_700, li_9999, li_65536, li_65537, ← e, b1, b8, m_refused]
    · refine Or.inr ⟨nI im.1, some (D, T, s, h, (im.1 + 1, va_up im.2 im.1 s)), ⟨hD, h6, hT, hW, hQ, hH, ⟨(show im.1 + 1 ≤ 3 by omega), fun i hi => ?_⟩⟩, fun w q hq hp hX => ?_, fun nd w w1 e hM => ?_⟩
      · have hi' : i < im.1 + 1 := hi
        show WFS D (va_up im.2 im.1 s i) ∧ QT (va_up im.2 im.1 s i)
        by_cases c : i = im.1
        · rw [c, va_up_self]; exact ⟨hW, hQ⟩
        · rw [va_up_ne _ _ c]; exact hI.2 i (by omega)
      · have hX' := hX
        obtain ⟨a1, a2, a3, a4, ⟨k1, p, k2, k3, k4⟩, a6, a7⟩ := hX'
        obtain ⟨o, f1, f2, -⟩ := x_copyFrom (w := w) (a := 18 + im.1) (b := 0) hD hW (by omega) a3
        have e1 : fX6_layIn 1 0 w (nI im.1) = some ((), sO w 7 (18 + im.1) o) := by
          unfold fX6_layIn
          rw [x_copyAt1 (by omega)]
          simp (disch := omega) only [↓mo_1, ↓mo_2, ad_m1, ite_m1_lt, ite_m2_lt, ite_le_m1, ite_eq_m1, ite_eq_m2, ite_m1_m1, ite_m2_m2, ite_T, ite_F, ite_nz, ite_zz, ite_m1_le, ite_m1_eq, oi_none, oi_some, ob_some, lw_def, ck_true, ckp_su, ite_lt_t, ite_lt_f, ite_le_t, ite_le_f, ite_eq_t, ite_eq_f, ck_inb, nI_add, sb_nI, mu_nI, nI_clamp, sO_at, sO_sO, Nat.add_sub_cancel, Nat.zero_add, Nat.add_zero, li_0, li_1, li_2, li_3, li_4, li_5, li_6, li_7, li_8, li_9, li_10, li_11, li_12, li_16, li_20, li_24, li_31, li_32, li_48, li_49, li_73, li_74, li_75, li_97, li_98, li_99, li_100, li_101, li_109, li_110, li_255, li_680, li_700, li_9999, li_65536, li_65537, f1]
        have e2 : (sO w 7 (18 + im.1) o 9 0).1 12 = nI im.1 := by rw [sO_nc (by decide)]; exact a6
        refine ⟨sI (sO w 7 (18 + im.1) o) 9 0 12 (nI (im.1 + 1)), ⟨by rw [sI_2, sO_nc (by decide)], fun k hk => by rw [sI_n hk, sO_nc (by decide)], fun c j hc => by rw [sI_nc (by omega), sO_nc (by omega)]⟩, ⟨by rw [sI_nc (by decide), sO_nc (by decide)]; exact a1, ?_, by rw [sI_nc (by decide), sO_nj (by omega)]; exact a3, by rw [sI_nc (by decide), sO_nc (by decide)]; exact a4, ⟨by rw [sI_nc (by decide), sO_nc (by decide)]; exact k1, p, k2, by rw [sI_nc (by decide), sO_nc (by decide)]; exact k3, fun i hi => by rw [sI_nc (by decide), sO_nj (by omega)]; exact k4 i hi⟩, sI_i, fun i hi => ?_⟩, ?_⟩
        · unfold RT
          rw [sI_nc (by decide), sO_nc (by decide), sI_nc (by decide), sO_nc (by decide), sI_nc (by decide), sO_nc (by decide), sI_nc (by decide), sO_nc (by decide)]
          exact a2
        · have hi' : i < im.1 + 1 := hi
          rw [sI_nc (by decide)]
          show RX (sO w 7 (18 + im.1) o 7 (18 + i)) (va_up im.2 im.1 s i)
          by_cases c : i = im.1
          · rw [c, va_up_self, sO_at]; exact f2
          · rw [va_up_ne _ _ c, sO_nj (by omega)]; exact a7 i (by omega)
        · unfold fX9_image
          simp (disch := omega) only [↓mo_1, ↓mo_2, ad_m1, ite_m1_lt, ite_m2_lt, ite_le_m1, ite_eq_m1, ite_eq_m2, ite_m1_m1, ite_m2_m2, ite_T, ite_F, ite_nz, ite_zz, ite_m1_le, ite_m1_eq, oi_none, oi_some, ob_some, lw_def, ck_true, ckp_su, ite_lt_t, ite_lt_f, ite_le_t, ite_le_f, ite_eq_t, ite_eq_f, ck_inb, nI_add, sb_nI, mu_nI, nI_clamp, sO_at, sO_sO, Nat.add_sub_cancel, Nat.zero_add, Nat.add_zero, li_0, li_1, li_2, li_3, li_4, li_5, li_6, li_7, li_8, li_9, li_10, li_11, li_12, li_16, li_20, li_24, li_31, li_32, li_48, li_49, li_73, li_74, li_75, li_97, li_98, li_99, li_100, li_101, li_109, li_110, li_255, li_680, li_700, li_9999, li_65536, li_65537, x_hD1 hp hq hX.1.2.2.1 hD.1 (by omega), a6, e1, e2, sI_i, x_accept]
      · have hM' := hM
        obtain ⟨d, b1, b2, b3, b4, b5, b6, b7, b8, b9⟩ := hM'
        obtain ⟨w2, e1, e2, e3, e4⟩ := m_im (nd := nd) (a := im.1) (by omega) 110 0 (by omega) fuel0 w1 (by unfold fuel0; omega) b8 (fun u hu => absurd hu (Nat.not_lt_zero u))
        have e10 : w2 10 d = w1 10 d := e2.1 10 d (by omega)
        refine ⟨sI w2 11 0 20 (nI (im.1 + 1)), ⟨by rw [sI_n (by decide), e2.2.2.1], by rw [sI_n (by decide), e2.2.2.1], by rw [sI_2, e2.2.2.2 5 (by decide)], fun c j _ hc => by rw [sI_nc hc, e2.1 c j (by omega)]⟩, ⟨d, by rw [sI_2, e2.2.1]; exact b1, b2, by rw [sI_nc (by decide), e10]; exact b3, by rw [sI_nc (by decide), e10]; exact b4, by rw [sI_2, e2.2.2.2 15 (by decide)]; exact b5, by rw [sI_n (by decide), e2.2.2.1]; exact b6, by rw [sI_2, e2.2.2.2 17 (by decide)]; exact b7, sI_i, fun i hi => ?_⟩, ?_⟩
        · have hi' : i < im.1 + 1 := hi
          rw [sI_2]
          show RM (fun t => (w2 11 0).2.1 18 (110 * i + t)) (va_up im.2 im.1 s i)
          by_cases c : i = im.1
          · rw [c, va_up_self]
            exact b5.cg (hW.n24 hD) (hW.j8 hD) (fun t ht => e3 t ht)
          · rw [va_up_ne _ _ c]
            have hw := (hI.2 i (by omega)).1
            refine (b9 i (by omega)).cg (hw.n24 hD) (hw.j8 hD) (fun t ht => ?_)
            exact e4 _ (by omega)
        · unfold fX11_image
          simp (disch := omega) only [↓mo_1, ↓mo_2, ad_m1, ite_m1_lt, ite_m2_lt, ite_le_m1, ite_eq_m1, ite_eq_m2, ite_m1_m1, ite_m2_m2, ite_T, ite_F, ite_nz, ite_zz, ite_m1_le, ite_m1_eq, oi_none, oi_some, ob_some, lw_def, ck_true, ckp_su, ite_lt_t, ite_lt_f, ite_le_t, ite_le_f, ite_eq_t, ite_eq_f, ck_inb, nI_add, sb_nI, mu_nI, nI_clamp, sO_at, sO_sO, Nat.add_sub_cancel, Nat.zero_add, Nat.add_zero, li_0, li_1, li_2, li_3, li_4, li_5, li_6, li_7, li_8, li_9, li_10, li_11, li_12, li_16, li_20, li_24, li_31, li_32, li_48, li_49, li_73, li_74, li_75, li_97, li_98, li_99, li_100, li_101, li_109, li_110, li_255, li_680, li_700, li_9999, li_65536, li_65537, ← e, b1, b8, e1]
theorem x_backO {x : Int32} {n : Nat} (h12 : (w 9 0).1 12 = nI n) (hx : x < nI 0 ∨ ¬ x < nI 0 ∧ nI n ≤ x) : fX9_back w x = some (nI 0, sI w 9 0 13 (nI 1)) := by
  unfold fX9_back
  rw [h12]
  rcases hx with hx | ⟨hx, hy⟩
  · exact (if_pos hx).trans rfl
  · refine (if_neg hx).trans ((if_neg ?_).trans rfl)
    rw [Int32.le_iff_toInt_le] at hy
    rw [Int32.lt_iff_toInt_lt]
    omega
theorem c_back {x : Int32} : Ac (fun w => fX9_back w x) (fun nd w => fX11_back nd w x) := by
  intro d hd
  cases d with
  | none =>
    refine Or.inl ⟨nI 0, 1, by omega, by omega, fun w q hq hp hX => ⟨w, XS.rf, ?_⟩, fun nd w w1 e hM => ⟨w1, SM.rf, ?_⟩⟩
    · exact x_backO hX.2.2.2.2 (n_z x)
    · unfold fX11_back
      simp (disch := omega) only [↓mo_1, ↓mo_2, ad_m1, ite_m1_lt, ite_m2_lt, ite_le_m1, ite_eq_m1, ite_eq_m2, ite_m1_m1, ite_m2_m2, ite_T, ite_F, ite_nz, ite_zz, ite_m1_le, ite_m1_eq, oi_none, oi_some, ob_some, lw_def, ck_true, ckp_su, ite_lt_t, ite_lt_f, ite_le_t, ite_le_f, ite_eq_t, ite_eq_f, ck_inb, nI_add, sb_nI, mu_nI, nI_clamp, sO_at, sO_sO, Nat.add_sub_cancel, Nat.zero_add, Nat.add_zero, li_0, li_1, li_2, li_3, li_4, li_5, li_6, li_7, li_8, li_9, li_10, li_11, li_12, li_16, li_20, li_24, li_31, li_32, li_48, li_49, li_73, li_74, li_75, li_97, li_98, li_99, li_100, li_101, li_109, li_110, li_255, li_680, li_700, li_9999, li_65536, li_65537, ← e, show (w1 11 0).2.2.1 3 = 0 from hM, m_denied, isb_0]
  | some z =>
    obtain ⟨D, T, s, h, im⟩ := z
    obtain ⟨hD, h6, hT, hW, hQ, hH, hI⟩ := hd
    have h3 := hI.1
    rcases rng x (show im.1 < 2 ^ 31 by omega) with ⟨i, hi, rfl⟩ | hx
    · obtain ⟨hW2, hQ2⟩ := hI.2 i hi
      refine Or.inr ⟨nI 1, some (D, T, im.2 i, (0, h.2), im), ⟨hD, h6, hT, hW2, hQ2, ⟨Nat.zero_le _, fun i hi => absurd hi (Nat.not_lt_zero i)⟩, hI⟩, fun w q hq hp hX => ?_, fun nd w w1 e hM => ?_⟩
      · obtain ⟨a1, a2, a3, a4, ⟨k1, p, k2, k3, k4⟩, a6, a7⟩ := hX
        obtain ⟨o, f1, f2, -⟩ := x_copyFrom (w := w) (a := 0) (b := 18 + i) hD hW2 (by omega) (a7 i hi)
        have e1 : fX6_takeOut 1 0 w (nI i) = some ((), sO w 7 0 o) := by
          unfold fX6_takeOut
          rw [x_copyAt1 (by omega)]
          simp (disch := omega) only [↓mo_1, ↓mo_2, ad_m1, ite_m1_lt, ite_m2_lt, ite_le_m1, ite_eq_m1, ite_eq_m2, ite_m1_m1, ite_m2_m2, ite_T, ite_F, ite_nz, ite_zz, ite_m1_le, ite_m1_eq, oi_none, oi_some, ob_some, lw_def, ck_true, ckp_su, ite_lt_t, ite_lt_f, ite_le_t, ite_le_f, ite_eq_t, ite_eq_f, ck_inb, nI_add, sb_nI, mu_nI, nI_clamp, sO_at, sO_sO, Nat.add_sub_cancel, Nat.zero_add, Nat.add_zero, li_0, li_1, li_2, li_3, li_4, li_5, li_6, li_7, li_8, li_9, li_10, li_11, li_12, li_16, li_20, li_24, li_31, li_32, li_48, li_49, li_73, li_74, li_75, li_97, li_98, li_99, li_100, li_101, li_109, li_110, li_255, li_680, li_700, li_9999, li_65536, li_65537, f1]
        refine ⟨sI (sO w 7 0 o) 2 0 2 (nI 0), ⟨by rw [sI_nc (by decide), sO_nc (by decide)], fun k _ => by rw [sI_nc (by decide), sO_nc (by decide)], fun c j hc => by rw [sI_nc (by omega), sO_nc (by omega)]⟩, ⟨by rw [sI_nc (by decide), sO_nc (by decide)]; exact a1, ?_, by rw [sI_nc (by decide), sO_at]; exact f2, by rw [sI_nc (by decide), sO_nc (by decide)]; exact a4, ⟨sI_i, p, k2, by rw [sI_n (by decide), sO_nc (by decide)]; exact k3, fun i hi => absurd hi (Nat.not_lt_zero i)⟩, by rw [sI_nc (by decide), sO_nc (by decide)]; exact a6, fun j hj => by rw [sI_nc (by decide), sO_nj (by omega)]; exact a7 j hj⟩, ?_⟩
        · unfold RT
          rw [sI_nc (by decide), sO_nc (by decide), sI_nc (by decide), sO_nc (by decide), sI_nc (by decide), sO_nc (by decide), sI_nc (by decide), sO_nc (by decide)]
          exact a2
        · unfold fX9_back fX2_forget
          simp (disch := omega) only [↓mo_1, ↓mo_2, ad_m1, ite_m1_lt, ite_m2_lt, ite_le_m1, ite_eq_m1, ite_eq_m2, ite_m1_m1, ite_m2_m2, ite_T, ite_F, ite_nz, ite_zz, ite_m1_le, ite_m1_eq, oi_none, oi_some, ob_some, lw_def, ck_true, ckp_su, ite_lt_t, ite_lt_f, ite_le_t, ite_le_f, ite_eq_t, ite_eq_f, ck_inb, nI_add, sb_nI, mu_nI, nI_clamp, sO_at, sO_sO, Nat.add_sub_cancel, Nat.zero_add, Nat.add_zero, li_0, li_1, li_2, li_3, li_4, li_5, li_6, li_7, li_8, li_9, li_10, li_11, li_12, li_16, li_20, li_24, li_31, li_32, li_48, li_49, li_73, li_74, li_75, li_97, li_98, li_99, li_100, li_101, li_109, li_110, li_255, li_680, li_700, li_9999, li_65536, li_65537, a6, e1]
      · have hM' := hM
        obtain ⟨d, b1, b2, b3, b4, b5, b6, b7, b8, b9⟩ := hM'
        obtain ⟨w2, e1, e2, e3⟩ := m_bk (nd := nd) (a := i) (by omega) 110 0 (by omega) fuel0 w1 (by unfold fuel0; omega) (fun u hu => absurd hu (Nat.not_lt_zero u))
        have e10 : w2 10 d = w1 10 d := e2.1 10 d (by omega)
        refine ⟨sI w2 11 0 19 (nI 0), ⟨by rw [sI_n (by decide), e2.2.2.1], by rw [sI_n (by decide), e2.2.2.1], by rw [sI_2, e2.2.2.2 5 (by decide)], fun c j _ hc => by rw [sI_nc hc, e2.1 c j (by omega)]⟩, ⟨d, by rw [sI_2, e2.2.1]; exact b1, b2, by rw [sI_nc (by decide), e10]; exact b3, by rw [sI_nc (by decide), e10]; exact b4, ?_, sI_i, fun i hi => absurd hi (Nat.not_lt_zero i), by rw [sI_n (by decide), e2.2.2.1]; exact b8, by rw [sI_2, e2.2.2.2 18 (by decide)]; exact b9⟩, ?_⟩
        · rw [sI_2]
          exact (b9 i hi).cg (hW2.n24 hD) (hW2.j8 hD) (fun t ht => e3 t ht)
        · unfold fX11_back
          simp (disch := omega) only [↓mo_1, ↓mo_2, ad_m1, ite_m1_lt, ite_m2_lt, ite_le_m1, ite_eq_m1, ite_eq_m2, ite_m1_m1, ite_m2_m2, ite_T, ite_F, ite_nz, ite_zz, ite_m1_le, ite_m1_eq, oi_none, oi_some, ob_some, lw_def, ck_true, ckp_su, ite_lt_t, ite_lt_f, ite_le_t, ite_le_f, ite_eq_t, ite_eq_f, ck_inb, nI_add, sb_nI, mu_nI, nI_clamp, sO_at, sO_sO, Nat.add_sub_cancel, Nat.zero_add, Nat.add_zero, li_0, li_1, li_2, li_3, li_4, li_5, li_6, li_7, li_8, li_9, li_10, li_11, li_12, li_16, li_20, li_24, li_31, li_32, li_48, li_49, li_73, li_74, li_75, li_97, li_98, li_99, li_100, li_101, li_109, li_110, li_255, li_680, li_700, li_9999, li_65536, li_65537, ← e, b1, b8, e1]
    · refine Or.inl ⟨nI 0, 1, by omega, by omega, fun w q hq hp hX => ⟨w, XS.rf, ?_⟩, fun nd w w1 e ⟨d, b1, b2, b3, b4, b5, b6, b7, b8, b9⟩ => ⟨w1, SM.rf, ?_⟩⟩
      · exact x_backO hX.2.2.2.2.2.1 hx
      · unfold fX11_back
        simp (disch := omega) only [↓mo_1, ↓mo_2, ad_m1, ite_m1_lt, ite_m2_lt, ite_le_m1, ite_eq_m1, ite_eq_m2, ite_m1_m1, ite_m2_m2, ite_T, ite_F, ite_nz, ite_zz, ite_m1_le, ite_m1_eq, oi_none, oi_some, ob_some, lw_def, ck_true, ckp_su, ite_lt_t, ite_lt_f, ite_le_t, ite_le_f, ite_eq_t, ite_eq_f, ck_inb, nI_add, sb_nI, mu_nI, nI_clamp, sO_at, sO_sO, Nat.add_sub_cancel, Nat.zero_add, Nat.add_zero, li_0, li_1, li_2, li_3, li_4, li_5, li_6, li_7, li_8, li_9, li_10, li_11, li_12, li_16, li_20, li_24, li_31, li_32, li_48, li_49, li_73, li_74, li_75, li_97, li_98, li_99, li_100, li_101, li_109, li_110, li_255, li_680, li_700, li_9999, li_65536, li_65537, ← e, b1, b8, m_denied, isb_0]
        rcases hx with hx | ⟨hx, hy⟩
        · exact if_pos hx
        · refine (if_neg hx).trans (if_neg ?_)
          rw [Int32.le_iff_toInt_le] at hy
          rw [Int32.lt_iff_toInt_lt]
          omega
end UNDO
