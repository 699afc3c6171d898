/-! ===== the lines of a text, the reference ===== -/
/-- what the reading of a text leaves as it is -/
def SV (w w2 : Wd) : Prop := (∀ c i, ¬ (c = 11 ∧ i = 0) → w2 c i = w c i) ∧ (w2 11 0).2.1 = (w 11 0).2.1 ∧ (w2 11 0).2.2.1 = (w 11 0).2.2.1 ∧ ∀ k, k < 8 ∨ 13 < k → (w2 11 0).1 k = (w 11 0).1 k
/-- at a fault: the rest is passed over -/
def OV (w w2 : Wd) (f pl : Nat) : Prop := SV w w2 ∧ (w2 11 0).1 9 = nI 5 ∧ (w2 11 0).1 12 = nI f ∧ (w2 11 0).1 13 = nI pl
section PM
variable {w w2 : Wd} {X : Tx} {D : Dk} {T : Tk} {p nd d : Nat}
theorem SG.sv (h : SG w w2) : SV w w2 := ⟨h.1, h.2.1, h.2.2.1, fun k hk => h.2.2.2 k (by omega) (by omega) (by omega) (by omega)⟩
theorem SV.rf : SV w w := ⟨fun _ _ _ => rfl, rfl, rfl, fun _ _ => rfl⟩
theorem SV.tr {w3 : Wd} (h : SV w w2) (h2 : SV w2 w3) : SV w w3 := ⟨fun c i z => (h2.1 c i z).trans (h.1 c i z), h2.2.1.trans h.2.1, h2.2.2.1.trans h.2.2.1, fun k a => (h2.2.2.2 k a).trans (h.2.2.2 k a)⟩
theorem SV.i {k : Nat} {v : Int32} (h : 8 ≤ k) (h2 : k ≤ 13) : SV w (sI w 11 0 k v) := ⟨fun c i z => sO_ne z, by rw [sI_2], by rw [sI_2], fun m hm => sI_n (by omega)⟩
theorem OV.pre {w0 : Wd} {f pl : Nat} (h : SV w0 w) (h2 : OV w w2 f pl) : OV w0 w2 f pl := ⟨h.tr h2.1, h2.2⟩
theorem ME.sv (h : ME w X) (hs : SV w w2) : ME w2 X := ⟨by rw [hs.2.2.2 7 (by omega)]; exact h.1, by rw [hs.2.1]; exact h.2⟩
theorem sg_lt {k : Nat} : sgK k < 5 := by unfold sgK; split <;> (try split) <;> (try split) <;> (try split) <;> omega
theorem sg_2 {k : Nat} : sgK k = 3 ↔ k = 2 := by unfold sgK; split <;> (try split) <;> (try split) <;> (try split) <;> omega
theorem sg_3 {k : Nat} : sgK k = 4 ↔ k = 3 := by unfold sgK; split <;> (try split) <;> (try split) <;> (try split) <;> omega
theorem sg_0 {k : Nat} : sgK k = 1 ↔ k = 0 := by unfold sgK; split <;> (try split) <;> (try split) <;> (try split) <;> omega
/-! a fault -/
theorem m_fl {t : Tt} {f : Nat} (h : MT w X t) : ∃ w2 : Wd, fX11_flaw nd w (nI f) = some ((), w2) ∧ OV w w2 f t.2.1 := by
  have h9 := h.1
  have hl := sg_lt (k := t.1)
  refine ⟨sI (sI (sI w 11 0 12 (nI f)) 11 0 13 (nI t.2.1)) 11 0 9 (nI 5), ?_, ⟨(SV.i (by omega) (by omega)).tr ((SV.i (by omega) (by omega)).tr (SV.i (by omega) (by omega))), sI_i, by rw [sI_n (by decide), sI_n (by decide), sI_i], by rw [sI_n (by decide), sI_i]⟩⟩
  have e : (sI w 11 0 12 (nI f) 11 0).1 10 = nI t.2.1 := by rw [sI_n (by decide)]; exact h.2.1
  unfold fX11_flaw
  simp (disch := omega) only [↓mo_1, ↓mo_2, ad_m1, ite_m1_lt, ite_m2_lt, ite_le_m1, ite_eq_m1, ite_eq_m2, ite_m1_m1, ite_m2_m2, ite_T, ite_F, ite_nz, ite_zz, ite_m1_le, ite_m1_eq, oi_none, oi_some, ob_some, lw_def, ck_true, ckp_su, ite_lt_t, ite_lt_f, ite_le_t, ite_le_f, ite_eq_t, ite_eq_f, ck_inb, nI_add, sb_nI, mu_nI, nI_clamp, sO_at, sO_sO, Nat.add_sub_cancel, Nat.zero_add, Nat.add_zero, li_0, li_1, li_2, li_3, li_4, li_5, li_6, li_7, li_8, li_9, li_10, li_11, li_12, li_16, li_20, li_24, li_31, li_32, li_48, li_49, li_73, li_74, li_75, li_97, li_98, li_99, li_100, li_101, li_109, li_110, li_255, li_680, li_700, li_9999, li_65536, li_65537, h9, e]
/-! behind a fault -/
theorem o_fl {v : Int32} (h : (w 11 0).1 9 = nI 5) : fX11_flaw nd w v = some ((), w) := by
  unfold fX11_flaw
  simp (disch := omega) only [↓mo_1, ↓mo_2, ad_m1, ite_m1_lt, ite_m2_lt, ite_le_m1, ite_eq_m1, ite_eq_m2, ite_m1_m1, ite_m2_m2, ite_T, ite_F, ite_nz, ite_zz, ite_m1_le, ite_m1_eq, oi_none, oi_some, ob_some, lw_def, ck_true, ckp_su, ite_lt_t, ite_lt_f, ite_le_t, ite_le_f, ite_eq_t, ite_eq_f, ck_inb, nI_add, sb_nI, mu_nI, nI_clamp, sO_at, sO_sO, Nat.add_sub_cancel, Nat.zero_add, Nat.add_zero, li_0, li_1, li_2, li_3, li_4, li_5, li_6, li_7, li_8, li_9, li_10, li_11, li_12, li_16, li_20, li_24, li_31, li_32, li_48, li_49, li_73, li_74, li_75, li_97, li_98, li_99, li_100, li_101, li_109, li_110, li_255, li_680, li_700, li_9999, li_65536, li_65537, h]
theorem o_go (h : (w 11 0).1 9 = nI 5) : fX11_goesOn nd w = some ((), w) := by
  unfold fX11_goesOn
  simp (disch := omega) only [↓mo_1, ↓mo_2, ad_m1, ite_m1_lt, ite_m2_lt, ite_le_m1, ite_eq_m1, ite_eq_m2, ite_m1_m1, ite_m2_m2, ite_T, ite_F, ite_nz, ite_zz, ite_m1_le, ite_m1_eq, oi_none, oi_some, ob_some, lw_def, ck_true, ckp_su, ite_lt_t, ite_lt_f, ite_le_t, ite_le_f, ite_eq_t, ite_eq_f, ck_inb, nI_add, sb_nI, mu_nI, nI_clamp, sO_at, sO_sO, Nat.add_sub_cancel, Nat.zero_add, Nat.add_zero, li_0, li_1, li_2, li_3, li_4, li_5, li_6, li_7, li_8, li_9, li_10, li_11, li_12, li_16, li_20, li_24, li_31, li_32, li_48, li_49, li_73, li_74, li_75, li_97, li_98, li_99, li_100, li_101, li_109, li_110, li_255, li_680, li_700, li_9999, li_65536, li_65537, h]
theorem o_iw {i : Nat} (h : (w 11 0).1 9 = nI 5) : fX11_isWord nd i w = some (nI 0, w) := by
  unfold fX11_isWord
  simp (disch := omega) only [↓mo_1, ↓mo_2, ad_m1, ite_m1_lt, ite_m2_lt, ite_le_m1, ite_eq_m1, ite_eq_m2, ite_m1_m1, ite_m2_m2, ite_T, ite_F, ite_nz, ite_zz, ite_m1_le, ite_m1_eq, oi_none, oi_some, ob_some, lw_def, ck_true, ckp_su, ite_lt_t, ite_lt_f, ite_le_t, ite_le_f, ite_eq_t, ite_eq_f, ck_inb, nI_add, sb_nI, mu_nI, nI_clamp, sO_at, sO_sO, Nat.add_sub_cancel, Nat.zero_add, Nat.add_zero, li_0, li_1, li_2, li_3, li_4, li_5, li_6, li_7, li_8, li_9, li_10, li_11, li_12, li_16, li_20, li_24, li_31, li_32, li_48, li_49, li_73, li_74, li_75, li_97, li_98, li_99, li_100, li_101, li_109, li_110, li_255, li_680, li_700, li_9999, li_65536, li_65537, h]
theorem o_ne {i : Nat} (h : (w 11 0).1 9 = nI 5) : fX11_needs nd i w = some ((), w) := by
  unfold fX11_needs
  simp (disch := omega) only [↓mo_1, ↓mo_2, ad_m1, ite_m1_lt, ite_m2_lt, ite_le_m1, ite_eq_m1, ite_eq_m2, ite_m1_m1, ite_m2_m2, ite_T, ite_F, ite_nz, ite_zz, ite_m1_le, ite_m1_eq, oi_none, oi_some, ob_some, lw_def, ck_true, ckp_su, ite_lt_t, ite_lt_f, ite_le_t, ite_le_f, ite_eq_t, ite_eq_f, ck_inb, nI_add, sb_nI, mu_nI, nI_clamp, sO_at, sO_sO, Nat.add_sub_cancel, Nat.zero_add, Nat.add_zero, li_0, li_1, li_2, li_3, li_4, li_5, li_6, li_7, li_8, li_9, li_10, li_11, li_12, li_16, li_20, li_24, li_31, li_32, li_48, li_49, li_73, li_74, li_75, li_97, li_98, li_99, li_100, li_101, li_109, li_110, li_255, li_680, li_700, li_9999, li_65536, li_65537, o_iw h, o_fl h, o_go h]
theorem o_wa {a b : Int32} (h : (w 11 0).1 9 = nI 5) : fX11_wholeAt nd w a b = some (a, w) := by
  unfold fX11_wholeAt fX11_wholeAt_33
  simp (disch := omega) only [↓mo_1, ↓mo_2, ad_m1, ite_m1_lt, ite_m2_lt, ite_le_m1, ite_eq_m1, ite_eq_m2, ite_m1_m1, ite_m2_m2, ite_T, ite_F, ite_nz, ite_zz, ite_m1_le, ite_m1_eq, oi_none, oi_some, ob_some, lw_def, ck_true, ckp_su, ite_lt_t, ite_lt_f, ite_le_t, ite_le_f, ite_eq_t, ite_eq_f, ck_inb, nI_add, sb_nI, mu_nI, nI_clamp, sO_at, sO_sO, Nat.add_sub_cancel, Nat.zero_add, Nat.add_zero, li_0, li_1, li_2, li_3, li_4, li_5, li_6, li_7, li_8, li_9, li_10, li_11, li_12, li_16, li_20, li_24, li_31, li_32, li_48, li_49, li_73, li_74, li_75, li_97, li_98, li_99, li_100, li_101, li_109, li_110, li_255, li_680, li_700, li_9999, li_65536, li_65537, h, o_fl h]
theorem o_rw {a b : Int32} (h : (w 11 0).1 9 = nI 5) : fX11_readWhole nd w a b = some (a, w) := by
  unfold fX11_readWhole
  simp (disch := omega) only [↓mo_1, ↓mo_2, ad_m1, ite_m1_lt, ite_m2_lt, ite_le_m1, ite_eq_m1, ite_eq_m2, ite_m1_m1, ite_m2_m2, ite_T, ite_F, ite_nz, ite_zz, ite_m1_le, ite_m1_eq, oi_none, oi_some, ob_some, lw_def, ck_true, ckp_su, ite_lt_t, ite_lt_f, ite_le_t, ite_le_f, ite_eq_t, ite_eq_f, ck_inb, nI_add, sb_nI, mu_nI, nI_clamp, sO_at, sO_sO, Nat.add_sub_cancel, Nat.zero_add, Nat.add_zero, li_0, li_1, li_2, li_3, li_4, li_5, li_6, li_7, li_8, li_9, li_10, li_11, li_12, li_16, li_20, li_24, li_31, li_32, li_48, li_49, li_73, li_74, li_75, li_97, li_98, li_99, li_100, li_101, li_109, li_110, li_255, li_680, li_700, li_9999, li_65536, li_65537, o_wa h, o_go h]
theorem o_rp {i : Nat} {a b : Int32} (h : (w 11 0).1 9 = nI 5) : fX11_readPart nd i w a b = some (a, w) := by
  unfold fX11_readPart
  simp (disch := omega) only [↓mo_1, ↓mo_2, ad_m1, ite_m1_lt, ite_m2_lt, ite_le_m1, ite_eq_m1, ite_eq_m2, ite_m1_m1, ite_m2_m2, ite_T, ite_F, ite_nz, ite_zz, ite_m1_le, ite_m1_eq, oi_none, oi_some, ob_some, lw_def, ck_true, ckp_su, ite_lt_t, ite_lt_f, ite_le_t, ite_le_f, ite_eq_t, ite_eq_f, ck_inb, nI_add, sb_nI, mu_nI, nI_clamp, sO_at, sO_sO, Nat.add_sub_cancel, Nat.zero_add, Nat.add_zero, li_0, li_1, li_2, li_3, li_4, li_5, li_6, li_7, li_8, li_9, li_10, li_11, li_12, li_16, li_20, li_24, li_31, li_32, li_48, li_49, li_73, li_74, li_75, li_97, li_98, li_99, li_100, li_101, li_109, li_110, li_255, li_680, li_700, li_9999, li_65536, li_65537, o_ne h, o_rw h]
theorem o_ta {a : Int32} (h : (w 11 0).1 9 = nI 5) : fX11_toldAt nd w a = some (nI 0, w) := by
  unfold fX11_toldAt fX11_toldAt_29
  simp (disch := omega) only [↓mo_1, ↓mo_2, ad_m1, ite_m1_lt, ite_m2_lt, ite_le_m1, ite_eq_m1, ite_eq_m2, ite_m1_m1, ite_m2_m2, ite_T, ite_F, ite_nz, ite_zz, ite_m1_le, ite_m1_eq, oi_none, oi_some, ob_some, lw_def, ck_true, ckp_su, ite_lt_t, ite_lt_f, ite_le_t, ite_le_f, ite_eq_t, ite_eq_f, ck_inb, nI_add, sb_nI, mu_nI, nI_clamp, sO_at, sO_sO, Nat.add_sub_cancel, Nat.zero_add, Nat.add_zero, li_0, li_1, li_2, li_3, li_4, li_5, li_6, li_7, li_8, li_9, li_10, li_11, li_12, li_16, li_20, li_24, li_31, li_32, li_48, li_49, li_73, li_74, li_75, li_97, li_98, li_99, li_100, li_101, li_109, li_110, li_255, li_680, li_700, li_9999, li_65536, li_65537, h, o_fl h]
/-! on the way -/
theorem m_gx (hX : TxO X) (hE : ME w X) (hp : p ≤ X.1) (h : MT w X (tk X p)) (h4 : (tk X p).1 ≠ 4) : ∃ w2 : Wd, fX11_goesOn nd w = some ((), w2) ∧ SG w w2 ∧ MT w2 X (tk X (nx X p)) :=
  m_goesOn hX hE (nx_le hp) (h.2.2.1 h4) h.1 sg_lt
theorem iw_4 {t : Tt} {i : Nat} (h : iwS X t i = true) : t.1 = 1 := by
  unfold iwS at h
  exact (of_decide_eq_true h).1
theorem m_ne1 (hX : TxO X) (hE : ME w X) (hp : p ≤ X.1) {i : Nat} (hi : i < 10) (h : MT w X (tk X p)) (c : iwS X (tk X p) i = true) : ∃ w2 : Wd, fX11_needs nd i w = some ((), w2) ∧ SG w w2 ∧ MT w2 X (tk X (nx X p)) := by
  have e := m_isWord (nd := nd) hp hi h
  rw [c, b2i_t] at e
  have := iw_4 c
  obtain ⟨w2, e1, e2, e3⟩ := m_gx (nd := nd) hX hE hp h (by omega)
  refine ⟨w2, ?_, e2, e3⟩
  unfold fX11_needs
  simp (disch := omega) only [↓mo_1, ↓mo_2, ad_m1, ite_m1_lt, ite_m2_lt, ite_le_m1, ite_eq_m1, ite_eq_m2, ite_m1_m1, ite_m2_m2, ite_T, ite_F, ite_nz, ite_zz, ite_m1_le, ite_m1_eq, oi_none, oi_some, ob_some, lw_def, ck_true, ckp_su, ite_lt_t, ite_lt_f, ite_le_t, ite_le_f, ite_eq_t, ite_eq_f, ck_inb, nI_add, sb_nI, mu_nI, nI_clamp, sO_at, sO_sO, Nat.add_sub_cancel, Nat.zero_add, Nat.add_zero, li_0, li_1, li_2, li_3, li_4, li_5, li_6, li_7, li_8, li_9, li_10, li_11, li_12, li_16, li_20, li_24, li_31, li_32, li_48, li_49, li_73, li_74, li_75, li_97, li_98, li_99, li_100, li_101, li_109, li_110, li_255, li_680, li_700, li_9999, li_65536, li_65537, e, e1]
theorem m_ne0 (hp : p ≤ X.1) {i : Nat} (hi : i < 10) (h : MT w X (tk X p)) (c : iwS X (tk X p) i = false) : ∃ w2 : Wd, fX11_needs nd i w = some ((), w2) ∧ OV w w2 1 (tk X p).2.1 := by
  have e := m_isWord (nd := nd) hp hi h
  rw [c, b2i_f] at e
  obtain ⟨w2, e1, e2⟩ := m_fl (nd := nd) (f := 1) h
  refine ⟨w2, ?_, e2⟩
  unfold fX11_needs
  simp (disch := omega) only [↓mo_1, ↓mo_2, ad_m1, ite_m1_lt, ite_m2_lt, ite_le_m1, ite_eq_m1, ite_eq_m2, ite_m1_m1, ite_m2_m2, ite_T, ite_F, ite_nz, ite_zz, ite_m1_le, ite_m1_eq, oi_none, oi_some, ob_some, lw_def, ck_true, ckp_su, ite_lt_t, ite_lt_f, ite_le_t, ite_le_f, ite_eq_t, ite_eq_f, ck_inb, nI_add, sb_nI, mu_nI, nI_clamp, sO_at, sO_sO, Nat.add_sub_cancel, Nat.zero_add, Nat.add_zero, li_0, li_1, li_2, li_3, li_4, li_5, li_6, li_7, li_8, li_9, li_10, li_11, li_12, li_16, li_20, li_24, li_31, li_32, li_48, li_49, li_73, li_74, li_75, li_97, li_98, li_99, li_100, li_101, li_109, li_110, li_255, li_680, li_700, li_9999, li_65536, li_65537, e, e1, o_go e2.2.1]
theorem m_in2 {a b c : Nat} (ha : a < 2 ^ 31) (hb : b < 2 ^ 31) (hc : c < 2 ^ 31) : fX11_in nd w (nI b) (nI a) (nI c) = some (b2i (decide (a ≤ b ∧ b ≤ c)), w) := by
  by_cases z : a ≤ b ∧ b ≤ c
  · rw [decide_eq_true z, b2i_t]
    exact m_in1 hb z.1 z.2 hc
  · rw [decide_eq_false z, b2i_f]
    unfold fX11_in
    by_cases y : b < a
    · simp (disch := omega) only [↓mo_1, ↓mo_2, ad_m1, ite_m1_lt, ite_m2_lt, ite_le_m1, ite_eq_m1, ite_eq_m2, ite_m1_m1, ite_m2_m2, ite_T, ite_F, ite_nz, ite_zz, ite_m1_le, ite_m1_eq, oi_none, oi_some, ob_some, lw_def, ck_true, ckp_su, ite_lt_t, ite_lt_f, ite_le_t, ite_le_f, ite_eq_t, ite_eq_f, ck_inb, nI_add, sb_nI, mu_nI, nI_clamp, sO_at, sO_sO, Nat.add_sub_cancel, Nat.zero_add, Nat.add_zero, li_0, li_1, li_2, li_3, li_4, li_5, li_6, li_7, li_8, li_9, li_10, li_11, li_12, li_16, li_20, li_24, li_31, li_32, li_48, li_49, li_73, li_74, li_75, li_97, li_98, li_99, li_100, li_101, li_109, li_110, li_255, li_680, li_700, li_9999, li_65536, li_65537]
    · simp (disch := omega) only [↓mo_1, ↓mo_2, ad_m1, ite_m1_lt, ite_m2_lt, ite_le_m1, ite_eq_m1, ite_eq_m2, ite_m1_m1, ite_m2_m2, ite_T, ite_F, ite_nz, ite_zz, ite_m1_le, ite_m1_eq, oi_none, oi_some, ob_some, lw_def, ck_true, ckp_su, ite_lt_t, ite_lt_f, ite_le_t, ite_le_f, ite_eq_t, ite_eq_f, ck_inb, nI_add, sb_nI, mu_nI, nI_clamp, sO_at, sO_sO, Nat.add_sub_cancel, Nat.zero_add, Nat.add_zero, li_0, li_1, li_2, li_3, li_4, li_5, li_6, li_7, li_8, li_9, li_10, li_11, li_12, li_16, li_20, li_24, li_31, li_32, li_48, li_49, li_73, li_74, li_75, li_97, li_98, li_99, li_100, li_101, li_109, li_110, li_255, li_680, li_700, li_9999, li_65536, li_65537]
theorem m_wS (hX : TxO X) (hE : ME w X) {lo hi : Nat} (hp : p ≤ X.1) (h : MT w X (tk X p)) (hlo : lo < 2 ^ 31) (hhi : hi < 2 ^ 31) : match whS X lo hi p with
    | .inl (f, pl) => ∃ (w2 : Wd), fX11_readWhole nd w (nI lo) (nI hi) = some (nI lo, w2) ∧ OV w w2 f pl
    | .inr (v, p2) => ∃ w2 : Wd, fX11_readWhole nd w (nI lo) (nI hi) = some (nI v, w2) ∧ SG w w2 ∧ MT w2 X (tk X p2) := by
  have h9 := h.1
  have hl := sg_lt (k := (tk X p).1)
  have h2 := sg_2 (k := (tk X p).1)
  unfold whS
  by_cases c : (tk X p).1 = 2
  · rw [if_pos c]
    have hv := vl_le hp c
    have e11 : (w 11 0).1 11 = nI (vlT X (tk X p)) := h.2.2.2.2 c
    have e3 : (w 11 0).1 9 = nI 3 := by rw [h9, h2.mpr c]
    by_cases z : lo ≤ vlT X (tk X p) ∧ vlT X (tk X p) ≤ hi
    · rw [if_pos z]
      have e := m_in2 (nd := nd) (w := w) hlo (show vlT X (tk X p) < 2 ^ 31 by omega) hhi
      rw [decide_eq_true z, b2i_t] at e
      obtain ⟨w2, e1, e2, e4⟩ := m_gx (nd := nd) hX hE hp h (by omega)
      refine ⟨w2, ?_, e2, e4⟩
      unfold fX11_readWhole fX11_wholeAt fX11_wholeAt_33
      simp (disch := omega) only [↓mo_1, ↓mo_2, ad_m1, ite_m1_lt, ite_m2_lt, ite_le_m1, ite_eq_m1, ite_eq_m2, ite_m1_m1, ite_m2_m2, ite_T, ite_F, ite_nz, ite_zz, ite_m1_le, ite_m1_eq, oi_none, oi_some, ob_some, lw_def, ck_true, ckp_su, ite_lt_t, ite_lt_f, ite_le_t, ite_le_f, ite_eq_t, ite_eq_f, ck_inb, nI_add, sb_nI, mu_nI, nI_clamp, sO_at, sO_sO, Nat.add_sub_cancel, Nat.zero_add, Nat.add_zero, li_0, li_1, li_2, li_3, li_4, li_5, li_6, li_7, li_8, li_9, li_10, li_11, li_12, li_16, li_20, li_24, li_31, li_32, li_48, li_49, li_73, li_74, li_75, li_97, li_98, li_99, li_100, li_101, li_109, li_110, li_255, li_680, li_700, li_9999, li_65536, li_65537, e3, e11, e, e1]
    · rw [if_neg z]
      have e := m_in2 (nd := nd) (w := w) hlo (show vlT X (tk X p) < 2 ^ 31 by omega) hhi
      rw [decide_eq_false z, b2i_f] at e
      obtain ⟨w2, e1, e2⟩ := m_fl (nd := nd) (f := 4) h
      refine ⟨w2, ?_, e2⟩
      unfold fX11_readWhole fX11_wholeAt fX11_wholeAt_33
      simp (disch := omega) only [↓mo_1, ↓mo_2, ad_m1, ite_m1_lt, ite_m2_lt, ite_le_m1, ite_eq_m1, ite_eq_m2, ite_m1_m1, ite_m2_m2, ite_T, ite_F, ite_nz, ite_zz, ite_m1_le, ite_m1_eq, oi_none, oi_some, ob_some, lw_def, ck_true, ckp_su, ite_lt_t, ite_lt_f, ite_le_t, ite_le_f, ite_eq_t, ite_eq_f, ck_inb, nI_add, sb_nI, mu_nI, nI_clamp, sO_at, sO_sO, Nat.add_sub_cancel, Nat.zero_add, Nat.add_zero, li_0, li_1, li_2, li_3, li_4, li_5, li_6, li_7, li_8, li_9, li_10, li_11, li_12, li_16, li_20, li_24, li_31, li_32, li_48, li_49, li_73, li_74, li_75, li_97, li_98, li_99, li_100, li_101, li_109, li_110, li_255, li_680, li_700, li_9999, li_65536, li_65537, e3, e11, e, e1, e2.2.1, o_go e2.2.1]
  · rw [if_neg c]
    obtain ⟨w2, e1, e2⟩ := m_fl (nd := nd) (f := 1) h
    refine ⟨w2, ?_, e2⟩
    unfold fX11_readWhole fX11_wholeAt fX11_wholeAt_33
    simp (disch := omega) only [↓mo_1, ↓mo_2, ad_m1, ite_m1_lt, ite_m2_lt, ite_le_m1, ite_eq_m1, ite_eq_m2, ite_m1_m1, ite_m2_m2, ite_T, ite_F, ite_nz, ite_zz, ite_m1_le, ite_m1_eq, oi_none, oi_some, ob_some, lw_def, ck_true, ckp_su, ite_lt_t, ite_lt_f, ite_le_t, ite_le_f, ite_eq_t, ite_eq_f, ck_inb, nI_add, sb_nI, mu_nI, nI_clamp, sO_at, sO_sO, Nat.add_sub_cancel, Nat.zero_add, Nat.add_zero, li_0, li_1, li_2, li_3, li_4, li_5, li_6, li_7, li_8, li_9, li_10, li_11, li_12, li_16, li_20, li_24, li_31, li_32, li_48, li_49, li_73, li_74, li_75, li_97, li_98, li_99, li_100, li_101, li_109, li_110, li_255, li_680, li_700, li_9999, li_65536, li_65537, h9, e1, e2.2.1, o_go e2.2.1]
/-! the reference between lines -/
def RHm (o : Ob) (T : Tk) : Prop := o.1 4 = nI T.1.1 ∧ ∀ t, t < 48 → o.2.1 17 t = b2i (inR T.1.2.1 t T.1.1)
def PM (w : Wd) (d : Nat) (X : Tx) (D : Dk) (T : Tk) (t : Tt) : Prop := ME w X ∧ MT w X t ∧ (w 11 0).2.2.1 4 = d + 1 ∧ RDm (w 10 d) D ∧ RTm (w 10 d) D T ∧ RHm (w 10 d) T
theorem PM.sg {t t2 : Tt} (h : PM w d X D T t) (hs : SG w w2) (ht : MT w2 X t2) : PM w2 d X D T t2 := by
  obtain ⟨h1, h2, h3, h4, h5, h6⟩ := h
  have e := hs.1 10 d (by omega)
  exact ⟨h1.sg hs, ht, by rw [hs.2.2.1]; exact h3, by rw [e]; exact h4, by rw [e]; exact h5, by rw [e]; exact h6⟩
/-- lineBegins -/
theorem m_lb (hX : TxO X) (hp : p ≤ X.1) (hd : d < nd) (h : PM w d X D T (tk X p)) (h1 : (tk X p).1 = 1) (hov : D.2.2.1 ≤ 3) {a b : Nat} (ha : a ≤ b) (hb : b < 100) (h0 : ¬ 0 < D.2.2.1 → a < b) : if 0 < D.2.2.1 then if a < b then ∃ w2 : Wd, fX11_lineBegins nd w (nI a) (nI b) = some ((), w2) ∧ SG w w2 ∧ PM w2 d X D T (tk X (nx X p)) else ∃ w2 : Wd, fX11_lineBegins nd w (nI a) (nI b) = some ((), w2) ∧ OV w w2 5 (tk X p).2.1 else ∃ w2 : Wd, fX11_lineBegins nd w (nI a) (nI b) = some ((), w2) ∧ OV w w2 6 (tk X p).2.1 := by
  have hp4 := h.2.2.1
  have ho := h.2.2.2.1.1
  by_cases c1 : 0 < D.2.2.1
  · rw [if_pos c1]
    by_cases c2 : a < b
    · rw [if_pos c2]
      obtain ⟨w2, e1, e2, e3⟩ := m_gx (nd := nd) hX h.1 hp h.2.1 (by omega)
      refine ⟨w2, ?_, e2, h.sg e2 e3⟩
      unfold fX11_lineBegins fX11_lineBegins_10
      simp (disch := omega) only [↓mo_1, ↓mo_2, ad_m1, ite_m1_lt, ite_m2_lt, ite_le_m1, ite_eq_m1, ite_eq_m2, ite_m1_m1, ite_m2_m2, ite_T, ite_F, ite_nz, ite_zz, ite_m1_le, ite_m1_eq, oi_none, oi_some, ob_some, lw_def, ck_true, ckp_su, ite_lt_t, ite_lt_f, ite_le_t, ite_le_f, ite_eq_t, ite_eq_f, ck_inb, nI_add, sb_nI, mu_nI, nI_clamp, sO_at, sO_sO, Nat.add_sub_cancel, Nat.zero_add, Nat.add_zero, li_0, li_1, li_2, li_3, li_4, li_5, li_6, li_7, li_8, li_9, li_10, li_11, li_12, li_16, li_20, li_24, li_31, li_32, li_48, li_49, li_73, li_74, li_75, li_97, li_98, li_99, li_100, li_101, li_109, li_110, li_255, li_680, li_700, li_9999, li_65536, li_65537, hp4, ho, e1]
    · rw [if_neg c2]
      obtain ⟨w2, e1, e2⟩ := m_fl (nd := nd) (f := 5) h.2.1
      refine ⟨w2, ?_, e2⟩
      have p4 : (w2 11 0).2.2.1 4 = d + 1 := by rw [e2.1.2.2.1]; exact hp4
      have o4 : (w2 10 d).1 0 = nI D.2.2.1 := by rw [e2.1.1 10 d (by omega)]; exact ho
      unfold fX11_lineBegins fX11_lineBegins_10
      simp (disch := omega) only [↓mo_1, ↓mo_2, ad_m1, ite_m1_lt, ite_m2_lt, ite_le_m1, ite_eq_m1, ite_eq_m2, ite_m1_m1, ite_m2_m2, ite_T, ite_F, ite_nz, ite_zz, ite_m1_le, ite_m1_eq, oi_none, oi_some, ob_some, lw_def, ck_true, ckp_su, ite_lt_t, ite_lt_f, ite_le_t, ite_le_f, ite_eq_t, ite_eq_f, ck_inb, nI_add, sb_nI, mu_nI, nI_clamp, sO_at, sO_sO, Nat.add_sub_cancel, Nat.zero_add, Nat.add_zero, li_0, li_1, li_2, li_3, li_4, li_5, li_6, li_7, li_8, li_9, li_10, li_11, li_12, li_16, li_20, li_24, li_31, li_32, li_48, li_49, li_73, li_74, li_75, li_97, li_98, li_99, li_100, li_101, li_109, li_110, li_255, li_680, li_700, li_9999, li_65536, li_65537, p4, o4, e1, o_go e2.2.1]
  · rw [if_neg c1]
    have := h0 c1
    have z : D.2.2.1 = 0 := by omega
    rw [z] at ho
    obtain ⟨w2, e1, e2⟩ := m_fl (nd := nd) (f := 6) h.2.1
    refine ⟨w2, ?_, e2⟩
    unfold fX11_lineBegins fX11_lineBegins_10
    simp (disch := omega) only [↓mo_1, ↓mo_2, ad_m1, ite_m1_lt, ite_m2_lt, ite_le_m1, ite_eq_m1, ite_eq_m2, ite_m1_m1, ite_m2_m2, ite_T, ite_F, ite_nz, ite_zz, ite_m1_le, ite_m1_eq, oi_none, oi_some, ob_some, lw_def, ck_true, ckp_su, ite_lt_t, ite_lt_f, ite_le_t, ite_le_f, ite_eq_t, ite_eq_f, ck_inb, nI_add, sb_nI, mu_nI, nI_clamp, sO_at, sO_sO, Nat.add_sub_cancel, Nat.zero_add, Nat.add_zero, li_0, li_1, li_2, li_3, li_4, li_5, li_6, li_7, li_8, li_9, li_10, li_11, li_12, li_16, li_20, li_24, li_31, li_32, li_48, li_49, li_73, li_74, li_75, li_97, li_98, li_99, li_100, li_101, li_109, li_110, li_255, li_680, li_700, li_9999, li_65536, li_65537, hp4, ho, e1, o_go e2.2.1]
/-- toldAt -/
theorem m_ta (hp : p ≤ X.1) (h : MT w X (tk X p)) {a : Nat} (ha : a < 10000) : if (tk X p).1 = 2 then if vlT X (tk X p) < a then fX11_toldAt nd w (nI a) = some (nI (vlT X (tk X p)), w) else ∃ w2 : Wd, fX11_toldAt nd w (nI a) = some (nI 0, w2) ∧ OV w w2 2 (tk X p).2.1 else ∃ w2 : Wd, fX11_toldAt nd w (nI a) = some (nI 0, w2) ∧ OV w w2 1 (tk X p).2.1 := by
  have h9 := h.1
  have hl := sg_lt (k := (tk X p).1)
  have h2 := sg_2 (k := (tk X p).1)
  by_cases c : (tk X p).1 = 2
  · rw [if_pos c]
    have hv := vl_le hp c
    have e11 : (w 11 0).1 11 = nI (vlT X (tk X p)) := h.2.2.2.2 c
    have e3 : (w 11 0).1 9 = nI 3 := by rw [h9, h2.mpr c]
    by_cases z : vlT X (tk X p) < a
    · rw [if_pos z]
      unfold fX11_toldAt fX11_toldAt_29
      simp (disch := omega) only [↓mo_1, ↓mo_2, ad_m1, ite_m1_lt, ite_m2_lt, ite_le_m1, ite_eq_m1, ite_eq_m2, ite_m1_m1, ite_m2_m2, ite_T, ite_F, ite_nz, ite_zz, ite_m1_le, ite_m1_eq, oi_none, oi_some, ob_some, lw_def, ck_true, ckp_su, ite_lt_t, ite_lt_f, ite_le_t, ite_le_f, ite_eq_t, ite_eq_f, ck_inb, nI_add, sb_nI, mu_nI, nI_clamp, sO_at, sO_sO, Nat.add_sub_cancel, Nat.zero_add, Nat.add_zero, li_0, li_1, li_2, li_3, li_4, li_5, li_6, li_7, li_8, li_9, li_10, li_11, li_12, li_16, li_20, li_24, li_31, li_32, li_48, li_49, li_73, li_74, li_75, li_97, li_98, li_99, li_100, li_101, li_109, li_110, li_255, li_680, li_700, li_9999, li_65536, li_65537, e3, e11]
    · rw [if_neg z]
      obtain ⟨w2, e1, e2⟩ := m_fl (nd := nd) (f := 2) h
      refine ⟨w2, ?_, e2⟩
      unfold fX11_toldAt fX11_toldAt_29
      simp (disch := omega) only [↓mo_1, ↓mo_2, ad_m1, ite_m1_lt, ite_m2_lt, ite_le_m1, ite_eq_m1, ite_eq_m2, ite_m1_m1, ite_m2_m2, ite_T, ite_F, ite_nz, ite_zz, ite_m1_le, ite_m1_eq, oi_none, oi_some, ob_some, lw_def, ck_true, ckp_su, ite_lt_t, ite_lt_f, ite_le_t, ite_le_f, ite_eq_t, ite_eq_f, ck_inb, nI_add, sb_nI, mu_nI, nI_clamp, sO_at, sO_sO, Nat.add_sub_cancel, Nat.zero_add, Nat.add_zero, li_0, li_1, li_2, li_3, li_4, li_5, li_6, li_7, li_8, li_9, li_10, li_11, li_12, li_16, li_20, li_24, li_31, li_32, li_48, li_49, li_73, li_74, li_75, li_97, li_98, li_99, li_100, li_101, li_109, li_110, li_255, li_680, li_700, li_9999, li_65536, li_65537, e3, e11, e1, e2.2.1]
  · rw [if_neg c]
    obtain ⟨w2, e1, e2⟩ := m_fl (nd := nd) (f := 1) h
    refine ⟨w2, ?_, e2⟩
    unfold fX11_toldAt fX11_toldAt_29
    simp (disch := omega) only [↓mo_1, ↓mo_2, ad_m1, ite_m1_lt, ite_m2_lt, ite_le_m1, ite_eq_m1, ite_eq_m2, ite_m1_m1, ite_m2_m2, ite_T, ite_F, ite_nz, ite_zz, ite_m1_le, ite_m1_eq, oi_none, oi_some, ob_some, lw_def, ck_true, ckp_su, ite_lt_t, ite_lt_f, ite_le_t, ite_le_f, ite_eq_t, ite_eq_f, ck_inb, nI_add, sb_nI, mu_nI, nI_clamp, sO_at, sO_sO, Nat.add_sub_cancel, Nat.zero_add, Nat.add_zero, li_0, li_1, li_2, li_3, li_4, li_5, li_6, li_7, li_8, li_9, li_10, li_11, li_12, li_16, li_20, li_24, li_31, li_32, li_48, li_49, li_73, li_74, li_75, li_97, li_98, li_99, li_100, li_101, li_109, li_110, li_255, li_680, li_700, li_9999, li_65536, li_65537, h9, e1, e2.2.1]
theorem m_sx {g : Nat → Nat} {n f k : Nat} (hk : aln 10 d k = aln 10 0 k) (hR : ∀ i, i < n → (w 10 d).2.1 k i = nI (g i)) (hn : n ≤ aln 10 0 k) (hN : aln 10 0 k < 100) (hb : ∀ i, i < n → g i < 10000) (hf : f < 10000) : ∀ r i, i + r = n → (∀ z, z < i → g z ≠ f) → ∀ m, r < m → fX10_stands_2 nd 10 d k m w (nI n) (nI f) (nI i) = some (b2i (inR g f n), w) := by
  intro r
  induction r with
  | zero =>
    intro i hi ha m hm
    obtain ⟨m, rfl⟩ : ∃ z, m = z + 1 := ⟨m - 1, by omega⟩
    rw [fX10_stands_2.eq_2, inR_f (fun z hz => ha z (by omega))]
    simp (disch := omega) only [↓mo_1, ↓mo_2, ad_m1, ite_m1_lt, ite_m2_lt, ite_le_m1, ite_eq_m1, ite_eq_m2, ite_m1_m1, ite_m2_m2, ite_T, ite_F, ite_nz, ite_zz, ite_m1_le, ite_m1_eq, oi_none, oi_some, ob_some, lw_def, ck_true, ckp_su, ite_lt_t, ite_lt_f, ite_le_t, ite_le_f, ite_eq_t, ite_eq_f, ck_inb, nI_add, sb_nI, mu_nI, nI_clamp, sO_at, sO_sO, Nat.add_sub_cancel, Nat.zero_add, Nat.add_zero, li_0, li_1, li_2, li_3, li_4, li_5, li_6, li_7, li_8, li_9, li_10, li_11, li_12, li_16, li_20, li_24, li_31, li_32, li_48, li_49, li_73, li_74, li_75, li_97, li_98, li_99, li_100, li_101, li_109, li_110, li_255, li_680, li_700, li_9999, li_65536, li_65537, b2i_f]
  | succ r ih =>
    intro i hi ha m hm
    obtain ⟨m, rfl⟩ : ∃ z, m = z + 1 := ⟨m - 1, by omega⟩
    have e1 := hR i (by omega)
    have e2 := hb i (by omega)
    rw [fX10_stands_2.eq_2, hk]
    simp (disch := omega) only [↓mo_1, ↓mo_2, ad_m1, ite_m1_lt, ite_m2_lt, ite_le_m1, ite_eq_m1, ite_eq_m2, ite_m1_m1, ite_m2_m2, ite_T, ite_F, ite_nz, ite_zz, ite_m1_le, ite_m1_eq, oi_none, oi_some, ob_some, lw_def, ck_true, ckp_su, ite_lt_t, ite_lt_f, ite_le_t, ite_le_f, ite_eq_t, ite_eq_f, ck_inb, nI_add, sb_nI, mu_nI, nI_clamp, sO_at, sO_sO, Nat.add_sub_cancel, Nat.zero_add, Nat.add_zero, li_0, li_1, li_2, li_3, li_4, li_5, li_6, li_7, li_8, li_9, li_10, li_11, li_12, li_16, li_20, li_24, li_31, li_32, li_48, li_49, li_73, li_74, li_75, li_97, li_98, li_99, li_100, li_101, li_109, li_110, li_255, li_680, li_700, li_9999, li_65536, li_65537, e1]
    by_cases c : g i = f
    · rw [inR_t (show i < n by omega) c, c]
      simp (disch := omega) only [↓mo_1, ↓mo_2, ad_m1, ite_m1_lt, ite_m2_lt, ite_le_m1, ite_eq_m1, ite_eq_m2, ite_m1_m1, ite_m2_m2, ite_T, ite_F, ite_nz, ite_zz, ite_m1_le, ite_m1_eq, oi_none, oi_some, ob_some, lw_def, ck_true, ckp_su, ite_lt_t, ite_lt_f, ite_le_t, ite_le_f, ite_eq_t, ite_eq_f, ck_inb, nI_add, sb_nI, mu_nI, nI_clamp, sO_at, sO_sO, Nat.add_sub_cancel, Nat.zero_add, Nat.add_zero, li_0, li_1, li_2, li_3, li_4, li_5, li_6, li_7, li_8, li_9, li_10, li_11, li_12, li_16, li_20, li_24, li_31, li_32, li_48, li_49, li_73, li_74, li_75, li_97, li_98, li_99, li_100, li_101, li_109, li_110, li_255, li_680, li_700, li_9999, li_65536, li_65537, b2i_t]
    · simp (disch := omega) only [↓mo_1, ↓mo_2, ad_m1, ite_m1_lt, ite_m2_lt, ite_le_m1, ite_eq_m1, ite_eq_m2, ite_m1_m1, ite_m2_m2, ite_T, ite_F, ite_nz, ite_zz, ite_m1_le, ite_m1_eq, oi_none, oi_some, ob_some, lw_def, ck_true, ckp_su, ite_lt_t, ite_lt_f, ite_le_t, ite_le_f, ite_eq_t, ite_eq_f, ck_inb, nI_add, sb_nI, mu_nI, nI_clamp, sO_at, sO_sO, Nat.add_sub_cancel, Nat.zero_add, Nat.add_zero, li_0, li_1, li_2, li_3, li_4, li_5, li_6, li_7, li_8, li_9, li_10, li_11, li_12, li_16, li_20, li_24, li_31, li_32, li_48, li_49, li_73, li_74, li_75, li_97, li_98, li_99, li_100, li_101, li_109, li_110, li_255, li_680, li_700, li_9999, li_65536, li_65537]
      exact ih (i + 1) (by omega) (fun z hz => by
        by_cases y : z = i
        · rw [y]; exact c
        · exact ha z (by omega)) m (by omega)
theorem m_stands {g : Nat → Nat} {n f k : Nat} (hk : aln 10 d k = aln 10 0 k) (hR : ∀ i, i < n → (w 10 d).2.1 k i = nI (g i)) (hn : n ≤ aln 10 0 k) (hN : aln 10 0 k < 100) (hb : ∀ i, i < n → g i < 10000) (hf : f < 10000) : fX10_stands nd 10 d k w (nI n) (nI f) = some (b2i (inR g f n), w) :=
  m_sx hk hR hn hN hb hf n 0 (Nat.zero_add _) (fun i hi => absurd hi (Nat.not_lt_zero i)) fuel0 (by unfold fuel0; omega)
end PM
