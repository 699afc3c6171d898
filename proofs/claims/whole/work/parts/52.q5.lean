/-! ===== runs, and what they tell ===== -/
theorem sO5_RT {w : Wd} {q j : Nat} {o : Ob} {T : Tk} (h : RT w q T) : RT (sO w 5 j o) q T := by
  unfold RT
  rw [sO_nc (by decide), sO_nc (by decide), sO_nc (by decide), sO_nc (by decide)]
  exact h
section QRUN
variable {D : Dk} {T : Tk} {s : Sd} {h im : Nat × (Nat → Sd)}
theorem x_run0 {w : Wd} {q : Nat} {S : Int32} (hD : WFD D) (hT : WFT D T) (hq : q < 2) (hp : (w 9 0).2.2.1 2 = q + 1) (hX : XD w q (some (D, T, s, h, im))) : ∃ o2 : Ob, fX9_runOn q w S = some ((), sO w 7 1 o2) ∧ RX o2 (goS D T S T.2.1.1) ∧ o2.1 10 = clN D T S T.2.1.1 := x_runOn hD hX.1 hX.2.1 hT hq hp
theorem x_twbs {w : Wd} {q n : Nat} (hD : WFD D) (hT : WFT D T) (hq : q < 2) (hp : (w 9 0).2.2.1 2 = q + 1) (hX : XD w q (some (D, T, s, h, im))) (hn : 2 ≤ n) (h8 : n ≤ 8) : ∃ w2 : Wd, fX9_trackWritesBySize w (nI n) = some (sct (goS (szD D n) T (nI 0) T.2.1.1), w2) ∧ XS w w2 := by
  obtain ⟨o1, a1, a2⟩ := x_becomeBySize (w := w) (j := 2) hD (by omega) hX.1 hn h8
  obtain ⟨o2, e1, e2, e3⟩ := x_runOn (w := sO w 5 2 o1) (a := 2) (q := q) (S := nI 0) (szD_wf hD hn h8) (by rw [sO_at]; exact a2) (sO5_RT hX.2.1) (hT.cg (szD_n hD hn)) hq (by rw [sO_nc (by decide)]; exact hp)
  refine ⟨sO (sO w 5 2 o1) 7 1 o2, ?_, XS.s.tr XS.t⟩
  unfold fX9_trackWritesBySize
  simp (disch := omega) only [↓mo_1, ↓mo_2, ad_m1, ite_m1_lt, ite_m2_lt, ite_le_m1, ite_eq_m1, ite_eq_m2, ite_m1_m1, ite_m2_m2, ite_T, ite_F, ite_nz, ite_zz, ite_m1_le, ite_m1_eq, oi_none, oi_some, ob_some, lw_def, ck_true, ckp_su, ite_lt_t, ite_lt_f, ite_le_t, ite_le_f, ite_eq_t, ite_eq_f, ck_inb, nI_add, sb_nI, mu_nI, nI_clamp, sO_at, sO_sO, Nat.add_sub_cancel, Nat.zero_add, Nat.add_zero, li_0, li_1, li_2, li_3, li_4, li_5, li_6, li_7, li_8, li_9, li_10, li_11, li_12, li_16, li_20, li_24, li_31, li_32, li_48, li_49, li_73, li_74, li_75, li_97, li_98, li_99, li_100, li_101, li_109, li_110, li_255, li_680, li_700, li_9999, li_65536, li_65537, hp, a1, e1, e2.2.2.2.2.2.2.2.2.2]
theorem x_cbl {w : Wd} {q n : Nat} (hD : WFD D) (hT : WFT D T) (hq : q < 2) (hp : (w 9 0).2.2.1 2 = q + 1) (hX : XD w q (some (D, T, s, h, im))) (hn : 2 ≤ n) (h8 : n ≤ 24) : ∃ w2 : Wd, fX9_cleaningsByLog w (nI n) = some (clN (lgD D n) T (nI 0) T.2.1.1, w2) ∧ XS w w2 := by
  obtain ⟨o1, a1, a2⟩ := x_becomeByLog (w := w) (j := 2) (n := n) hD (by omega) hX.1
  obtain ⟨o2, e1, e2, e3⟩ := x_runOn (w := sO w 5 2 o1) (a := 2) (q := q) (S := nI 0) (lgD_wf hD hn h8) (by rw [sO_at]; exact a2) (sO5_RT hX.2.1) (hT.cg rfl) hq (by rw [sO_nc (by decide)]; exact hp)
  refine ⟨sO (sO w 5 2 o1) 7 1 o2, ?_, XS.s.tr XS.t⟩
  unfold fX9_cleaningsByLog
  simp (disch := omega) only [↓mo_1, ↓mo_2, ad_m1, ite_m1_lt, ite_m2_lt, ite_le_m1, ite_eq_m1, ite_eq_m2, ite_m1_m1, ite_m2_m2, ite_T, ite_F, ite_nz, ite_zz, ite_m1_le, ite_m1_eq, oi_none, oi_some, ob_some, lw_def, ck_true, ckp_su, ite_lt_t, ite_lt_f, ite_le_t, ite_le_f, ite_eq_t, ite_eq_f, ck_inb, nI_add, sb_nI, mu_nI, nI_clamp, sO_at, sO_sO, Nat.add_sub_cancel, Nat.zero_add, Nat.add_zero, li_0, li_1, li_2, li_3, li_4, li_5, li_6, li_7, li_8, li_9, li_10, li_11, li_12, li_16, li_20, li_24, li_31, li_32, li_48, li_49, li_73, li_74, li_75, li_97, li_98, li_99, li_100, li_101, li_109, li_110, li_255, li_680, li_700, li_9999, li_65536, li_65537, hp, a1, e1, e3]
theorem rng2 (x : Int32) {a b : Nat} (ha : a < 2 ^ 31) (hb : b < 2 ^ 31) : (∃ n, a ≤ n ∧ n ≤ b ∧ x = nI n) ∨ (x < nI a ∨ ¬ x < nI a ∧ nI b < x) := by
  by_cases h0 : x < nI a
  · exact Or.inr (Or.inl h0)
  · by_cases h1 : nI b < x
    · exact Or.inr (Or.inr ⟨h0, h1⟩)
    · rw [Int32.lt_iff_toInt_lt, nI_toInt ha] at h0
      rw [Int32.lt_iff_toInt_lt, nI_toInt hb] at h1
      refine Or.inl ⟨x.toInt.toNat, by omega, by omega, ?_⟩
      apply Int32.toInt_inj.mp
      rw [nI_toInt (by omega)]
      omega
theorem m_inO {nd : Nat} {w : Wd} {x : Int32} {a b : Nat} (hx : x < nI a ∨ ¬ x < nI a ∧ nI b < x) : fX11_in nd w x (nI a) (nI b) = some (nI 0, w) := by
  unfold fX11_in
  rcases hx with hx | ⟨hx, hy⟩
  · exact if_pos hx
  · exact (if_neg hx).trans (if_pos hy)
theorem ite_r2 {α : Type} {x : Int32} {a b : Nat} {u v : α} {i1 : Decidable (x < nI a)} {i2 : Decidable (x ≤ nI b)} (hx : x < nI a ∨ ¬ x < nI a ∧ nI b < x) : @ite _ (x < nI a) i1 u (@ite _ (x ≤ nI b) i2 v u) = u := by
  rcases hx with hx | ⟨hx, hy⟩
  · exact if_pos hx
  · refine (if_neg hx).trans (if_neg ?_)
    rw [Int32.lt_iff_toInt_lt] at hy
    rw [Int32.le_iff_toInt_le]
    omega
theorem q_runWrites : Qy (fun w => fX9_runWrites w) (fun nd w => fX11_runWrites nd w) := by
  intro d hd
  cases d with
  | none =>
    refine ⟨m1, 1, by omega, by omega, fun w q hq hp hX => ⟨w, XS.rf, ?_⟩, fun nd w w1 e hM => ⟨w1, SM.rf, ?_⟩⟩
    · unfold fX9_runWrites
      simp (disch := omega) only [↓mo_1, ↓mo_2, ad_m1, ite_m1_lt, ite_m2_lt, ite_le_m1, ite_eq_m1, ite_eq_m2, ite_m1_m1, ite_m2_m2, ite_T, ite_F, ite_nz, ite_zz, ite_m1_le, ite_m1_eq, oi_none, oi_some, ob_some, lw_def, ck_true, ckp_su, ite_lt_t, ite_lt_f, ite_le_t, ite_le_f, ite_eq_t, ite_eq_f, ck_inb, nI_add, sb_nI, mu_nI, nI_clamp, sO_at, sO_sO, Nat.add_sub_cancel, Nat.zero_add, Nat.add_zero, li_0, li_1, li_2, li_3, li_4, li_5, li_6, li_7, li_8, li_9, li_10, li_11, li_12, li_16, li_20, li_24, li_31, li_32, li_48, li_49, li_73, li_74, li_75, li_97, li_98, li_99, li_100, li_101, li_109, li_110, li_255, li_680, li_700, li_9999, li_65536, li_65537, x_hD0 hp hq hX.1.1, x_refuse]
    · unfold fX11_runWrites
      simp (disch := omega) only [↓mo_1, ↓mo_2, ad_m1, ite_m1_lt, ite_m2_lt, ite_le_m1, ite_eq_m1, ite_eq_m2, ite_m1_m1, ite_m2_m2, ite_T, ite_F, ite_nz, ite_zz, ite_m1_le, ite_m1_eq, oi_none, oi_some, ob_some, lw_def, ck_true, ckp_su, ite_lt_t, ite_lt_f, ite_le_t, ite_le_f, ite_eq_t, ite_eq_f, ck_inb, nI_add, sb_nI, mu_nI, nI_clamp, sO_at, sO_sO, Nat.add_sub_cancel, Nat.zero_add, Nat.add_zero, li_0, li_1, li_2, li_3, li_4, li_5, li_6, li_7, li_8, li_9, li_10, li_11, li_12, li_16, li_20, li_24, li_31, li_32, li_48, li_49, li_73, li_74, li_75, li_97, li_98, li_99, li_100, li_101, li_109, li_110, li_255, li_680, li_700, li_9999, li_65536, li_65537, ← e, show (w1 11 0).2.2.1 3 = 0 from hM, m_refused]
  | some z =>
    obtain ⟨D, T, s, h, im⟩ := z
    obtain ⟨hD, h6, hT, hW, hQ, hH, hI⟩ := hd
    have h48 := hD.2.2.2.1
    have hb1 := hD.1
    refine ⟨sct (goS D T (nI 0) T.2.1.1), 0, by omega, by omega, fun w q hq hp hX => ?_, fun nd w w1 e ⟨d, b1, b2, b3, b4, b5, b6⟩ => ?_⟩
    · obtain ⟨o2, e1, e2, e3⟩ := x_run0 (S := nI 0) hD hT hq hp hX
      refine ⟨sO w 7 1 o2, XS.t, ?_⟩
      unfold fX9_runWrites
      simp (disch := omega) only [↓mo_1, ↓mo_2, ad_m1, ite_m1_lt, ite_m2_lt, ite_le_m1, ite_eq_m1, ite_eq_m2, ite_m1_m1, ite_m2_m2, ite_T, ite_F, ite_nz, ite_zz, ite_m1_le, ite_m1_eq, oi_none, oi_some, ob_some, lw_def, ck_true, ckp_su, ite_lt_t, ite_lt_f, ite_le_t, ite_le_f, ite_eq_t, ite_eq_f, ck_inb, nI_add, sb_nI, mu_nI, nI_clamp, sO_at, sO_sO, Nat.add_sub_cancel, Nat.zero_add, Nat.add_zero, li_0, li_1, li_2, li_3, li_4, li_5, li_6, li_7, li_8, li_9, li_10, li_11, li_12, li_16, li_20, li_24, li_31, li_32, li_48, li_49, li_73, li_74, li_75, li_97, li_98, li_99, li_100, li_101, li_109, li_110, li_255, li_680, li_700, li_9999, li_65536, li_65537, x_hD1 hp hq hX.1.2.2.1 hD.1 (by omega), hp, e1, e2.2.2.2.2.2.2.2.2.2, x_accept]
    · obtain ⟨w3, g3, c1, c2, c3, c4⟩ := m_runs hD hT b2 b1 b3 b4
      refine ⟨mX w3 g3, c4.tr SM.x, ?_⟩
      unfold fX11_runWrites
      simp (disch := omega) only [↓mo_1, ↓mo_2, ad_m1, ite_m1_lt, ite_m2_lt, ite_le_m1, ite_eq_m1, ite_eq_m2, ite_m1_m1, ite_m2_m2, ite_T, ite_F, ite_nz, ite_zz, ite_m1_le, ite_m1_eq, oi_none, oi_some, ob_some, lw_def, ck_true, ckp_su, ite_lt_t, ite_lt_f, ite_le_t, ite_le_f, ite_eq_t, ite_eq_f, ck_inb, nI_add, sb_nI, mu_nI, nI_clamp, sO_at, sO_sO, Nat.add_sub_cancel, Nat.zero_add, Nat.add_zero, li_0, li_1, li_2, li_3, li_4, li_5, li_6, li_7, li_8, li_9, li_10, li_11, li_12, li_16, li_20, li_24, li_31, li_32, li_48, li_49, li_73, li_74, li_75, li_97, li_98, li_99, li_100, li_101, li_109, li_110, li_255, li_680, li_700, li_9999, li_65536, li_65537, ← e, b1, c1, mX_x, c2.2.2.2.2.2.2.2.2.2, m_good]
theorem q_runCleans : Qy (fun w => fX9_runCleans w) (fun nd w => fX11_runCleans nd w) := by
  intro d hd
  cases d with
  | none =>
    refine ⟨m1, 1, by omega, by omega, fun w q hq hp hX => ⟨w, XS.rf, ?_⟩, fun nd w w1 e hM => ⟨w1, SM.rf, ?_⟩⟩
    · unfold fX9_runCleans
      simp (disch := omega) only [↓mo_1, ↓mo_2, ad_m1, ite_m1_lt, ite_m2_lt, ite_le_m1, ite_eq_m1, ite_eq_m2, ite_m1_m1, ite_m2_m2, ite_T, ite_F, ite_nz, ite_zz, ite_m1_le, ite_m1_eq, oi_none, oi_some, ob_some, lw_def, ck_true, ckp_su, ite_lt_t, ite_lt_f, ite_le_t, ite_le_f, ite_eq_t, ite_eq_f, ck_inb, nI_add, sb_nI, mu_nI, nI_clamp, sO_at, sO_sO, Nat.add_sub_cancel, Nat.zero_add, Nat.add_zero, li_0, li_1, li_2, li_3, li_4, li_5, li_6, li_7, li_8, li_9, li_10, li_11, li_12, li_16, li_20, li_24, li_31, li_32, li_48, li_49, li_73, li_74, li_75, li_97, li_98, li_99, li_100, li_101, li_109, li_110, li_255, li_680, li_700, li_9999, li_65536, li_65537, x_hD0 hp hq hX.1.1, x_refuse]
    · unfold fX11_runCleans
      simp (disch := omega) only [↓mo_1, ↓mo_2, ad_m1, ite_m1_lt, ite_m2_lt, ite_le_m1, ite_eq_m1, ite_eq_m2, ite_m1_m1, ite_m2_m2, ite_T, ite_F, ite_nz, ite_zz, ite_m1_le, ite_m1_eq, oi_none, oi_some, ob_some, lw_def, ck_true, ckp_su, ite_lt_t, ite_lt_f, ite_le_t, ite_le_f, ite_eq_t, ite_eq_f, ck_inb, nI_add, sb_nI, mu_nI, nI_clamp, sO_at, sO_sO, Nat.add_sub_cancel, Nat.zero_add, Nat.add_zero, li_0, li_1, li_2, li_3, li_4, li_5, li_6, li_7, li_8, li_9, li_10, li_11, li_12, li_16, li_20, li_24, li_31, li_32, li_48, li_49, li_73, li_74, li_75, li_97, li_98, li_99, li_100, li_101, li_109, li_110, li_255, li_680, li_700, li_9999, li_65536, li_65537, ← e, show (w1 11 0).2.2.1 3 = 0 from hM, m_refused]
  | some z =>
    obtain ⟨D, T, s, h, im⟩ := z
    obtain ⟨hD, h6, hT, hW, hQ, hH, hI⟩ := hd
    have h48 := hD.2.2.2.1
    have hb1 := hD.1
    refine ⟨clN D T (nI 0) T.2.1.1, 0, by omega, by omega, fun w q hq hp hX => ?_, fun nd w w1 e ⟨d, b1, b2, b3, b4, b5, b6⟩ => ?_⟩
    · obtain ⟨o2, e1, e2, e3⟩ := x_run0 (S := nI 0) hD hT hq hp hX
      refine ⟨sO w 7 1 o2, XS.t, ?_⟩
      unfold fX9_runCleans
      simp (disch := omega) only [↓mo_1, ↓mo_2, ad_m1, ite_m1_lt, ite_m2_lt, ite_le_m1, ite_eq_m1, ite_eq_m2, ite_m1_m1, ite_m2_m2, ite_T, ite_F, ite_nz, ite_zz, ite_m1_le, ite_m1_eq, oi_none, oi_some, ob_some, lw_def, ck_true, ckp_su, ite_lt_t, ite_lt_f, ite_le_t, ite_le_f, ite_eq_t, ite_eq_f, ck_inb, nI_add, sb_nI, mu_nI, nI_clamp, sO_at, sO_sO, Nat.add_sub_cancel, Nat.zero_add, Nat.add_zero, li_0, li_1, li_2, li_3, li_4, li_5, li_6, li_7, li_8, li_9, li_10, li_11, li_12, li_16, li_20, li_24, li_31, li_32, li_48, li_49, li_73, li_74, li_75, li_97, li_98, li_99, li_100, li_101, li_109, li_110, li_255, li_680, li_700, li_9999, li_65536, li_65537, x_hD1 hp hq hX.1.2.2.1 hD.1 (by omega), hp, e1, e3, x_accept]
    · obtain ⟨w3, g3, c1, c2, c3, c4⟩ := m_runs hD hT b2 b1 b3 b4
      refine ⟨mX w3 g3, c4.tr SM.x, ?_⟩
      unfold fX11_runCleans
      simp (disch := omega) only [↓mo_1, ↓mo_2, ad_m1, ite_m1_lt, ite_m2_lt, ite_le_m1, ite_eq_m1, ite_eq_m2, ite_m1_m1, ite_m2_m2, ite_T, ite_F, ite_nz, ite_zz, ite_m1_le, ite_m1_eq, oi_none, oi_some, ob_some, lw_def, ck_true, ckp_su, ite_lt_t, ite_lt_f, ite_le_t, ite_le_f, ite_eq_t, ite_eq_f, ck_inb, nI_add, sb_nI, mu_nI, nI_clamp, sO_at, sO_sO, Nat.add_sub_cancel, Nat.zero_add, Nat.add_zero, li_0, li_1, li_2, li_3, li_4, li_5, li_6, li_7, li_8, li_9, li_10, li_11, li_12, li_16, li_20, li_24, li_31, li_32, li_48, li_49, li_73, li_74, li_75, li_97, li_98, li_99, li_100, li_101, li_109, li_110, li_255, li_680, li_700, li_9999, li_65536, li_65537, ← e, b1, c1, mX_i, c3, m_good]
theorem q_runRead {x : Int32} : Qy (fun w => fX9_runRead w x) (fun nd w => fX11_runRead nd w x) := by
  intro d hd
  cases d with
  | none =>
    refine ⟨m1, 1, by omega, by omega, fun w q hq hp hX => ⟨w, XS.rf, ?_⟩, fun nd w w1 e hM => ⟨w1, SM.rf, ?_⟩⟩
    · unfold fX9_runRead
      simp (disch := omega) only [↓mo_1, ↓mo_2, ad_m1, ite_m1_lt, ite_m2_lt, ite_le_m1, ite_eq_m1, ite_eq_m2, ite_m1_m1, ite_m2_m2, ite_T, ite_F, ite_nz, ite_zz, ite_m1_le, ite_m1_eq, oi_none, oi_some, ob_some, lw_def, ck_true, ckp_su, ite_lt_t, ite_lt_f, ite_le_t, ite_le_f, ite_eq_t, ite_eq_f, ck_inb, nI_add, sb_nI, mu_nI, nI_clamp, sO_at, sO_sO, Nat.add_sub_cancel, Nat.zero_add, Nat.add_zero, li_0, li_1, li_2, li_3, li_4, li_5, li_6, li_7, li_8, li_9, li_10, li_11, li_12, li_16, li_20, li_24, li_31, li_32, li_48, li_49, li_73, li_74, li_75, li_97, li_98, li_99, li_100, li_101, li_109, li_110, li_255, li_680, li_700, li_9999, li_65536, li_65537, x_hT0 hp hq hX.1.2.1 (n_z x), x_refuse]
    · unfold fX11_runRead
      simp (disch := omega) only [↓mo_1, ↓mo_2, ad_m1, ite_m1_lt, ite_m2_lt, ite_le_m1, ite_eq_m1, ite_eq_m2, ite_m1_m1, ite_m2_m2, ite_T, ite_F, ite_nz, ite_zz, ite_m1_le, ite_m1_eq, oi_none, oi_some, ob_some, lw_def, ck_true, ckp_su, ite_lt_t, ite_lt_f, ite_le_t, ite_le_f, ite_eq_t, ite_eq_f, ck_inb, nI_add, sb_nI, mu_nI, nI_clamp, sO_at, sO_sO, Nat.add_sub_cancel, Nat.zero_add, Nat.add_zero, li_0, li_1, li_2, li_3, li_4, li_5, li_6, li_7, li_8, li_9, li_10, li_11, li_12, li_16, li_20, li_24, li_31, li_32, li_48, li_49, li_73, li_74, li_75, li_97, li_98, li_99, li_100, li_101, li_109, li_110, li_255, li_680, li_700, li_9999, li_65536, li_65537, ← e, m_iT0 hM, m_refused]
  | some z =>
    obtain ⟨D, T, s, h, im⟩ := z
    obtain ⟨hD, h6, hT, hW, hQ, hH, hI⟩ := hd
    have h48 := hD.2.2.2.1
    have hb1 := hD.1
    rcases rng x (show dnt D < 2 ^ 31 by omega) with ⟨t, ht, rfl⟩ | hx
    · refine ⟨vaS (goS D T (nI 0) T.2.1.1) t, 0, by omega, by omega, fun w q hq hp hX => ?_, fun nd w w1 e ⟨d, b1, b2, b3, b4, b5, b6⟩ => ?_⟩
      · obtain ⟨o2, e1, e2, e3⟩ := x_run0 (S := nI 0) hD hT hq hp hX
        refine ⟨sO w 7 1 o2, XS.t, ?_⟩
        unfold fX9_runRead
        simp (disch := omega) only [↓mo_1, ↓mo_2, ad_m1, ite_m1_lt, ite_m2_lt, ite_le_m1, ite_eq_m1, ite_eq_m2, ite_m1_m1, ite_m2_m2, ite_T, ite_F, ite_nz, ite_zz, ite_m1_le, ite_m1_eq, oi_none, oi_some, ob_some, lw_def, ck_true, ckp_su, ite_lt_t, ite_lt_f, ite_le_t, ite_le_f, ite_eq_t, ite_eq_f, ck_inb, nI_add, sb_nI, mu_nI, nI_clamp, sO_at, sO_sO, Nat.add_sub_cancel, Nat.zero_add, Nat.add_zero, li_0, li_1, li_2, li_3, li_4, li_5, li_6, li_7, li_8, li_9, li_10, li_11, li_12, li_16, li_20, li_24, li_31, li_32, li_48, li_49, li_73, li_74, li_75, li_97, li_98, li_99, li_100, li_101, li_109, li_110, li_255, li_680, li_700, li_9999, li_65536, li_65537, x_hT1 hp hq hX.1.2.2.2.1, hp, e1, x_valueOf hD (go_wf hD hT _ (Nat.le_refl _)).1 e2, x_accept]
      · obtain ⟨w3, g3, c1, c2, c3, c4⟩ := m_runs hD hT b2 b1 b3 b4
        refine ⟨mX w3 g3, c4.tr SM.x, ?_⟩
        unfold fX11_runRead
        simp (disch := omega) only [↓mo_1, ↓mo_2, ad_m1, ite_m1_lt, ite_m2_lt, ite_le_m1, ite_eq_m1, ite_eq_m2, ite_m1_m1, ite_m2_m2, ite_T, ite_F, ite_nz, ite_zz, ite_m1_le, ite_m1_eq, oi_none, oi_some, ob_some, lw_def, ck_true, ckp_su, ite_lt_t, ite_lt_f, ite_le_t, ite_le_f, ite_eq_t, ite_eq_f, ck_inb, nI_add, sb_nI, mu_nI, nI_clamp, sO_at, sO_sO, Nat.add_sub_cancel, Nat.zero_add, Nat.add_zero, li_0, li_1, li_2, li_3, li_4, li_5, li_6, li_7, li_8, li_9, li_10, li_11, li_12, li_16, li_20, li_24, li_31, li_32, li_48, li_49, li_73, li_74, li_75, li_97, li_98, li_99, li_100, li_101, li_109, li_110, li_255, li_680, li_700, li_9999, li_65536, li_65537, ← e, m_iT1 b1 b2 b4.1, c1, m_readOf hD (go_wf hD hT _ (Nat.le_refl _)).1 c2, m_good]
    · refine ⟨m1, 1, by omega, by omega, fun w q hq hp hX => ⟨w, XS.rf, ?_⟩, fun nd w w1 e ⟨d, b1, b2, b3, b4, b5, b6⟩ => ⟨w1, SM.rf, ?_⟩⟩
      · unfold fX9_runRead
        simp (disch := omega) only [↓mo_1, ↓mo_2, ad_m1, ite_m1_lt, ite_m2_lt, ite_le_m1, ite_eq_m1, ite_eq_m2, ite_m1_m1, ite_m2_m2, ite_T, ite_F, ite_nz, ite_zz, ite_m1_le, ite_m1_eq, oi_none, oi_some, ob_some, lw_def, ck_true, ckp_su, ite_lt_t, ite_lt_f, ite_le_t, ite_le_f, ite_eq_t, ite_eq_f, ck_inb, nI_add, sb_nI, mu_nI, nI_clamp, sO_at, sO_sO, Nat.add_sub_cancel, Nat.zero_add, Nat.add_zero, li_0, li_1, li_2, li_3, li_4, li_5, li_6, li_7, li_8, li_9, li_10, li_11, li_12, li_16, li_20, li_24, li_31, li_32, li_48, li_49, li_73, li_74, li_75, li_97, li_98, li_99, li_100, li_101, li_109, li_110, li_255, li_680, li_700, li_9999, li_65536, li_65537, x_hT0 hp hq hX.1.2.2.2.1 hx, x_refuse]
      · unfold fX11_runRead
        simp (disch := omega) only [↓mo_1, ↓mo_2, ad_m1, ite_m1_lt, ite_m2_lt, ite_le_m1, ite_eq_m1, ite_eq_m2, ite_m1_m1, ite_m2_m2, ite_T, ite_F, ite_nz, ite_zz, ite_m1_le, ite_m1_eq, oi_none, oi_some, ob_some, lw_def, ck_true, ckp_su, ite_lt_t, ite_lt_f, ite_le_t, ite_le_f, ite_eq_t, ite_eq_f, ck_inb, nI_add, sb_nI, mu_nI, nI_clamp, sO_at, sO_sO, Nat.add_sub_cancel, Nat.zero_add, Nat.add_zero, li_0, li_1, li_2, li_3, li_4, li_5, li_6, li_7, li_8, li_9, li_10, li_11, li_12, li_16, li_20, li_24, li_31, li_32, li_48, li_49, li_73, li_74, li_75, li_97, li_98, li_99, li_100, li_101, li_109, li_110, li_255, li_680, li_700, li_9999, li_65536, li_65537, ← e, m_iT b1 b2 b4.1 hx, m_refused]
theorem wr_some {s : Sd} {i : Nat} : ∀ {k n : Nat}, k ≤ n → wrR D T s k = some i → wrR D T s n = some i
  | k, 0, hk, h => by rw [Nat.le_zero.mp hk] at h; cases h
  | k, n + 1, hk, h => by
    by_cases e : k = n + 1
    · rw [← e]; exact h
    · have := wr_some (k := k) (n := n) (by omega) h
      unfold wrR
      rw [this]
theorem wr_s {s : Sd} {k : Nat} (h0 : wrR D T s k = none) (hc : ¬ vaS s (T.2.2.2.2.1 k) = T.2.2.2.2.2 k) : wrR D T s (k + 1) = some k := by
  unfold wrR
  rw [h0]
  exact if_neg hc
theorem wr_n {s : Sd} {k : Nat} (h0 : wrR D T s k = none) (hc : vaS s (T.2.2.2.2.1 k) = T.2.2.2.2.2 k) : wrR D T s (k + 1) = none := by
  unfold wrR
  rw [h0]
  exact if_pos hc
theorem x_fr {w : Wd} {q : Nat} {o : Ob} {s : Sd} (hD : WFD D) (hT : WFT D T) (hq : q < 2) (hp : (w 9 0).2.2.1 2 = q + 1) (hR : RT w q T) (hW : WFS D s) (hX : RX o s) : ∀ r k, k + r = T.2.2.2.1 → wrR D T s k = none → ∀ m, r < m → fX9_firstReadOtherwise_2 m (sO w 7 1 o) (nI k) = some (oi2 (wrR D T s T.2.2.2.1), sO w 7 1 o) := by
  have h6 := hT.2.2.2.1
  have h48 := hD.2.2.2.1
  have hp2 : (sO w 7 1 o 9 0).2.2.1 2 = q + 1 := by rw [sO_nc (by decide)]; exact hp
  have hT2 := RT_s (o := o) (j := 1) hR
  have l0 := pl_3 (q := q) (k := 0) (by omega)
  have l1 := pl_3 (q := q) (k := 1) (by omega)
  intro r
  induction r with
  | zero =>
    intro k hk h0 m hm
    obtain ⟨m, rfl⟩ : ∃ z, m = z + 1 := ⟨m - 1, by omega⟩
    have e : k = T.2.2.2.1 := by omega
    subst e
    rw [fX9_firstReadOtherwise_2.eq_2, h0, oi2_n, hp2, ckp_su hq, hT2.2.2.2.1]
    simp (disch := omega) only [↓mo_1, ↓mo_2, ad_m1, ite_m1_lt, ite_m2_lt, ite_le_m1, ite_eq_m1, ite_eq_m2, ite_m1_m1, ite_m2_m2, ite_T, ite_F, ite_nz, ite_zz, ite_m1_le, ite_m1_eq, oi_none, oi_some, ob_some, lw_def, ck_true, ckp_su, ite_lt_t, ite_lt_f, ite_le_t, ite_le_f, ite_eq_t, ite_eq_f, ck_inb, nI_add, sb_nI, mu_nI, nI_clamp, sO_at, sO_sO, Nat.add_sub_cancel, Nat.zero_add, Nat.add_zero, li_0, li_1, li_2, li_3, li_4, li_5, li_6, li_7, li_8, li_9, li_10, li_11, li_12, li_16, li_20, li_24, li_31, li_32, li_48, li_49, li_73, li_74, li_75, li_97, li_98, li_99, li_100, li_101, li_109, li_110, li_255, li_680, li_700, li_9999, li_65536, li_65537]
  | succ r ih =>
    intro k hk h0 m hm
    obtain ⟨m, rfl⟩ : ∃ z, m = z + 1 := ⟨m - 1, by omega⟩
    have ht := hT.2.2.2.2 k (by omega)
    rw [fX9_firstReadOtherwise_2.eq_2, hp2, ckp_su hq, hT2.2.2.2.1, ckp_su hq]
    simp (disch := omega) only [↓mo_1, ↓mo_2, ad_m1, ite_m1_lt, ite_m2_lt, ite_le_m1, ite_eq_m1, ite_eq_m2, ite_m1_m1, ite_m2_m2, ite_T, ite_F, ite_nz, ite_zz, ite_m1_le, ite_m1_eq, oi_none, oi_some, ob_some, lw_def, ck_true, ckp_su, ite_lt_t, ite_lt_f, ite_le_t, ite_le_f, ite_eq_t, ite_eq_f, ck_inb, nI_add, sb_nI, mu_nI, nI_clamp, sO_at, sO_sO, Nat.add_sub_cancel, Nat.zero_add, Nat.add_zero, li_0, li_1, li_2, li_3, li_4, li_5, li_6, li_7, li_8, li_9, li_10, li_11, li_12, li_16, li_20, li_24, li_31, li_32, li_48, li_49, li_73, li_74, li_75, li_97, li_98, li_99, li_100, li_101, li_109, li_110, li_255, li_680, li_700, li_9999, li_65536, li_65537, x_pf hT2.2.2.2, x_valueOf hD hW hX (show T.2.2.2.2.1 k < 48 by omega), hp2, x_ps hT2.2.2.2]
    by_cases c : vaS s (T.2.2.2.2.1 k) = T.2.2.2.2.2 k
    · rw [if_pos c]
      exact ih (k + 1) (by omega) (wr_n h0 c) m (by omega)
    · rw [if_neg c, wr_some (show k + 1 ≤ T.2.2.2.1 by omega) (wr_s h0 c)]
      rfl
theorem m_wr {w : Wd} {nd d : Nat} {f : Nat → Int32} {s : Sd} (hD : WFD D) (hT : WFT D T) (hd : d < nd) (hp : (w 11 0).2.2.1 3 = d + 1) (hR : RTm (w 10 d) D T) (hW : WFS D s) (hX : RM f s) : ∀ r k, k + r = T.2.2.2.1 → wrR D T s k = none → ∀ m, r < m → fX11_wrongRead_11 nd m (mX w f) (nI k) = some (oi2 (wrR D T s T.2.2.2.1), mX w f) := by
  have h6 := hT.2.2.2.1
  have h48 := hD.2.2.2.1
  obtain ⟨r1, r2, r3⟩ := hR.2.2.2.2
  intro r
  induction r with
  | zero =>
    intro k hk h0 m hm
    obtain ⟨m, rfl⟩ : ∃ z, m = z + 1 := ⟨m - 1, by omega⟩
    have e : k = T.2.2.2.1 := by omega
    subst e
    rw [fX11_wrongRead_11.eq_2, h0, oi2_n]
    simp (disch := omega) only [↓mo_1, ↓mo_2, ad_m1, ite_m1_lt, ite_m2_lt, ite_le_m1, ite_eq_m1, ite_eq_m2, ite_m1_m1, ite_m2_m2, ite_T, ite_F, ite_nz, ite_zz, ite_m1_le, ite_m1_eq, oi_none, oi_some, ob_some, lw_def, ck_true, ckp_su, ite_lt_t, ite_lt_f, ite_le_t, ite_le_f, ite_eq_t, ite_eq_f, ck_inb, nI_add, sb_nI, mu_nI, nI_clamp, sO_at, sO_sO, Nat.add_sub_cancel, Nat.zero_add, Nat.add_zero, li_0, li_1, li_2, li_3, li_4, li_5, li_6, li_7, li_8, li_9, li_10, li_11, li_12, li_16, li_20, li_24, li_31, li_32, li_48, li_49, li_73, li_74, li_75, li_97, li_98, li_99, li_100, li_101, li_109, li_110, li_255, li_680, li_700, li_9999, li_65536, li_65537, mX_p, hp, mX_10, r1]
  | succ r ih =>
    intro k hk h0 m hm
    obtain ⟨m, rfl⟩ : ∃ z, m = z + 1 := ⟨m - 1, by omega⟩
    have ht := hT.2.2.2.2 k (by omega)
    rw [fX11_wrongRead_11.eq_2]
    simp (disch := omega) only [↓mo_1, ↓mo_2, ad_m1, ite_m1_lt, ite_m2_lt, ite_le_m1, ite_eq_m1, ite_eq_m2, ite_m1_m1, ite_m2_m2, ite_T, ite_F, ite_nz, ite_zz, ite_m1_le, ite_m1_eq, oi_none, oi_some, ob_some, lw_def, ck_true, ckp_su, ite_lt_t, ite_lt_f, ite_le_t, ite_le_f, ite_eq_t, ite_eq_f, ck_inb, nI_add, sb_nI, mu_nI, nI_clamp, sO_at, sO_sO, Nat.add_sub_cancel, Nat.zero_add, Nat.add_zero, li_0, li_1, li_2, li_3, li_4, li_5, li_6, li_7, li_8, li_9, li_10, li_11, li_12, li_16, li_20, li_24, li_31, li_32, li_48, li_49, li_73, li_74, li_75, li_97, li_98, li_99, li_100, li_101, li_109, li_110, li_255, li_680, li_700, li_9999, li_65536, li_65537, mX_p, hp, mX_10, r1, r2 k (by omega), m_readOf hD hW hX (show T.2.2.2.2.1 k < 48 by omega), r3 k (by omega)]
    by_cases c : vaS s (T.2.2.2.2.1 k) = T.2.2.2.2.2 k
    · rw [if_pos c]
      exact ih (k + 1) (by omega) (wr_n h0 c) m (by omega)
    · rw [if_neg c, wr_some (show k + 1 ≤ T.2.2.2.1 by omega) (wr_s h0 c)]
      rfl
theorem x_firstRead {w : Wd} {q : Nat} {o : Ob} {S : Int32} (hD : WFD D) (hT : WFT D T) (hq : q < 2) (hp : (w 9 0).2.2.1 2 = q + 1) (hR : RT w q T) (hX : RX o (goS D T S T.2.1.1)) : fX9_firstReadOtherwise (sO w 7 1 o) = some (oi2 (wrS D T S), sO w 7 1 o) := by
  have h6 := hT.2.2.2.1
  exact x_fr hD hT hq hp hR (go_wf hD hT _ (Nat.le_refl _)).1 hX T.2.2.2.1 0 (Nat.zero_add _) rfl fuel0 (by unfold fuel0; omega)
theorem m_wrongRead {w : Wd} {nd d : Nat} {S : Int32} (hD : WFD D) (hT : WFT D T) (hd : d < nd) (hp : (w 11 0).2.2.1 3 = d + 1) (hR : RDm (w 10 d) D) (hTm : RTm (w 10 d) D T) : ∃ w3 : Wd, fX11_wrongRead nd w S = some (oi2 (wrS D T S), w3) ∧ SM w w3 := by
  have h6 := hT.2.2.2.1
  obtain ⟨w2, w3, g, g3, e1, e2, e3, e4, e5, e6⟩ := m_run (S := S) hD hT hd hp hR hTm
  have e7 := m_wr (f := g3) hD hT hd (show (w3 11 0).2.2.1 3 = d + 1 by rw [e5.2.1]; exact hp) (show RTm (w3 10 d) D T by rw [e5.1 10 d (by omega)]; exact hTm) (go_wf hD hT _ (Nat.le_refl _)).1 e3 T.2.2.2.1 0 (Nat.zero_add _) rfl fuel0 (by unfold fuel0; omega)
  refine ⟨mX w3 g3, ?_, e5.tr SM.x⟩
  unfold fX11_wrongRead
  simp (disch := omega) only [↓mo_1, ↓mo_2, ad_m1, ite_m1_lt, ite_m2_lt, ite_le_m1, ite_eq_m1, ite_eq_m2, ite_m1_m1, ite_m2_m2, ite_T, ite_F, ite_nz, ite_zz, ite_m1_le, ite_m1_eq, oi_none, oi_some, ob_some, lw_def, ck_true, ckp_su, ite_lt_t, ite_lt_f, ite_le_t, ite_le_f, ite_eq_t, ite_eq_f, ck_inb, nI_add, sb_nI, mu_nI, nI_clamp, sO_at, sO_sO, Nat.add_sub_cancel, Nat.zero_add, Nat.add_zero, li_0, li_1, li_2, li_3, li_4, li_5, li_6, li_7, li_8, li_9, li_10, li_11, li_12, li_16, li_20, li_24, li_31, li_32, li_48, li_49, li_73, li_74, li_75, li_97, li_98, li_99, li_100, li_101, li_109, li_110, li_255, li_680, li_700, li_9999, li_65536, li_65537, e1, e2]
  exact e7
theorem q_judge : Qy (fun w => fX9_judge w) (fun nd w => fX11_judge nd w) := by
  intro d hd
  cases d with
  | none =>
    refine ⟨m1, 1, by omega, by omega, fun w q hq hp hX => ⟨w, XS.rf, ?_⟩, fun nd w w1 e hM => ⟨w1, SM.rf, ?_⟩⟩
    · unfold fX9_judge
      simp (disch := omega) only [↓mo_1, ↓mo_2, ad_m1, ite_m1_lt, ite_m2_lt, ite_le_m1, ite_eq_m1, ite_eq_m2, ite_m1_m1, ite_m2_m2, ite_T, ite_F, ite_nz, ite_zz, ite_m1_le, ite_m1_eq, oi_none, oi_some, ob_some, lw_def, ck_true, ckp_su, ite_lt_t, ite_lt_f, ite_le_t, ite_le_f, ite_eq_t, ite_eq_f, ck_inb, nI_add, sb_nI, mu_nI, nI_clamp, sO_at, sO_sO, Nat.add_sub_cancel, Nat.zero_add, Nat.add_zero, li_0, li_1, li_2, li_3, li_4, li_5, li_6, li_7, li_8, li_9, li_10, li_11, li_12, li_16, li_20, li_24, li_31, li_32, li_48, li_49, li_73, li_74, li_75, li_97, li_98, li_99, li_100, li_101, li_109, li_110, li_255, li_680, li_700, li_9999, li_65536, li_65537, x_hD0 hp hq hX.1.1, x_refuse]
    · unfold fX11_judge
      simp (disch := omega) only [↓mo_1, ↓mo_2, ad_m1, ite_m1_lt, ite_m2_lt, ite_le_m1, ite_eq_m1, ite_eq_m2, ite_m1_m1, ite_m2_m2, ite_T, ite_F, ite_nz, ite_zz, ite_m1_le, ite_m1_eq, oi_none, oi_some, ob_some, lw_def, ck_true, ckp_su, ite_lt_t, ite_lt_f, ite_le_t, ite_le_f, ite_eq_t, ite_eq_f, ck_inb, nI_add, sb_nI, mu_nI, nI_clamp, sO_at, sO_sO, Nat.add_sub_cancel, Nat.zero_add, Nat.add_zero, li_0, li_1, li_2, li_3, li_4, li_5, li_6, li_7, li_8, li_9, li_10, li_11, li_12, li_16, li_20, li_24, li_31, li_32, li_48, li_49, li_73, li_74, li_75, li_97, li_98, li_99, li_100, li_101, li_109, li_110, li_255, li_680, li_700, li_9999, li_65536, li_65537, ← e, show (w1 11 0).2.2.1 3 = 0 from hM, m_refused]
  | some z =>
    obtain ⟨D, T, s, h, im⟩ := z
    obtain ⟨hD, h6, hT, hW, hQ, hH, hI⟩ := hd
    have h48 := hD.2.2.2.1
    have hb1 := hD.1
    refine ⟨oi2 (wrS D T (nI 0)), 0, by omega, by omega, fun w q hq hp hX => ?_, fun nd w w1 e ⟨d, b1, b2, b3, b4, b5, b6⟩ => ?_⟩
    · obtain ⟨o2, e1, e2, e3⟩ := x_run0 (S := nI 0) hD hT hq hp hX
      refine ⟨sO w 7 1 o2, XS.t, ?_⟩
      unfold fX9_judge
      simp (disch := omega) only [↓mo_1, ↓mo_2, ad_m1, ite_m1_lt, ite_m2_lt, ite_le_m1, ite_eq_m1, ite_eq_m2, ite_m1_m1, ite_m2_m2, ite_T, ite_F, ite_nz, ite_zz, ite_m1_le, ite_m1_eq, oi_none, oi_some, ob_some, lw_def, ck_true, ckp_su, ite_lt_t, ite_lt_f, ite_le_t, ite_le_f, ite_eq_t, ite_eq_f, ck_inb, nI_add, sb_nI, mu_nI, nI_clamp, sO_at, sO_sO, Nat.add_sub_cancel, Nat.zero_add, Nat.add_zero, li_0, li_1, li_2, li_3, li_4, li_5, li_6, li_7, li_8, li_9, li_10, li_11, li_12, li_16, li_20, li_24, li_31, li_32, li_48, li_49, li_73, li_74, li_75, li_97, li_98, li_99, li_100, li_101, li_109, li_110, li_255, li_680, li_700, li_9999, li_65536, li_65537, x_hD1 hp hq hX.1.2.2.1 hD.1 (by omega), hp, e1, x_firstRead hD hT hq hp hX.2.1 e2, x_accept]
    · obtain ⟨w3, c1, c2⟩ := m_wrongRead (S := nI 0) hD hT b2 b1 b3 b4
      refine ⟨w3, c2, ?_⟩
      unfold fX11_judge
      simp (disch := omega) only [↓mo_1, ↓mo_2, ad_m1, ite_m1_lt, ite_m2_lt, ite_le_m1, ite_eq_m1, ite_eq_m2, ite_m1_m1, ite_m2_m2, ite_T, ite_F, ite_nz, ite_zz, ite_m1_le, ite_m1_eq, oi_none, oi_some, ob_some, lw_def, ck_true, ckp_su, ite_lt_t, ite_lt_f, ite_le_t, ite_le_f, ite_eq_t, ite_eq_f, ck_inb, nI_add, sb_nI, mu_nI, nI_clamp, sO_at, sO_sO, Nat.add_sub_cancel, Nat.zero_add, Nat.add_zero, li_0, li_1, li_2, li_3, li_4, li_5, li_6, li_7, li_8, li_9, li_10, li_11, li_12, li_16, li_20, li_24, li_31, li_32, li_48, li_49, li_73, li_74, li_75, li_97, li_98, li_99, li_100, li_101, li_109, li_110, li_255, li_680, li_700, li_9999, li_65536, li_65537, ← e, b1, c1, m_good]
theorem q_bySize {x : Int32} : Qy (fun w => fX9_bySize w x) (fun nd w => fX11_bySize nd w x) := by
  intro d hd
  cases d with
  | none =>
    refine ⟨m1, 1, by omega, by omega, fun w q hq hp hX => ⟨w, XS.rf, ?_⟩, fun nd w w1 e hM => ⟨w1, SM.rf, ?_⟩⟩
    · unfold fX9_bySize
      simp (disch := omega) only [↓mo_1, ↓mo_2, ad_m1, ite_m1_lt, ite_m2_lt, ite_le_m1, ite_eq_m1, ite_eq_m2, ite_m1_m1, ite_m2_m2, ite_T, ite_F, ite_nz, ite_zz, ite_m1_le, ite_m1_eq, oi_none, oi_some, ob_some, lw_def, ck_true, ckp_su, ite_lt_t, ite_lt_f, ite_le_t, ite_le_f, ite_eq_t, ite_eq_f, ck_inb, nI_add, sb_nI, mu_nI, nI_clamp, sO_at, sO_sO, Nat.add_sub_cancel, Nat.zero_add, Nat.add_zero, li_0, li_1, li_2, li_3, li_4, li_5, li_6, li_7, li_8, li_9, li_10, li_11, li_12, li_16, li_20, li_24, li_31, li_32, li_48, li_49, li_73, li_74, li_75, li_97, li_98, li_99, li_100, li_101, li_109, li_110, li_255, li_680, li_700, li_9999, li_65536, li_65537, x_hD0 hp hq hX.1.1, x_refuse]
    · unfold fX11_bySize
      simp (disch := omega) only [↓mo_1, ↓mo_2, ad_m1, ite_m1_lt, ite_m2_lt, ite_le_m1, ite_eq_m1, ite_eq_m2, ite_m1_m1, ite_m2_m2, ite_T, ite_F, ite_nz, ite_zz, ite_m1_le, ite_m1_eq, oi_none, oi_some, ob_some, lw_def, ck_true, ckp_su, ite_lt_t, ite_lt_f, ite_le_t, ite_le_f, ite_eq_t, ite_eq_f, ck_inb, nI_add, sb_nI, mu_nI, nI_clamp, sO_at, sO_sO, Nat.add_sub_cancel, Nat.zero_add, Nat.add_zero, li_0, li_1, li_2, li_3, li_4, li_5, li_6, li_7, li_8, li_9, li_10, li_11, li_12, li_16, li_20, li_24, li_31, li_32, li_48, li_49, li_73, li_74, li_75, li_97, li_98, li_99, li_100, li_101, li_109, li_110, li_255, li_680, li_700, li_9999, li_65536, li_65537, ← e, show (w1 11 0).2.2.1 3 = 0 from hM, m_refused]
  | some z =>
    obtain ⟨D, T, s, h, im⟩ := z
    obtain ⟨hD, h6, hT, hW, hQ, hH, hI⟩ := hd
    have h48 := hD.2.2.2.1
    have hb1 := hD.1
    rcases rng2 x (show 2 < 2 ^ 31 by omega) (show 8 < 2 ^ 31 by omega) with ⟨n, hn, h8, rfl⟩ | hx
    · refine ⟨sct (goS (szD D n) T (nI 0) T.2.1.1), 0, by omega, by omega, fun w q hq hp hX => ?_, fun nd w w1 e ⟨d, b1, b2, b3, b4, b5, b6⟩ => ?_⟩
      · obtain ⟨w2, e1, e2⟩ := x_twbs hD hT hq hp hX hn h8
        refine ⟨w2, e2, ?_⟩
        unfold fX9_bySize
        simp (disch := omega) only [↓mo_1, ↓mo_2, ad_m1, ite_m1_lt, ite_m2_lt, ite_le_m1, ite_eq_m1, ite_eq_m2, ite_m1_m1, ite_m2_m2, ite_T, ite_F, ite_nz, ite_zz, ite_m1_le, ite_m1_eq, oi_none, oi_some, ob_some, lw_def, ck_true, ckp_su, ite_lt_t, ite_lt_f, ite_le_t, ite_le_f, ite_eq_t, ite_eq_f, ck_inb, nI_add, sb_nI, mu_nI, nI_clamp, sO_at, sO_sO, Nat.add_sub_cancel, Nat.zero_add, Nat.add_zero, li_0, li_1, li_2, li_3, li_4, li_5, li_6, li_7, li_8, li_9, li_10, li_11, li_12, li_16, li_20, li_24, li_31, li_32, li_48, li_49, li_73, li_74, li_75, li_97, li_98, li_99, li_100, li_101, li_109, li_110, li_255, li_680, li_700, li_9999, li_65536, li_65537, x_hD1 hp hq hX.1.2.2.1 hD.1 (by omega), e1, x_accept]
      · obtain ⟨w3, c1, c2⟩ := m_writesBySize hD hT b2 b1 b3 b4 hn h8
        refine ⟨w3, c2, ?_⟩
        unfold fX11_bySize
        simp (disch := omega) only [↓mo_1, ↓mo_2, ad_m1, ite_m1_lt, ite_m2_lt, ite_le_m1, ite_eq_m1, ite_eq_m2, ite_m1_m1, ite_m2_m2, ite_T, ite_F, ite_nz, ite_zz, ite_m1_le, ite_m1_eq, oi_none, oi_some, ob_some, lw_def, ck_true, ckp_su, ite_lt_t, ite_lt_f, ite_le_t, ite_le_f, ite_eq_t, ite_eq_f, ck_inb, nI_add, sb_nI, mu_nI, nI_clamp, sO_at, sO_sO, Nat.add_sub_cancel, Nat.zero_add, Nat.add_zero, li_0, li_1, li_2, li_3, li_4, li_5, li_6, li_7, li_8, li_9, li_10, li_11, li_12, li_16, li_20, li_24, li_31, li_32, li_48, li_49, li_73, li_74, li_75, li_97, li_98, li_99, li_100, li_101, li_109, li_110, li_255, li_680, li_700, li_9999, li_65536, li_65537, ← e, b1, m_in1, c1, m_good]
    · refine ⟨m1, 2, by omega, by omega, fun w q hq hp hX => ⟨w, XS.rf, ?_⟩, fun nd w w1 e ⟨d, b1, b2, b3, b4, b5, b6⟩ => ⟨w1, SM.rf, ?_⟩⟩
      · unfold fX9_bySize
        simp (disch := omega) only [↓mo_1, ↓mo_2, ad_m1, ite_m1_lt, ite_m2_lt, ite_le_m1, ite_eq_m1, ite_eq_m2, ite_m1_m1, ite_m2_m2, ite_T, ite_F, ite_nz, ite_zz, ite_m1_le, ite_m1_eq, oi_none, oi_some, ob_some, lw_def, ck_true, ckp_su, ite_lt_t, ite_lt_f, ite_le_t, ite_le_f, ite_eq_t, ite_eq_f, ck_inb, nI_add, sb_nI, mu_nI, nI_clamp, sO_at, sO_sO, Nat.add_sub_cancel, Nat.zero_add, Nat.add_zero, li_0, li_1, li_2, li_3, li_4, li_5, li_6, li_7, li_8, li_9, li_10, li_11, li_12, li_16, li_20, li_24, li_31, li_32, li_48, li_49, li_73, li_74, li_75, li_97, li_98, li_99, li_100, li_101, li_109, li_110, li_255, li_680, li_700, li_9999, li_65536, li_65537, x_hD1 hp hq hX.1.2.2.1 hD.1 (by omega), x_refuse, ite_r2 hx]
      · unfold fX11_bySize
        simp (disch := omega) only [↓mo_1, ↓mo_2, ad_m1, ite_m1_lt, ite_m2_lt, ite_le_m1, ite_eq_m1, ite_eq_m2, ite_m1_m1, ite_m2_m2, ite_T, ite_F, ite_nz, ite_zz, ite_m1_le, ite_m1_eq, oi_none, oi_some, ob_some, lw_def, ck_true, ckp_su, ite_lt_t, ite_lt_f, ite_le_t, ite_le_f, ite_eq_t, ite_eq_f, ck_inb, nI_add, sb_nI, mu_nI, nI_clamp, sO_at, sO_sO, Nat.add_sub_cancel, Nat.zero_add, Nat.add_zero, li_0, li_1, li_2, li_3, li_4, li_5, li_6, li_7, li_8, li_9, li_10, li_11, li_12, li_16, li_20, li_24, li_31, li_32, li_48, li_49, li_73, li_74, li_75, li_97, li_98, li_99, li_100, li_101, li_109, li_110, li_255, li_680, li_700, li_9999, li_65536, li_65537, ← e, b1, m_inO hx, m_refused]
theorem q_byLog {x : Int32} : Qy (fun w => fX9_byLog w x) (fun nd w => fX11_byLog nd w x) := by
  intro d hd
  cases d with
  | none =>
    refine ⟨m1, 1, by omega, by omega, fun w q hq hp hX => ⟨w, XS.rf, ?_⟩, fun nd w w1 e hM => ⟨w1, SM.rf, ?_⟩⟩
    · unfold fX9_byLog
      simp (disch := omega) only [↓mo_1, ↓mo_2, ad_m1, ite_m1_lt, ite_m2_lt, ite_le_m1, ite_eq_m1, ite_eq_m2, ite_m1_m1, ite_m2_m2, ite_T, ite_F, ite_nz, ite_zz, ite_m1_le, ite_m1_eq, oi_none, oi_some, ob_some, lw_def, ck_true, ckp_su, ite_lt_t, ite_lt_f, ite_le_t, ite_le_f, ite_eq_t, ite_eq_f, ck_inb, nI_add, sb_nI, mu_nI, nI_clamp, sO_at, sO_sO, Nat.add_sub_cancel, Nat.zero_add, Nat.add_zero, li_0, li_1, li_2, li_3, li_4, li_5, li_6, li_7, li_8, li_9, li_10, li_11, li_12, li_16, li_20, li_24, li_31, li_32, li_48, li_49, li_73, li_74, li_75, li_97, li_98, li_99, li_100, li_101, li_109, li_110, li_255, li_680, li_700, li_9999, li_65536, li_65537, x_hD0 hp hq hX.1.1, x_refuse]
    · unfold fX11_byLog
      simp (disch := omega) only [↓mo_1, ↓mo_2, ad_m1, ite_m1_lt, ite_m2_lt, ite_le_m1, ite_eq_m1, ite_eq_m2, ite_m1_m1, ite_m2_m2, ite_T, ite_F, ite_nz, ite_zz, ite_m1_le, ite_m1_eq, oi_none, oi_some, ob_some, lw_def, ck_true, ckp_su, ite_lt_t, ite_lt_f, ite_le_t, ite_le_f, ite_eq_t, ite_eq_f, ck_inb, nI_add, sb_nI, mu_nI, nI_clamp, sO_at, sO_sO, Nat.add_sub_cancel, Nat.zero_add, Nat.add_zero, li_0, li_1, li_2, li_3, li_4, li_5, li_6, li_7, li_8, li_9, li_10, li_11, li_12, li_16, li_20, li_24, li_31, li_32, li_48, li_49, li_73, li_74, li_75, li_97, li_98, li_99, li_100, li_101, li_109, li_110, li_255, li_680, li_700, li_9999, li_65536, li_65537, ← e, show (w1 11 0).2.2.1 3 = 0 from hM, m_refused]
  | some z =>
    obtain ⟨D, T, s, h, im⟩ := z
    obtain ⟨hD, h6, hT, hW, hQ, hH, hI⟩ := hd
    have h48 := hD.2.2.2.1
    have hb1 := hD.1
    rcases rng2 x (show 2 < 2 ^ 31 by omega) (show 24 < 2 ^ 31 by omega) with ⟨n, hn, h8, rfl⟩ | hx
    · refine ⟨clN (lgD D n) T (nI 0) T.2.1.1, 0, by omega, by omega, fun w q hq hp hX => ?_, fun nd w w1 e ⟨d, b1, b2, b3, b4, b5, b6⟩ => ?_⟩
      · obtain ⟨w2, e1, e2⟩ := x_cbl hD hT hq hp hX hn h8
        refine ⟨w2, e2, ?_⟩
        unfold fX9_byLog
        simp (disch := omega) only [↓mo_1, ↓mo_2, ad_m1, ite_m1_lt, ite_m2_lt, ite_le_m1, ite_eq_m1, ite_eq_m2, ite_m1_m1, ite_m2_m2, ite_T, ite_F, ite_nz, ite_zz, ite_m1_le, ite_m1_eq, oi_none, oi_some, ob_some, lw_def, ck_true, ckp_su, ite_lt_t, ite_lt_f, ite_le_t, ite_le_f, ite_eq_t, ite_eq_f, ck_inb, nI_add, sb_nI, mu_nI, nI_clamp, sO_at, sO_sO, Nat.add_sub_cancel, Nat.zero_add, Nat.add_zero, li_0, li_1, li_2, li_3, li_4, li_5, li_6, li_7, li_8, li_9, li_10, li_11, li_12, li_16, li_20, li_24, li_31, li_32, li_48, li_49, li_73, li_74, li_75, li_97, li_98, li_99, li_100, li_101, li_109, li_110, li_255, li_680, li_700, li_9999, li_65536, li_65537, x_hD1 hp hq hX.1.2.2.1 hD.1 (by omega), e1, x_accept]
      · obtain ⟨w3, c1, c2⟩ := m_cleansByLog hD hT b2 b1 b3 b4 hn h8
        refine ⟨w3, c2, ?_⟩
        unfold fX11_byLog
        simp (disch := omega) only [↓mo_1, ↓mo_2, ad_m1, ite_m1_lt, ite_m2_lt, ite_le_m1, ite_eq_m1, ite_eq_m2, ite_m1_m1, ite_m2_m2, ite_T, ite_F, ite_nz, ite_zz, ite_m1_le, ite_m1_eq, oi_none, oi_some, ob_some, lw_def, ck_true, ckp_su, ite_lt_t, ite_lt_f, ite_le_t, ite_le_f, ite_eq_t, ite_eq_f, ck_inb, nI_add, sb_nI, mu_nI, nI_clamp, sO_at, sO_sO, Nat.add_sub_cancel, Nat.zero_add, Nat.add_zero, li_0, li_1, li_2, li_3, li_4, li_5, li_6, li_7, li_8, li_9, li_10, li_11, li_12, li_16, li_20, li_24, li_31, li_32, li_48, li_49, li_73, li_74, li_75, li_97, li_98, li_99, li_100, li_101, li_109, li_110, li_255, li_680, li_700, li_9999, li_65536, li_65537, ← e, b1, m_in1, c1, m_good]
    · refine ⟨m1, 2, by omega, by omega, fun w q hq hp hX => ⟨w, XS.rf, ?_⟩, fun nd w w1 e ⟨d, b1, b2, b3, b4, b5, b6⟩ => ⟨w1, SM.rf, ?_⟩⟩
      · unfold fX9_byLog
        simp (disch := omega) only [↓mo_1, ↓mo_2, ad_m1, ite_m1_lt, ite_m2_lt, ite_le_m1, ite_eq_m1, ite_eq_m2, ite_m1_m1, ite_m2_m2, ite_T, ite_F, ite_nz, ite_zz, ite_m1_le, ite_m1_eq, oi_none, oi_some, ob_some, lw_def, ck_true, ckp_su, ite_lt_t, ite_lt_f, ite_le_t, ite_le_f, ite_eq_t, ite_eq_f, ck_inb, nI_add, sb_nI, mu_nI, nI_clamp, sO_at, sO_sO, Nat.add_sub_cancel, Nat.zero_add, Nat.add_zero, li_0, li_1, li_2, li_3, li_4, li_5, li_6, li_7, li_8, li_9, li_10, li_11, li_12, li_16, li_20, li_24, li_31, li_32, li_48, li_49, li_73, li_74, li_75, li_97, li_98, li_99, li_100, li_101, li_109, li_110, li_255, li_680, li_700, li_9999, li_65536, li_65537, x_hD1 hp hq hX.1.2.2.1 hD.1 (by omega), x_refuse, ite_r2 hx]
      · unfold fX11_byLog
        simp (disch := omega) only [↓mo_1, ↓mo_2, ad_m1, ite_m1_lt, ite_m2_lt, ite_le_m1, ite_eq_m1, ite_eq_m2, ite_m1_m1, ite_m2_m2, ite_T, ite_F, ite_nz, ite_zz, ite_m1_le, ite_m1_eq, oi_none, oi_some, ob_some, lw_def, ck_true, ckp_su, ite_lt_t, ite_lt_f, ite_le_t, ite_le_f, ite_eq_t, ite_eq_f, ck_inb, nI_add, sb_nI, mu_nI, nI_clamp, sO_at, sO_sO, Nat.add_sub_cancel, Nat.zero_add, Nat.add_zero, li_0, li_1, li_2, li_3, li_4, li_5, li_6, li_7, li_8, li_9, li_10, li_11, li_12, li_16, li_20, li_24, li_31, li_32, li_48, li_49, li_73, li_74, li_75, li_97, li_98, li_99, li_100, li_101, li_109, li_110, li_255, li_680, li_700, li_9999, li_65536, li_65537, ← e, b1, m_inO hx, m_refused]
def lfS (g : Nat → Int32) (k : Int32) : Nat → Nat → Int32
  | 0, _ => m2
  | r + 1, n => if k < g n then lfS g k r (n + 1) else nI n
theorem x_lf {q : Nat} {k : Int32} (hD : WFD D) (hT : WFT D T) (hq : q < 2) : ∀ r n, n + r = 25 → 2 ≤ n → ∀ (m : Nat) (w : Wd), r < m → (w 9 0).2.2.1 2 = q + 1 → XD w q (some (D, T, s, h, im)) → ∃ w2 : Wd, fX9_logFor_31 m w k (nI n) = some (lfS (fun n => clN (lgD D n) T (nI 0) T.2.1.1) k r n, sI w2 9 0 13 (nI 0)) ∧ XS w w2 := by
  intro r
  induction r with
  | zero =>
    intro n hn h2 m w hm hp hX
    obtain ⟨m, rfl⟩ : ∃ z, m = z + 1 := ⟨m - 1, by omega⟩
    have e : n = 25 := by omega
    subst e
    refine ⟨w, ?_, XS.rf⟩
    rw [fX9_logFor_31.eq_2]
    simp (disch := omega) only [↓mo_1, ↓mo_2, ad_m1, ite_m1_lt, ite_m2_lt, ite_le_m1, ite_eq_m1, ite_eq_m2, ite_m1_m1, ite_m2_m2, ite_T, ite_F, ite_nz, ite_zz, ite_m1_le, ite_m1_eq, oi_none, oi_some, ob_some, lw_def, ck_true, ckp_su, ite_lt_t, ite_lt_f, ite_le_t, ite_le_f, ite_eq_t, ite_eq_f, ck_inb, nI_add, sb_nI, mu_nI, nI_clamp, sO_at, sO_sO, Nat.add_sub_cancel, Nat.zero_add, Nat.add_zero, li_0, li_1, li_2, li_3, li_4, li_5, li_6, li_7, li_8, li_9, li_10, li_11, li_12, li_16, li_20, li_24, li_31, li_32, li_48, li_49, li_73, li_74, li_75, li_97, li_98, li_99, li_100, li_101, li_109, li_110, li_255, li_680, li_700, li_9999, li_65536, li_65537, x_accept]
    rfl
  | succ r ih =>
    intro n hn h2 m w hm hp hX
    obtain ⟨m, rfl⟩ : ∃ z, m = z + 1 := ⟨m - 1, by omega⟩
    obtain ⟨w3, e1, e2⟩ := x_cbl hD hT hq hp hX h2 (show n ≤ 24 by omega)
    rw [fX9_logFor_31.eq_2]
    unfold lfS
    by_cases c : k < clN (lgD D n) T (nI 0) T.2.1.1
    · obtain ⟨w2, e3, e4⟩ := ih (n + 1) (by omega) (by omega) m w3 (by omega) (by rw [e2 9 0 (by omega) (by omega) (by decide)]; exact hp) (hX.xs hq e2)
      refine ⟨w2, ?_, e2.tr e4⟩
      simp (disch := omega) only [↓mo_1, ↓mo_2, ad_m1, ite_m1_lt, ite_m2_lt, ite_le_m1, ite_eq_m1, ite_eq_m2, ite_m1_m1, ite_m2_m2, ite_T, ite_F, ite_nz, ite_zz, ite_m1_le, ite_m1_eq, oi_none, oi_some, ob_some, lw_def, ck_true, ckp_su, ite_lt_t, ite_lt_f, ite_le_t, ite_le_f, ite_eq_t, ite_eq_f, ck_inb, nI_add, sb_nI, mu_nI, nI_clamp, sO_at, sO_sO, Nat.add_sub_cancel, Nat.zero_add, Nat.add_zero, li_0, li_1, li_2, li_3, li_4, li_5, li_6, li_7, li_8, li_9, li_10, li_11, li_12, li_16, li_20, li_24, li_31, li_32, li_48, li_49, li_73, li_74, li_75, li_97, li_98, li_99, li_100, li_101, li_109, li_110, li_255, li_680, li_700, li_9999, li_65536, li_65537, e1]
      rw [if_pos c, if_pos c]
      exact e3
    · refine ⟨w3, ?_, e2⟩
      simp (disch := omega) only [↓mo_1, ↓mo_2, ad_m1, ite_m1_lt, ite_m2_lt, ite_le_m1, ite_eq_m1, ite_eq_m2, ite_m1_m1, ite_m2_m2, ite_T, ite_F, ite_nz, ite_zz, ite_m1_le, ite_m1_eq, oi_none, oi_some, ob_some, lw_def, ck_true, ckp_su, ite_lt_t, ite_lt_f, ite_le_t, ite_le_f, ite_eq_t, ite_eq_f, ck_inb, nI_add, sb_nI, mu_nI, nI_clamp, sO_at, sO_sO, Nat.add_sub_cancel, Nat.zero_add, Nat.add_zero, li_0, li_1, li_2, li_3, li_4, li_5, li_6, li_7, li_8, li_9, li_10, li_11, li_12, li_16, li_20, li_24, li_31, li_32, li_48, li_49, li_73, li_74, li_75, li_97, li_98, li_99, li_100, li_101, li_109, li_110, li_255, li_680, li_700, li_9999, li_65536, li_65537, e1, x_accept]
      rw [if_neg c, if_neg c]
theorem m_lf {nd d : Nat} {k : Int32} (hD : WFD D) (hT : WFT D T) (hd : d < nd) : ∀ r n, n + r = 25 → 2 ≤ n → ∀ (m : Nat) (w : Wd), r < m → (w 11 0).2.2.1 3 = d + 1 → RDm (w 10 d) D → RTm (w 10 d) D T → ∃ w2 : Wd, fX11_logFor_36 nd m w k (nI n) = some (lfS (fun n => clN (lgD D n) T (nI 0) T.2.1.1) k r n, mT w2 (nI 0)) ∧ SM w w2 := by
  intro r
  induction r with
  | zero =>
    intro n hn h2 m w hm hp hR hTm
    obtain ⟨m, rfl⟩ : ∃ z, m = z + 1 := ⟨m - 1, by omega⟩
    have e : n = 25 := by omega
    subst e
    refine ⟨w, ?_, SM.rf⟩
    rw [fX11_logFor_36.eq_2]
    simp (disch := omega) only [↓mo_1, ↓mo_2, ad_m1, ite_m1_lt, ite_m2_lt, ite_le_m1, ite_eq_m1, ite_eq_m2, ite_m1_m1, ite_m2_m2, ite_T, ite_F, ite_nz, ite_zz, ite_m1_le, ite_m1_eq, oi_none, oi_some, ob_some, lw_def, ck_true, ckp_su, ite_lt_t, ite_lt_f, ite_le_t, ite_le_f, ite_eq_t, ite_eq_f, ck_inb, nI_add, sb_nI, mu_nI, nI_clamp, sO_at, sO_sO, Nat.add_sub_cancel, Nat.zero_add, Nat.add_zero, li_0, li_1, li_2, li_3, li_4, li_5, li_6, li_7, li_8, li_9, li_10, li_11, li_12, li_16, li_20, li_24, li_31, li_32, li_48, li_49, li_73, li_74, li_75, li_97, li_98, li_99, li_100, li_101, li_109, li_110, li_255, li_680, li_700, li_9999, li_65536, li_65537, m_good]
    rfl
  | succ r ih =>
    intro n hn h2 m w hm hp hR hTm
    obtain ⟨m, rfl⟩ : ∃ z, m = z + 1 := ⟨m - 1, by omega⟩
    obtain ⟨w3, e1, e2⟩ := m_cleansByLog hD hT hd hp hR hTm h2 (show n ≤ 24 by omega)
    rw [fX11_logFor_36.eq_2]
    unfold lfS
    by_cases c : k < clN (lgD D n) T (nI 0) T.2.1.1
    · have e10 := e2.1 10 d (by omega)
      obtain ⟨w2, e3, e4⟩ := ih (n + 1) (by omega) (by omega) m w3 (by omega) (by rw [e2.2.1]; exact hp) (by rw [e10]; exact hR) (by rw [e10]; exact hTm)
      refine ⟨w2, ?_, e2.tr e4⟩
      simp (disch := omega) only [↓mo_1, ↓mo_2, ad_m1, ite_m1_lt, ite_m2_lt, ite_le_m1, ite_eq_m1, ite_eq_m2, ite_m1_m1, ite_m2_m2, ite_T, ite_F, ite_nz, ite_zz, ite_m1_le, ite_m1_eq, oi_none, oi_some, ob_some, lw_def, ck_true, ckp_su, ite_lt_t, ite_lt_f, ite_le_t, ite_le_f, ite_eq_t, ite_eq_f, ck_inb, nI_add, sb_nI, mu_nI, nI_clamp, sO_at, sO_sO, Nat.add_sub_cancel, Nat.zero_add, Nat.add_zero, li_0, li_1, li_2, li_3, li_4, li_5, li_6, li_7, li_8, li_9, li_10, li_11, li_12, li_16, li_20, li_24, li_31, li_32, li_48, li_49, li_73, li_74, li_75, li_97, li_98, li_99, li_100, li_101, li_109, li_110, li_255, li_680, li_700, li_9999, li_65536, li_65537, e1]
      rw [if_pos c, if_pos c]
      exact e3
    · refine ⟨w3, ?_, e2⟩
      simp (disch := omega) only [↓mo_1, ↓mo_2, ad_m1, ite_m1_lt, ite_m2_lt, ite_le_m1, ite_eq_m1, ite_eq_m2, ite_m1_m1, ite_m2_m2, ite_T, ite_F, ite_nz, ite_zz, ite_m1_le, ite_m1_eq, oi_none, oi_some, ob_some, lw_def, ck_true, ckp_su, ite_lt_t, ite_lt_f, ite_le_t, ite_le_f, ite_eq_t, ite_eq_f, ck_inb, nI_add, sb_nI, mu_nI, nI_clamp, sO_at, sO_sO, Nat.add_sub_cancel, Nat.zero_add, Nat.add_zero, li_0, li_1, li_2, li_3, li_4, li_5, li_6, li_7, li_8, li_9, li_10, li_11, li_12, li_16, li_20, li_24, li_31, li_32, li_48, li_49, li_73, li_74, li_75, li_97, li_98, li_99, li_100, li_101, li_109, li_110, li_255, li_680, li_700, li_9999, li_65536, li_65537, e1, m_good]
      rw [if_neg c, if_neg c]
theorem q_logFor {x : Int32} : Qy (fun w => fX9_logFor w x) (fun nd w => fX11_logFor nd w x) := by
  intro d hd
  cases d with
  | none =>
    refine ⟨m1, 1, by omega, by omega, fun w q hq hp hX => ⟨w, XS.rf, ?_⟩, fun nd w w1 e hM => ⟨w1, SM.rf, ?_⟩⟩
    · unfold fX9_logFor
      simp (disch := omega) only [↓mo_1, ↓mo_2, ad_m1, ite_m1_lt, ite_m2_lt, ite_le_m1, ite_eq_m1, ite_eq_m2, ite_m1_m1, ite_m2_m2, ite_T, ite_F, ite_nz, ite_zz, ite_m1_le, ite_m1_eq, oi_none, oi_some, ob_some, lw_def, ck_true, ckp_su, ite_lt_t, ite_lt_f, ite_le_t, ite_le_f, ite_eq_t, ite_eq_f, ck_inb, nI_add, sb_nI, mu_nI, nI_clamp, sO_at, sO_sO, Nat.add_sub_cancel, Nat.zero_add, Nat.add_zero, li_0, li_1, li_2, li_3, li_4, li_5, li_6, li_7, li_8, li_9, li_10, li_11, li_12, li_16, li_20, li_24, li_31, li_32, li_48, li_49, li_73, li_74, li_75, li_97, li_98, li_99, li_100, li_101, li_109, li_110, li_255, li_680, li_700, li_9999, li_65536, li_65537, x_hD0 hp hq hX.1.1, x_refuse]
    · unfold fX11_logFor
      simp (disch := omega) only [↓mo_1, ↓mo_2, ad_m1, ite_m1_lt, ite_m2_lt, ite_le_m1, ite_eq_m1, ite_eq_m2, ite_m1_m1, ite_m2_m2, ite_T, ite_F, ite_nz, ite_zz, ite_m1_le, ite_m1_eq, oi_none, oi_some, ob_some, lw_def, ck_true, ckp_su, ite_lt_t, ite_lt_f, ite_le_t, ite_le_f, ite_eq_t, ite_eq_f, ck_inb, nI_add, sb_nI, mu_nI, nI_clamp, sO_at, sO_sO, Nat.add_sub_cancel, Nat.zero_add, Nat.add_zero, li_0, li_1, li_2, li_3, li_4, li_5, li_6, li_7, li_8, li_9, li_10, li_11, li_12, li_16, li_20, li_24, li_31, li_32, li_48, li_49, li_73, li_74, li_75, li_97, li_98, li_99, li_100, li_101, li_109, li_110, li_255, li_680, li_700, li_9999, li_65536, li_65537, ← e, show (w1 11 0).2.2.1 3 = 0 from hM, m_refused]
  | some z =>
    obtain ⟨D, T, s, h, im⟩ := z
    obtain ⟨hD, h6, hT, hW, hQ, hH, hI⟩ := hd
    have h48 := hD.2.2.2.1
    have hb1 := hD.1
    rcases rng2 x (show 0 < 2 ^ 31 by omega) (show 16 < 2 ^ 31 by omega) with ⟨n, hn, h8, rfl⟩ | hx
    · refine ⟨lfS (fun n => clN (lgD D n) T (nI 0) T.2.1.1) (nI n) 23 2, 0, by omega, by omega, fun w q hq hp hX => ?_, fun nd w w1 e ⟨d, b1, b2, b3, b4, b5, b6⟩ => ?_⟩
      · obtain ⟨w2, e1, e2⟩ := x_lf (k := nI n) hD hT hq 23 2 (by omega) (by omega) fuel0 w (by unfold fuel0; omega) hp hX
        refine ⟨w2, e2, ?_⟩
        unfold fX9_logFor
        simp (disch := omega) only [↓mo_1, ↓mo_2, ad_m1, ite_m1_lt, ite_m2_lt, ite_le_m1, ite_eq_m1, ite_eq_m2, ite_m1_m1, ite_m2_m2, ite_T, ite_F, ite_nz, ite_zz, ite_m1_le, ite_m1_eq, oi_none, oi_some, ob_some, lw_def, ck_true, ckp_su, ite_lt_t, ite_lt_f, ite_le_t, ite_le_f, ite_eq_t, ite_eq_f, ck_inb, nI_add, sb_nI, mu_nI, nI_clamp, sO_at, sO_sO, Nat.add_sub_cancel, Nat.zero_add, Nat.add_zero, li_0, li_1, li_2, li_3, li_4, li_5, li_6, li_7, li_8, li_9, li_10, li_11, li_12, li_16, li_20, li_24, li_31, li_32, li_48, li_49, li_73, li_74, li_75, li_97, li_98, li_99, li_100, li_101, li_109, li_110, li_255, li_680, li_700, li_9999, li_65536, li_65537, x_hD1 hp hq hX.1.2.2.1 hD.1 (by omega), e1]
      · obtain ⟨w3, c1, c2⟩ := m_lf (k := nI n) hD hT b2 23 2 (by omega) (by omega) fuel0 w1 (by unfold fuel0; omega) b1 b3 b4
        refine ⟨w3, c2, ?_⟩
        unfold fX11_logFor
        simp (disch := omega) only [↓mo_1, ↓mo_2, ad_m1, ite_m1_lt, ite_m2_lt, ite_le_m1, ite_eq_m1, ite_eq_m2, ite_m1_m1, ite_m2_m2, ite_T, ite_F, ite_nz, ite_zz, ite_m1_le, ite_m1_eq, oi_none, oi_some, ob_some, lw_def, ck_true, ckp_su, ite_lt_t, ite_lt_f, ite_le_t, ite_le_f, ite_eq_t, ite_eq_f, ck_inb, nI_add, sb_nI, mu_nI, nI_clamp, sO_at, sO_sO, Nat.add_sub_cancel, Nat.zero_add, Nat.add_zero, li_0, li_1, li_2, li_3, li_4, li_5, li_6, li_7, li_8, li_9, li_10, li_11, li_12, li_16, li_20, li_24, li_31, li_32, li_48, li_49, li_73, li_74, li_75, li_97, li_98, li_99, li_100, li_101, li_109, li_110, li_255, li_680, li_700, li_9999, li_65536, li_65537, ← e, b1, m_in1, c1]
    · refine ⟨m1, 2, by omega, by omega, fun w q hq hp hX => ⟨w, XS.rf, ?_⟩, fun nd w w1 e ⟨d, b1, b2, b3, b4, b5, b6⟩ => ⟨w1, SM.rf, ?_⟩⟩
      · unfold fX9_logFor
        simp (disch := omega) only [↓mo_1, ↓mo_2, ad_m1, ite_m1_lt, ite_m2_lt, ite_le_m1, ite_eq_m1, ite_eq_m2, ite_m1_m1, ite_m2_m2, ite_T, ite_F, ite_nz, ite_zz, ite_m1_le, ite_m1_eq, oi_none, oi_some, ob_some, lw_def, ck_true, ckp_su, ite_lt_t, ite_lt_f, ite_le_t, ite_le_f, ite_eq_t, ite_eq_f, ck_inb, nI_add, sb_nI, mu_nI, nI_clamp, sO_at, sO_sO, Nat.add_sub_cancel, Nat.zero_add, Nat.add_zero, li_0, li_1, li_2, li_3, li_4, li_5, li_6, li_7, li_8, li_9, li_10, li_11, li_12, li_16, li_20, li_24, li_31, li_32, li_48, li_49, li_73, li_74, li_75, li_97, li_98, li_99, li_100, li_101, li_109, li_110, li_255, li_680, li_700, li_9999, li_65536, li_65537, x_hD1 hp hq hX.1.2.2.1 hD.1 (by omega), x_refuse]
        exact ite_r2 hx
      · unfold fX11_logFor
        simp (disch := omega) only [↓mo_1, ↓mo_2, ad_m1, ite_m1_lt, ite_m2_lt, ite_le_m1, ite_eq_m1, ite_eq_m2, ite_m1_m1, ite_m2_m2, ite_T, ite_F, ite_nz, ite_zz, ite_m1_le, ite_m1_eq, oi_none, oi_some, ob_some, lw_def, ck_true, ckp_su, ite_lt_t, ite_lt_f, ite_le_t, ite_le_f, ite_eq_t, ite_eq_f, ck_inb, nI_add, sb_nI, mu_nI, nI_clamp, sO_at, sO_sO, Nat.add_sub_cancel, Nat.zero_add, Nat.add_zero, li_0, li_1, li_2, li_3, li_4, li_5, li_6, li_7, li_8, li_9, li_10, li_11, li_12, li_16, li_20, li_24, li_31, li_32, li_48, li_49, li_73, li_74, li_75, li_97, li_98, li_99, li_100, li_101, li_109, li_110, li_255, li_680, li_700, li_9999, li_65536, li_65537, ← e, b1, m_inO hx, m_refused]
def BsP (g : Nat → Int32) (lo hi b : Nat) : Prop := lo ≤ b ∧ b ≤ hi ∧ (∀ m, lo ≤ m → m ≤ hi → (g b).toInt ≤ (g m).toInt) ∧ ∀ m, b < m → m ≤ hi → (g b).toInt < (g m).toInt
theorem bs_u {g : Nat → Int32} {lo hi b c : Nat} (h1 : BsP g lo hi b) (h2 : BsP g lo hi c) : b = c := by
  rcases Nat.lt_trichotomy b c with h | h | h
  · have := h1.2.2.2 c h h2.2.1
    have := h2.2.2.1 b h1.1 h1.2.1
    omega
  · exact h
  · have := h2.2.2.2 b h h1.2.1
    have := h1.2.2.1 c h2.1 h2.2.1
    omega
theorem bs_up {g : Nat → Int32} {lo hi b : Nat} (h1 : BsP g lo hi b) : BsP g lo (hi + 1) (if g (hi + 1) ≤ g b then hi + 1 else b) := by
  obtain ⟨a1, a2, a3, a4⟩ := h1
  by_cases c : g (hi + 1) ≤ g b
  · rw [if_pos c]
    rw [Int32.le_iff_toInt_le] at c
    refine ⟨by omega, Nat.le_refl _, fun m x y => ?_, fun m x y => absurd x (by omega)⟩
    by_cases e : m = hi + 1
    · rw [e]; exact Int.le_refl _
    · have := a3 m x (by omega); omega
  · rw [if_neg c]
    rw [Int32.le_iff_toInt_le] at c
    refine ⟨a1, by omega, fun m x y => ?_, fun m x y => ?_⟩
    · by_cases e : m = hi + 1
      · rw [e]; omega
      · exact a3 m x (by omega)
    · by_cases e : m = hi + 1
      · rw [e]; omega
      · exact a4 m x (by omega)
theorem bs_dn {g : Nat → Int32} {lo hi b : Nat} (h1 : BsP g (lo + 1) hi b) : BsP g lo hi (if g b ≤ g lo then b else lo) := by
  obtain ⟨a1, a2, a3, a4⟩ := h1
  by_cases c : g b ≤ g lo
  · rw [if_pos c]
    rw [Int32.le_iff_toInt_le] at c
    refine ⟨by omega, a2, fun m x y => ?_, a4⟩
    by_cases e : m = lo
    · rw [e]; exact c
    · exact a3 m (by omega) y
  · rw [if_neg c]
    rw [Int32.le_iff_toInt_le] at c
    refine ⟨Nat.le_refl _, by omega, fun m x y => ?_, fun m x y => ?_⟩
    · by_cases e : m = lo
      · rw [e]; exact Int.le_refl _
      · have := a3 m (by omega) y; omega
    · have := a3 m (by omega) y; omega
theorem bs_1 {g : Nat → Int32} {n : Nat} : BsP g n n n := ⟨Nat.le_refl _, Nat.le_refl _, fun m x y => by rw [show m = n by omega]; exact Int.le_refl _, fun m x y => absurd x (by omega)⟩
theorem bs_ex {g : Nat → Int32} {lo : Nat} : ∀ r, ∃ b, BsP g lo (lo + r) b
  | 0 => ⟨lo, bs_1⟩
  | r + 1 => by
    obtain ⟨b, hb⟩ := bs_ex (g := g) (lo := lo) r
    exact ⟨_, bs_up hb⟩
def gSz (D : Dk) (T : Tk) (n : Nat) : Int32 := sct (goS (szD D n) T (nI 0) T.2.1.1)
theorem x_bes {q B : Nat} (hD : WFD D) (hT : WFT D T) (hq : q < 2) (hB : BsP (gSz D T) 2 8 B) : ∀ n, n ≤ 7 → 1 ≤ n → ∀ (m b : Nat) (w : Wd), n < m → BsP (gSz D T) (n + 1) 8 b → (w 9 0).2.2.1 2 = q + 1 → XD w q (some (D, T, s, h, im)) → ∃ w2 : Wd, fX9_bestSize_26 m w (nI b) (gSz D T b) (nI n) = some (nI B, sI w2 9 0 13 (nI 0)) ∧ XS w w2 := by
  intro n
  induction n with
  | zero => intro _ h1; exact absurd h1 (by omega)
  | succ n ih =>
    intro h7 h1 m b w hm hb hp hX
    obtain ⟨m, rfl⟩ : ∃ z, m = z + 1 := ⟨m - 1, by omega⟩
    rw [fX9_bestSize_26.eq_2]
    by_cases c : n + 1 < 2
    · have e : n = 0 := by omega
      subst e
      rw [bs_u hB hb]
      refine ⟨w, ?_, XS.rf⟩
      simp (disch := omega) only [↓mo_1, ↓mo_2, ad_m1, ite_m1_lt, ite_m2_lt, ite_le_m1, ite_eq_m1, ite_eq_m2, ite_m1_m1, ite_m2_m2, ite_T, ite_F, ite_nz, ite_zz, ite_m1_le, ite_m1_eq, oi_none, oi_some, ob_some, lw_def, ck_true, ckp_su, ite_lt_t, ite_lt_f, ite_le_t, ite_le_f, ite_eq_t, ite_eq_f, ck_inb, nI_add, sb_nI, mu_nI, nI_clamp, sO_at, sO_sO, Nat.add_sub_cancel, Nat.zero_add, Nat.add_zero, li_0, li_1, li_2, li_3, li_4, li_5, li_6, li_7, li_8, li_9, li_10, li_11, li_12, li_16, li_20, li_24, li_31, li_32, li_48, li_49, li_73, li_74, li_75, li_97, li_98, li_99, li_100, li_101, li_109, li_110, li_255, li_680, li_700, li_9999, li_65536, li_65537, x_accept]
    · obtain ⟨w3, e1, e2⟩ := x_twbs hD hT hq hp hX (show 2 ≤ n + 1 by omega) (show n + 1 ≤ 8 by omega)
      have hd := bs_dn hb
      have hp3 : (w3 9 0).2.2.1 2 = q + 1 := by rw [e2 9 0 (by omega) (by omega) (by decide)]; exact hp
      have e1' : fX9_trackWritesBySize w (nI (n + 1)) = some (gSz D T (n + 1), w3) := e1
      by_cases d : gSz D T b ≤ gSz D T (n + 1)
      · rw [if_pos d] at hd
        obtain ⟨w2, e3, e4⟩ := ih (by omega) (by omega) m b w3 (by omega) hd hp3 (hX.xs hq e2)
        refine ⟨w2, ?_, e2.tr e4⟩
        simp (disch := omega) only [↓mo_1, ↓mo_2, ad_m1, ite_m1_lt, ite_m2_lt, ite_le_m1, ite_eq_m1, ite_eq_m2, ite_m1_m1, ite_m2_m2, ite_T, ite_F, ite_nz, ite_zz, ite_m1_le, ite_m1_eq, oi_none, oi_some, ob_some, lw_def, ck_true, ckp_su, ite_lt_t, ite_lt_f, ite_le_t, ite_le_f, ite_eq_t, ite_eq_f, ck_inb, nI_add, sb_nI, mu_nI, nI_clamp, sO_at, sO_sO, Nat.add_sub_cancel, Nat.zero_add, Nat.add_zero, li_0, li_1, li_2, li_3, li_4, li_5, li_6, li_7, li_8, li_9, li_10, li_11, li_12, li_16, li_20, li_24, li_31, li_32, li_48, li_49, li_73, li_74, li_75, li_97, li_98, li_99, li_100, li_101, li_109, li_110, li_255, li_680, li_700, li_9999, li_65536, li_65537, e1']
        rw [if_pos d]
        exact e3
      · rw [if_neg d] at hd
        obtain ⟨w2, e3, e4⟩ := ih (by omega) (by omega) m (n + 1) w3 (by omega) hd hp3 (hX.xs hq e2)
        refine ⟨w2, ?_, e2.tr e4⟩
        simp (disch := omega) only [↓mo_1, ↓mo_2, ad_m1, ite_m1_lt, ite_m2_lt, ite_le_m1, ite_eq_m1, ite_eq_m2, ite_m1_m1, ite_m2_m2, ite_T, ite_F, ite_nz, ite_zz, ite_m1_le, ite_m1_eq, oi_none, oi_some, ob_some, lw_def, ck_true, ckp_su, ite_lt_t, ite_lt_f, ite_le_t, ite_le_f, ite_eq_t, ite_eq_f, ck_inb, nI_add, sb_nI, mu_nI, nI_clamp, sO_at, sO_sO, Nat.add_sub_cancel, Nat.zero_add, Nat.add_zero, li_0, li_1, li_2, li_3, li_4, li_5, li_6, li_7, li_8, li_9, li_10, li_11, li_12, li_16, li_20, li_24, li_31, li_32, li_48, li_49, li_73, li_74, li_75, li_97, li_98, li_99, li_100, li_101, li_109, li_110, li_255, li_680, li_700, li_9999, li_65536, li_65537, e1']
        rw [if_neg d]
        exact e3
theorem m_bes {nd d B : Nat} (hD : WFD D) (hT : WFT D T) (hd : d < nd) (hB : BsP (gSz D T) 2 8 B) : ∀ r n, n + r = 9 → 3 ≤ n → ∀ (m b : Nat) (w : Wd), r < m → BsP (gSz D T) 2 (n - 1) b → (w 11 0).2.2.1 3 = d + 1 → RDm (w 10 d) D → RTm (w 10 d) D T → ∃ w2 : Wd, fX11_bestSize_28 nd m w (nI b) (gSz D T b) (nI n) = some (nI B, mT w2 (nI 0)) ∧ SM w w2 := by
  intro r
  induction r with
  | zero =>
    intro n hn h3 m b w hm hb hp hR hTm
    obtain ⟨m, rfl⟩ : ∃ z, m = z + 1 := ⟨m - 1, by omega⟩
    have e : n = 9 := by omega
    subst e
    rw [bs_u hB hb]
    refine ⟨w, ?_, SM.rf⟩
    rw [fX11_bestSize_28.eq_2]
    simp (disch := omega) only [↓mo_1, ↓mo_2, ad_m1, ite_m1_lt, ite_m2_lt, ite_le_m1, ite_eq_m1, ite_eq_m2, ite_m1_m1, ite_m2_m2, ite_T, ite_F, ite_nz, ite_zz, ite_m1_le, ite_m1_eq, oi_none, oi_some, ob_some, lw_def, ck_true, ckp_su, ite_lt_t, ite_lt_f, ite_le_t, ite_le_f, ite_eq_t, ite_eq_f, ck_inb, nI_add, sb_nI, mu_nI, nI_clamp, sO_at, sO_sO, Nat.add_sub_cancel, Nat.zero_add, Nat.add_zero, li_0, li_1, li_2, li_3, li_4, li_5, li_6, li_7, li_8, li_9, li_10, li_11, li_12, li_16, li_20, li_24, li_31, li_32, li_48, li_49, li_73, li_74, li_75, li_97, li_98, li_99, li_100, li_101, li_109, li_110, li_255, li_680, li_700, li_9999, li_65536, li_65537, m_good]
  | succ r ih =>
    intro n hn h3 m b w hm hb hp hR hTm
    obtain ⟨m, rfl⟩ : ∃ z, m = z + 1 := ⟨m - 1, by omega⟩
    obtain ⟨w3, e1, e2⟩ := m_writesBySize hD hT hd hp hR hTm (show 2 ≤ n by omega) (show n ≤ 8 by omega)
    have e1' : fX11_writesBySize nd w (nI n) = some (gSz D T n, w3) := e1
    have e10 := e2.1 10 d (by omega)
    have hu := bs_up hb
    rw [show n - 1 + 1 = n by omega] at hu
    rw [fX11_bestSize_28.eq_2]
    by_cases c : gSz D T n ≤ gSz D T b
    · rw [if_pos c] at hu
      obtain ⟨w2, e3, e4⟩ := ih (n + 1) (by omega) (by omega) m n w3 (by omega) (by rw [Nat.add_sub_cancel]; exact hu) (by rw [e2.2.1]; exact hp) (by rw [e10]; exact hR) (by rw [e10]; exact hTm)
      refine ⟨w2, ?_, e2.tr e4⟩
      simp (disch := omega) only [↓mo_1, ↓mo_2, ad_m1, ite_m1_lt, ite_m2_lt, ite_le_m1, ite_eq_m1, ite_eq_m2, ite_m1_m1, ite_m2_m2, ite_T, ite_F, ite_nz, ite_zz, ite_m1_le, ite_m1_eq, oi_none, oi_some, ob_some, lw_def, ck_true, ckp_su, ite_lt_t, ite_lt_f, ite_le_t, ite_le_f, ite_eq_t, ite_eq_f, ck_inb, nI_add, sb_nI, mu_nI, nI_clamp, sO_at, sO_sO, Nat.add_sub_cancel, Nat.zero_add, Nat.add_zero, li_0, li_1, li_2, li_3, li_4, li_5, li_6, li_7, li_8, li_9, li_10, li_11, li_12, li_16, li_20, li_24, li_31, li_32, li_48, li_49, li_73, li_74, li_75, li_97, li_98, li_99, li_100, li_101, li_109, li_110, li_255, li_680, li_700, li_9999, li_65536, li_65537, e1']
      rw [if_pos c]
      exact e3
    · rw [if_neg c] at hu
      obtain ⟨w2, e3, e4⟩ := ih (n + 1) (by omega) (by omega) m b w3 (by omega) (by rw [Nat.add_sub_cancel]; exact hu) (by rw [e2.2.1]; exact hp) (by rw [e10]; exact hR) (by rw [e10]; exact hTm)
      refine ⟨w2, ?_, e2.tr e4⟩
      simp (disch := omega) only [↓mo_1, ↓mo_2, ad_m1, ite_m1_lt, ite_m2_lt, ite_le_m1, ite_eq_m1, ite_eq_m2, ite_m1_m1, ite_m2_m2, ite_T, ite_F, ite_nz, ite_zz, ite_m1_le, ite_m1_eq, oi_none, oi_some, ob_some, lw_def, ck_true, ckp_su, ite_lt_t, ite_lt_f, ite_le_t, ite_le_f, ite_eq_t, ite_eq_f, ck_inb, nI_add, sb_nI, mu_nI, nI_clamp, sO_at, sO_sO, Nat.add_sub_cancel, Nat.zero_add, Nat.add_zero, li_0, li_1, li_2, li_3, li_4, li_5, li_6, li_7, li_8, li_9, li_10, li_11, li_12, li_16, li_20, li_24, li_31, li_32, li_48, li_49, li_73, li_74, li_75, li_97, li_98, li_99, li_100, li_101, li_109, li_110, li_255, li_680, li_700, li_9999, li_65536, li_65537, e1']
      rw [if_neg c]
      exact e3
theorem q_bestSize : Qy (fun w => fX9_bestSize w) (fun nd w => fX11_bestSize nd w) := by
  intro d hd
  cases d with
  | none =>
    refine ⟨m1, 1, by omega, by omega, fun w q hq hp hX => ⟨w, XS.rf, ?_⟩, fun nd w w1 e hM => ⟨w1, SM.rf, ?_⟩⟩
    · unfold fX9_bestSize
      simp (disch := omega) only [↓mo_1, ↓mo_2, ad_m1, ite_m1_lt, ite_m2_lt, ite_le_m1, ite_eq_m1, ite_eq_m2, ite_m1_m1, ite_m2_m2, ite_T, ite_F, ite_nz, ite_zz, ite_m1_le, ite_m1_eq, oi_none, oi_some, ob_some, lw_def, ck_true, ckp_su, ite_lt_t, ite_lt_f, ite_le_t, ite_le_f, ite_eq_t, ite_eq_f, ck_inb, nI_add, sb_nI, mu_nI, nI_clamp, sO_at, sO_sO, Nat.add_sub_cancel, Nat.zero_add, Nat.add_zero, li_0, li_1, li_2, li_3, li_4, li_5, li_6, li_7, li_8, li_9, li_10, li_11, li_12, li_16, li_20, li_24, li_31, li_32, li_48, li_49, li_73, li_74, li_75, li_97, li_98, li_99, li_100, li_101, li_109, li_110, li_255, li_680, li_700, li_9999, li_65536, li_65537, x_hD0 hp hq hX.1.1, x_refuse]
    · unfold fX11_bestSize
      simp (disch := omega) only [↓mo_1, ↓mo_2, ad_m1, ite_m1_lt, ite_m2_lt, ite_le_m1, ite_eq_m1, ite_eq_m2, ite_m1_m1, ite_m2_m2, ite_T, ite_F, ite_nz, ite_zz, ite_m1_le, ite_m1_eq, oi_none, oi_some, ob_some, lw_def, ck_true, ckp_su, ite_lt_t, ite_lt_f, ite_le_t, ite_le_f, ite_eq_t, ite_eq_f, ck_inb, nI_add, sb_nI, mu_nI, nI_clamp, sO_at, sO_sO, Nat.add_sub_cancel, Nat.zero_add, Nat.add_zero, li_0, li_1, li_2, li_3, li_4, li_5, li_6, li_7, li_8, li_9, li_10, li_11, li_12, li_16, li_20, li_24, li_31, li_32, li_48, li_49, li_73, li_74, li_75, li_97, li_98, li_99, li_100, li_101, li_109, li_110, li_255, li_680, li_700, li_9999, li_65536, li_65537, ← e, show (w1 11 0).2.2.1 3 = 0 from hM, m_refused]
  | some z =>
    obtain ⟨D, T, s, h, im⟩ := z
    obtain ⟨hD, h6, hT, hW, hQ, hH, hI⟩ := hd
    have h48 := hD.2.2.2.1
    have hb1 := hD.1
    obtain ⟨B, hB⟩ := bs_ex (g := gSz D T) (lo := 2) 6
    refine ⟨nI B, 0, by omega, by omega, fun w q hq hp hX => ?_, fun nd w w1 e ⟨d, b1, b2, b3, b4, b5, b6⟩ => ?_⟩
    · obtain ⟨w3, e1, e2⟩ := x_twbs hD hT hq hp hX (show 2 ≤ 8 by omega) (show 8 ≤ 8 by omega)
      have e1' : fX9_trackWritesBySize w (nI 8) = some (gSz D T 8, w3) := e1
      obtain ⟨w2, e3, e4⟩ := x_bes hD hT hq hB 7 (by omega) (by omega) fuel0 8 w3 (by unfold fuel0; omega) bs_1 (by rw [e2 9 0 (by omega) (by omega) (by decide)]; exact hp) (hX.xs hq e2)
      refine ⟨w2, e2.tr e4, ?_⟩
      unfold fX9_bestSize
      simp (disch := omega) only [↓mo_1, ↓mo_2, ad_m1, ite_m1_lt, ite_m2_lt, ite_le_m1, ite_eq_m1, ite_eq_m2, ite_m1_m1, ite_m2_m2, ite_T, ite_F, ite_nz, ite_zz, ite_m1_le, ite_m1_eq, oi_none, oi_some, ob_some, lw_def, ck_true, ckp_su, ite_lt_t, ite_lt_f, ite_le_t, ite_le_f, ite_eq_t, ite_eq_f, ck_inb, nI_add, sb_nI, mu_nI, nI_clamp, sO_at, sO_sO, Nat.add_sub_cancel, Nat.zero_add, Nat.add_zero, li_0, li_1, li_2, li_3, li_4, li_5, li_6, li_7, li_8, li_9, li_10, li_11, li_12, li_16, li_20, li_24, li_31, li_32, li_48, li_49, li_73, li_74, li_75, li_97, li_98, li_99, li_100, li_101, li_109, li_110, li_255, li_680, li_700, li_9999, li_65536, li_65537, x_hD1 hp hq hX.1.2.2.1 hD.1 (by omega), e1', e3]
    · obtain ⟨w3, e1, e2⟩ := m_writesBySize hD hT b2 b1 b3 b4 (show 2 ≤ 2 by omega) (show 2 ≤ 8 by omega)
      have e1' : fX11_writesBySize nd w1 (nI 2) = some (gSz D T 2, w3) := e1
      have e10 := e2.1 10 d (by omega)
      obtain ⟨w2, e3, e4⟩ := m_bes hD hT b2 hB 6 3 (by omega) (by omega) fuel0 2 w3 (by unfold fuel0; omega) bs_1 (by rw [e2.2.1]; exact b1) (by rw [e10]; exact b3) (by rw [e10]; exact b4)
      refine ⟨w2, e2.tr e4, ?_⟩
      unfold fX11_bestSize
      simp (disch := omega) only [↓mo_1, ↓mo_2, ad_m1, ite_m1_lt, ite_m2_lt, ite_le_m1, ite_eq_m1, ite_eq_m2, ite_m1_m1, ite_m2_m2, ite_T, ite_F, ite_nz, ite_zz, ite_m1_le, ite_m1_eq, oi_none, oi_some, ob_some, lw_def, ck_true, ckp_su, ite_lt_t, ite_lt_f, ite_le_t, ite_le_f, ite_eq_t, ite_eq_f, ck_inb, nI_add, sb_nI, mu_nI, nI_clamp, sO_at, sO_sO, Nat.add_sub_cancel, Nat.zero_add, Nat.add_zero, li_0, li_1, li_2, li_3, li_4, li_5, li_6, li_7, li_8, li_9, li_10, li_11, li_12, li_16, li_20, li_24, li_31, li_32, li_48, li_49, li_73, li_74, li_75, li_97, li_98, li_99, li_100, li_101, li_109, li_110, li_255, li_680, li_700, li_9999, li_65536, li_65537, ← e, b1, e1', e3]
end QRUN
