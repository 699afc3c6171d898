/-! ===== the reference: bands by size, runs in other bands ===== -/
section MRS
variable {w : Wd} {D : Dk} {T : Tk} {s : Sd} {nd : Nat} {f : Nat → Int32}
theorem WFT.cg {D2 : Dk} (h : dnt D2 = dnt D) (hW : WFT D T) : WFT D2 T := by
  unfold WFT at *
  rw [h]
  exact hW
theorem RTm.cg {D2 : Dk} {o : Ob} (h : dnt D2 = dnt D) (hW : RTm o D T) : RTm o D2 T := by
  unfold RTm at *
  rw [h]
  exact hW
theorem m_bz {n d : Nat} (hD : WFD D) (hd : d < nd) (hn : 2 ≤ n) (h8 : n ≤ 8) : ∀ r b, b + r = szN (dnt D) n → ∀ (m : Nat) (w : Wd), r < m → (w 11 0).2.2.1 3 = d + 1 → (w 10 d).1 3 = nI (dnt D) → (w 11 0).1 23 = nI b → (∀ c, c < b → (w 11 0).2.1 21 c = nI (dfst (szF (dnt D) n) c) ∧ (w 11 0).2.1 22 c = nI (szF (dnt D) n c)) → ∃ w2 : Wd, fX11_bandsBySize_7 nd m (mX w f) (nI n) (nI (n * b)) = some ((), mX w2 f) ∧ (w2 11 0).1 23 = nI (szN (dnt D) n) ∧ (∀ c, c < szN (dnt D) n → (w2 11 0).2.1 21 c = nI (dfst (szF (dnt D) n) c) ∧ (w2 11 0).2.1 22 c = nI (szF (dnt D) n c)) ∧ SM w w2 ∧ (w2 11 0).1 24 = (w 11 0).1 24 ∧ (w2 11 0).1 25 = (w 11 0).1 25 := by
  have h1 := dnt_pos hD
  have h48 := hD.2.2.2.1
  have hw2 := szD_wf hD hn h8
  have h24 : szN (dnt D) n ≤ 24 := hw2.2.1
  intro r
  induction r with
  | zero =>
    intro b hb m w hm hp h3 h23 hr
    obtain ⟨m, rfl⟩ : ∃ q, m = q + 1 := ⟨m - 1, by omega⟩
    have e : b = szN (dnt D) n := by omega
    subst e
    have hge : dnt D ≤ n * szN (dnt D) n := by
      have := szN_lt (N := dnt D) (n := n) (b := szN (dnt D) n) (by omega)
      omega
    have hle : n * szN (dnt D) n ≤ 8 * 24 := Nat.mul_le_mul h8 h24
    refine ⟨w, ?_, h23, hr, SM.rf, rfl, rfl⟩
    rw [fX11_bandsBySize_7.eq_2]
    simp (disch := omega) only [↓mo_1, ↓mo_2, ad_m1, ite_m1_lt, ite_m2_lt, ite_le_m1, ite_eq_m1, ite_eq_m2, ite_m1_m1, ite_m2_m2, ite_T, ite_F, ite_nz, ite_zz, ite_m1_le, ite_m1_eq, oi_none, oi_some, ob_some, lw_def, ck_true, ckp_su, ite_lt_t, ite_lt_f, ite_le_t, ite_le_f, ite_eq_t, ite_eq_f, ck_inb, nI_add, sb_nI, mu_nI, nI_clamp, sO_at, sO_sO, Nat.add_sub_cancel, Nat.zero_add, Nat.add_zero, li_0, li_1, li_2, li_3, li_4, li_5, li_6, li_7, li_8, li_9, li_10, li_11, li_12, li_16, li_20, li_24, li_31, li_32, li_48, li_49, li_73, li_74, li_75, li_97, li_98, li_99, li_100, li_101, li_109, li_110, li_255, li_680, li_700, li_9999, li_65536, li_65537, mX_p, hp, mX_10, h3]
  | succ r ih =>
    intro b hb m w hm hp h3 h23 hr
    obtain ⟨m, rfl⟩ : ∃ q, m = q + 1 := ⟨m - 1, by omega⟩
    have hlt := (szN_lt (N := dnt D) (n := n) (b := b) (by omega)).mp (by omega)
    have e0 : dfst (szF (dnt D) n) b = n * b := by rw [szF_d h1, if_neg (by omega)]
    have a1 : ∀ v, (sA w 11 0 21 b v 11 0).2.2.1 3 = d + 1 := fun v => by unfold sA; rw [sO_at]; exact hp
    have a2 : ∀ v, (sA w 11 0 21 b v 11 0).1 23 = nI b := fun v => by unfold sA; rw [sO_at]; exact h23
    have a3 : ∀ v, sA w 11 0 21 b v 10 d = w 10 d := fun v => by unfold sA; exact sO_nc (by decide)
    have a4 : ∀ u v, (sA (sA w 11 0 21 b u) 11 0 22 b v 11 0).1 23 = nI b := fun u v => by unfold sA; rw [sO_at, sO_at]; exact h23
    obtain ⟨w2, e1, e2, e3, e4, e5, e6⟩ := ih (b + 1) (by omega) m (sI (sA (sA w 11 0 21 b (nI (n * b))) 11 0 22 b (nI (szF (dnt D) n b))) 11 0 23 (nI (b + 1))) (by omega) (by unfold sI sA; rw [sO_at, sO_at, sO_at]; exact hp) (by unfold sI sA; rw [sO_nc (by decide), sO_nc (by decide), sO_nc (by decide)]; exact h3) sI_i (fun c hc => by
      rw [sI_2]
      unfold sA
      rw [sO_at, sO_at, oA_n (by decide), oA_a, oA_a, oA_n (by decide)]
      by_cases z : c = b
      · rw [z, upd_at, upd_at, e0]; exact ⟨rfl, rfl⟩
      · rw [upd_ne z, upd_ne z]; exact hr c (by omega))
    refine ⟨w2, ?_, e2, e3, (SM.a (by decide)).tr ((SM.a (by decide)).tr ((SM.i (by decide)).tr e4)), by rw [e5, sI_n (by decide)]; unfold sA; rw [sO_at, sO_at]; rfl, by rw [e6, sI_n (by decide)]; unfold sA; rw [sO_at, sO_at]; rfl⟩
    rw [Nat.mul_succ] at e1
    unfold szF at e1
    rw [fX11_bandsBySize_7.eq_2]
    by_cases c : dnt D ≤ n * b + n
    · rw [if_pos c] at e1
      simp (disch := first | omega | decide) only [↓mo_1, ↓mo_2, ad_m1, ite_m1_lt, ite_m2_lt, ite_le_m1, ite_eq_m1, ite_eq_m2, ite_m1_m1, ite_m2_m2, ite_T, ite_F, ite_nz, ite_zz, ite_m1_le, ite_m1_eq, oi_none, oi_some, ob_some, lw_def, ck_true, ckp_su, ite_lt_t, ite_lt_f, ite_le_t, ite_le_f, ite_eq_t, ite_eq_f, ck_inb, nI_add, sb_nI, mu_nI, nI_clamp, sO_at, sO_sO, Nat.add_sub_cancel, Nat.zero_add, Nat.add_zero, li_0, li_1, li_2, li_3, li_4, li_5, li_6, li_7, li_8, li_9, li_10, li_11, li_12, li_16, li_20, li_24, li_31, li_32, li_48, li_49, li_73, li_74, li_75, li_97, li_98, li_99, li_100, li_101, li_109, li_110, li_255, li_680, li_700, li_9999, li_65536, li_65537, mX_p, hp, mX_10, h3, mX_i, h23, mX_A, a1, a3]
      unfold fX11_bandsBySize_62
      simp (disch := first | omega | decide) only [↓mo_1, ↓mo_2, ad_m1, ite_m1_lt, ite_m2_lt, ite_le_m1, ite_eq_m1, ite_eq_m2, ite_m1_m1, ite_m2_m2, ite_T, ite_F, ite_nz, ite_zz, ite_m1_le, ite_m1_eq, oi_none, oi_some, ob_some, lw_def, ck_true, ckp_su, ite_lt_t, ite_lt_f, ite_le_t, ite_le_f, ite_eq_t, ite_eq_f, ck_inb, nI_add, sb_nI, mu_nI, nI_clamp, sO_at, sO_sO, Nat.add_sub_cancel, Nat.zero_add, Nat.add_zero, li_0, li_1, li_2, li_3, li_4, li_5, li_6, li_7, li_8, li_9, li_10, li_11, li_12, li_16, li_20, li_24, li_31, li_32, li_48, li_49, li_73, li_74, li_75, li_97, li_98, li_99, li_100, li_101, li_109, li_110, li_255, li_680, li_700, li_9999, li_65536, li_65537, mX_i, a2, mX_A, a4, mX_I]
      exact e1
    · rw [if_neg c] at e1
      simp (disch := first | omega | decide) only [↓mo_1, ↓mo_2, ad_m1, ite_m1_lt, ite_m2_lt, ite_le_m1, ite_eq_m1, ite_eq_m2, ite_m1_m1, ite_m2_m2, ite_T, ite_F, ite_nz, ite_zz, ite_m1_le, ite_m1_eq, oi_none, oi_some, ob_some, lw_def, ck_true, ckp_su, ite_lt_t, ite_lt_f, ite_le_t, ite_le_f, ite_eq_t, ite_eq_f, ck_inb, nI_add, sb_nI, mu_nI, nI_clamp, sO_at, sO_sO, Nat.add_sub_cancel, Nat.zero_add, Nat.add_zero, li_0, li_1, li_2, li_3, li_4, li_5, li_6, li_7, li_8, li_9, li_10, li_11, li_12, li_16, li_20, li_24, li_31, li_32, li_48, li_49, li_73, li_74, li_75, li_97, li_98, li_99, li_100, li_101, li_109, li_110, li_255, li_680, li_700, li_9999, li_65536, li_65537, mX_p, hp, mX_10, h3, mX_i, h23, mX_A, a1, a3]
      unfold fX11_bandsBySize_62
      simp (disch := first | omega | decide) only [↓mo_1, ↓mo_2, ad_m1, ite_m1_lt, ite_m2_lt, ite_le_m1, ite_eq_m1, ite_eq_m2, ite_m1_m1, ite_m2_m2, ite_T, ite_F, ite_nz, ite_zz, ite_m1_le, ite_m1_eq, oi_none, oi_some, ob_some, lw_def, ck_true, ckp_su, ite_lt_t, ite_lt_f, ite_le_t, ite_le_f, ite_eq_t, ite_eq_f, ck_inb, nI_add, sb_nI, mu_nI, nI_clamp, sO_at, sO_sO, Nat.add_sub_cancel, Nat.zero_add, Nat.add_zero, li_0, li_1, li_2, li_3, li_4, li_5, li_6, li_7, li_8, li_9, li_10, li_11, li_12, li_16, li_20, li_24, li_31, li_32, li_48, li_49, li_73, li_74, li_75, li_97, li_98, li_99, li_100, li_101, li_109, li_110, li_255, li_680, li_700, li_9999, li_65536, li_65537, mX_i, a2, mX_A, a4, mX_I]
      exact e1
theorem m_bandsBySize {n d : Nat} (hD : WFD D) (hd : d < nd) (hp : (w 11 0).2.2.1 3 = d + 1) (h3 : (w 10 d).1 3 = nI (dnt D)) (hS : RMs nd w D) (hn : 2 ≤ n) (h8 : n ≤ 8) : ∃ w2 : Wd, fX11_bandsBySize nd (mX w f) (nI n) = some ((), mX w2 f) ∧ RMs nd w2 (szD D n) ∧ SM w w2 ∧ (w2 11 0).1 25 = (w 11 0).1 25 := by
  have hw2 := szD_wf hD hn h8
  have h24 : szN (dnt D) n ≤ 24 := hw2.2.1
  obtain ⟨w2, e1, e2, e3, e4, e5, e6⟩ := m_bz (f := f) hD hd hn h8 (szN (dnt D) n) 0 (Nat.zero_add _) fuel0 (sI w 11 0 23 (nI 0)) (by unfold fuel0; omega) (by rw [sI_2]; exact hp) (by rw [sI_nc (by decide)]; exact h3) sI_i (fun c hc => absurd hc (Nat.not_lt_zero c))
  have s1 : SM w w2 := (SM.i (by decide)).tr e4
  obtain ⟨q1, q2, q3, q4⟩ := hS
  obtain ⟨d', p1, p2, p3, p4⟩ := q4
  refine ⟨w2, ?_, ⟨e2, by rw [e5, sI_n (by decide)]; exact q2, e3, d', by rw [s1.2.1]; exact p1, p2, by rw [s1.1 10 d' (by omega)]; exact p3, by rw [s1.1 10 d' (by omega)]; exact p4⟩, s1, by rw [e6, sI_n (by decide)]⟩
  unfold fX11_bandsBySize
  simp (disch := omega) only [↓mo_1, ↓mo_2, ad_m1, ite_m1_lt, ite_m2_lt, ite_le_m1, ite_eq_m1, ite_eq_m2, ite_m1_m1, ite_m2_m2, ite_T, ite_F, ite_nz, ite_zz, ite_m1_le, ite_m1_eq, oi_none, oi_some, ob_some, lw_def, ck_true, ckp_su, ite_lt_t, ite_lt_f, ite_le_t, ite_le_f, ite_eq_t, ite_eq_f, ck_inb, nI_add, sb_nI, mu_nI, nI_clamp, sO_at, sO_sO, Nat.add_sub_cancel, Nat.zero_add, Nat.add_zero, li_0, li_1, li_2, li_3, li_4, li_5, li_6, li_7, li_8, li_9, li_10, li_11, li_12, li_16, li_20, li_24, li_31, li_32, li_48, li_49, li_73, li_74, li_75, li_97, li_98, li_99, li_100, li_101, li_109, li_110, li_255, li_680, li_700, li_9999, li_65536, li_65537, mX_I]
  exact e1
/-- what a run needs of the reference -/
theorem m_run {d : Nat} {S : Int32} (hD : WFD D) (hT : WFT D T) (hd : d < nd) (hp : (w 11 0).2.2.1 3 = d + 1) (hR : RDm (w 10 d) D) (hTm : RTm (w 10 d) D T) : ∃ (w2 w3 : Wd) (g g3 : Nat → Int32), fX11_asTold nd w = some ((), mX w2 g) ∧ fX11_goes nd (mX w2 g) S = some ((), mX w3 g3) ∧ RM g3 (goS D T S T.2.1.1) ∧ (w3 11 0).1 25 = clN D T S T.2.1.1 ∧ SM w w3 ∧ RMs nd w3 D := by
  obtain ⟨w2, g, e1, e2, e3, e4, e5⟩ := m_asTold hD hd hp hR hTm hT
  obtain ⟨g3, e6, e7⟩ := m_goes (S := S) hD e2 hT hd (by rw [e4.2.1]; exact hp) (by rw [e4.1 10 d (by omega)]; exact hTm) e3 e5
  exact ⟨w2, _, g, g3, e1, e6, e7, mC_a, e4.tr SM.c, mC_R e2⟩
theorem m_runs {d : Nat} (hD : WFD D) (hT : WFT D T) (hd : d < nd) (hp : (w 11 0).2.2.1 3 = d + 1) (hR : RDm (w 10 d) D) (hTm : RTm (w 10 d) D T) : ∃ (w3 : Wd) (g3 : Nat → Int32), fX11_runs nd w = some ((), mX w3 g3) ∧ RM g3 (goS D T (nI 0) T.2.1.1) ∧ (w3 11 0).1 25 = clN D T (nI 0) T.2.1.1 ∧ SM w w3 := by
  obtain ⟨w2, w3, g, g3, e1, e2, e3, e4, e5, -⟩ := m_run (S := nI 0) hD hT hd hp hR hTm
  refine ⟨w3, g3, ?_, e3, e4, e5⟩
  unfold fX11_runs
  simp (disch := omega) only [↓mo_1, ↓mo_2, ad_m1, ite_m1_lt, ite_m2_lt, ite_le_m1, ite_eq_m1, ite_eq_m2, ite_m1_m1, ite_m2_m2, ite_T, ite_F, ite_nz, ite_zz, ite_m1_le, ite_m1_eq, oi_none, oi_some, ob_some, lw_def, ck_true, ckp_su, ite_lt_t, ite_lt_f, ite_le_t, ite_le_f, ite_eq_t, ite_eq_f, ck_inb, nI_add, sb_nI, mu_nI, nI_clamp, sO_at, sO_sO, Nat.add_sub_cancel, Nat.zero_add, Nat.add_zero, li_0, li_1, li_2, li_3, li_4, li_5, li_6, li_7, li_8, li_9, li_10, li_11, li_12, li_16, li_20, li_24, li_31, li_32, li_48, li_49, li_73, li_74, li_75, li_97, li_98, li_99, li_100, li_101, li_109, li_110, li_255, li_680, li_700, li_9999, li_65536, li_65537, e1, e2]
theorem m_writesBySize {d n : Nat} (hD : WFD D) (hT : WFT D T) (hd : d < nd) (hp : (w 11 0).2.2.1 3 = d + 1) (hR : RDm (w 10 d) D) (hTm : RTm (w 10 d) D T) (hn : 2 ≤ n) (h8 : n ≤ 8) : ∃ (w3 : Wd), fX11_writesBySize nd w (nI n) = some (sct (goS (szD D n) T (nI 0) T.2.1.1), w3) ∧ SM w w3 := by
  have hw2 := szD_wf hD hn h8
  have he := szD_n hD hn
  obtain ⟨w2, g, e1, e2, e3, e4, e5⟩ := m_asTold hD hd hp hR hTm hT
  have p2 : (w2 11 0).2.2.1 3 = d + 1 := by rw [e4.2.1]; exact hp
  have t2 : RTm (w2 10 d) D T := by rw [e4.1 10 d (by omega)]; exact hTm
  obtain ⟨w3, c1, c2, c3, c4⟩ := m_bandsBySize (f := g) hD hd p2 t2.1 e2 hn h8
  obtain ⟨g3, e6, e7⟩ := m_goes (S := nI 0) hw2 c2 (hT.cg he) hd (by rw [c3.2.1]; exact p2) (by rw [c3.1 10 d (by omega)]; exact t2.cg he) e3 (by rw [c4]; exact e5)
  refine ⟨mX (mC w3 (clN (szD D n) T (nI 0) T.2.1.1)) g3, ?_, e4.tr (c3.tr (SM.c.tr SM.x))⟩
  · unfold fX11_writesBySize
    simp (disch := omega) only [↓mo_1, ↓mo_2, ad_m1, ite_m1_lt, ite_m2_lt, ite_le_m1, ite_eq_m1, ite_eq_m2, ite_m1_m1, ite_m2_m2, ite_T, ite_F, ite_nz, ite_zz, ite_m1_le, ite_m1_eq, oi_none, oi_some, ob_some, lw_def, ck_true, ckp_su, ite_lt_t, ite_lt_f, ite_le_t, ite_le_f, ite_eq_t, ite_eq_f, ck_inb, nI_add, sb_nI, mu_nI, nI_clamp, sO_at, sO_sO, Nat.add_sub_cancel, Nat.zero_add, Nat.add_zero, li_0, li_1, li_2, li_3, li_4, li_5, li_6, li_7, li_8, li_9, li_10, li_11, li_12, li_16, li_20, li_24, li_31, li_32, li_48, li_49, li_73, li_74, li_75, li_97, li_98, li_99, li_100, li_101, li_109, li_110, li_255, li_680, li_700, li_9999, li_65536, li_65537, e1, c1, e6, mX_x, e7.2.2.2.2.2.2.2.2.2]
theorem m_cleansByLog {d n : Nat} (hD : WFD D) (hT : WFT D T) (hd : d < nd) (hp : (w 11 0).2.2.1 3 = d + 1) (hR : RDm (w 10 d) D) (hTm : RTm (w 10 d) D T) (hn : 2 ≤ n) (h8 : n ≤ 24) : ∃ (w3 : Wd), fX11_cleansByLog nd w (nI n) = some (clN (lgD D n) T (nI 0) T.2.1.1, w3) ∧ SM w w3 := by
  have hw2 := lgD_wf hD hn h8
  have he : dnt (lgD D n) = dnt D := rfl
  obtain ⟨w2, g, e1, e2, e3, e4, e5⟩ := m_asTold hD hd hp hR hTm hT
  have p2 : (w2 11 0).2.2.1 3 = d + 1 := by rw [e4.2.1]; exact hp
  have t2 : RTm (w2 10 d) D T := by rw [e4.1 10 d (by omega)]; exact hTm
  have c2 : RMs nd (sI w2 11 0 24 (nI n)) (lgD D n) := by
    obtain ⟨q1, q2, q3, d', p1, p2, p3, p4⟩ := e2
    exact ⟨by rw [sI_n (by decide)]; exact q1, sI_i, by rw [sI_2]; exact q3, d', by rw [sI_2]; exact p1, p2, by rw [sI_nc (by decide)]; exact p3, by rw [sI_nc (by decide)]; exact p4⟩
  obtain ⟨g3, e6, e7⟩ := m_goes (S := nI 0) hw2 c2 (hT.cg he) hd (by rw [sI_2]; exact p2) (by rw [sI_nc (by decide)]; exact t2.cg he) e3 (by rw [sI_n (by decide)]; exact e5)
  refine ⟨mX (mC (sI w2 11 0 24 (nI n)) (clN (lgD D n) T (nI 0) T.2.1.1)) g3, ?_, e4.tr ((SM.i (k := 24) (v := nI n) (by decide)).tr (SM.c.tr SM.x))⟩
  · unfold fX11_cleansByLog
    simp (disch := omega) only [↓mo_1, ↓mo_2, ad_m1, ite_m1_lt, ite_m2_lt, ite_le_m1, ite_eq_m1, ite_eq_m2, ite_m1_m1, ite_m2_m2, ite_T, ite_F, ite_nz, ite_zz, ite_m1_le, ite_m1_eq, oi_none, oi_some, ob_some, lw_def, ck_true, ckp_su, ite_lt_t, ite_lt_f, ite_le_t, ite_le_f, ite_eq_t, ite_eq_f, ck_inb, nI_add, sb_nI, mu_nI, nI_clamp, sO_at, sO_sO, Nat.add_sub_cancel, Nat.zero_add, Nat.add_zero, li_0, li_1, li_2, li_3, li_4, li_5, li_6, li_7, li_8, li_9, li_10, li_11, li_12, li_16, li_20, li_24, li_31, li_32, li_48, li_49, li_73, li_74, li_75, li_97, li_98, li_99, li_100, li_101, li_109, li_110, li_255, li_680, li_700, li_9999, li_65536, li_65537, e1, mX_I, e6, mX_i, mC_a]
end MRS
