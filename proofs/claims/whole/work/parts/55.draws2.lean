/-! ===== draws: the reference, and the questions ===== -/
theorem l_75 : (75 : Int64) = lN 75 := id rfl
theorem l_74 : (74 : Int64) = lN 74 := id rfl
theorem l_65537 : (65537 : Int64) = lN 65537 := id rfl
section DRM
variable {w : Wd} {f : Nat → Int32} {nd : Nat} {D : Dk} {s : Sd}
theorem m_draws {z n : Nat} (hz : (w 11 0).1 34 = nI z) (hz2 : z < 65537) (hn : 1 ≤ n) (hn2 : n < 2 ^ 31) : fX11_draws nd (mX w f) (nI n) = some (nI (drz z % n), mX (sI w 11 0 34 (nI (drz z))) f) := by
  have h1 := @drz_lt z
  have e1 : ((lN 75 * lN z + lN 74) - (lN 75 * lN z + lN 74) / lN 65537 * lN 65537).toInt32 = nI (drz z) := by
    rw [lN_mul, lN_add, pk_lRem (by omega) (by omega) (by omega), lN_i]
    rfl
  unfold fX11_draws
  simp (disch := omega) only [↓mo_1, ↓mo_2, ad_m1, ite_m1_lt, ite_m2_lt, ite_le_m1, ite_eq_m1, ite_eq_m2, ite_m1_m1, ite_m2_m2, ite_T, ite_F, ite_nz, ite_zz, ite_m1_le, ite_m1_eq, oi_none, oi_some, ob_some, lw_def, ck_true, ckp_su, ite_lt_t, ite_lt_f, ite_le_t, ite_le_f, ite_eq_t, ite_eq_f, ck_inb, nI_add, nI_clamp, sO_at, sO_sO, Nat.add_sub_cancel, Nat.zero_add, Nat.add_zero, li_0, li_1, li_2, li_3, li_4, li_5, li_6, li_7, li_8, li_9, li_10, li_11, li_12, li_16, li_20, li_24, li_31, li_32, li_48, li_49, li_73, li_74, li_75, li_97, li_98, li_99, li_100, li_101, li_109, li_110, li_255, li_680, li_700, li_9999, li_65536, li_65537, l_75, l_74, l_65537, lN_0, l_ne, mX_i, hz, nI_l, e1, mX_I, sI_i, pk_rem]
theorem RMs.i34 {v : Int32} {k : Nat} (hk : k ≠ 23) (hk2 : k ≠ 24) (h : RMs nd w D) : RMs nd (sI w 11 0 k v) D := by
  obtain ⟨q1, q2, q3, d', p1, p2, p3, p4⟩ := h
  exact ⟨by rw [sI_n (by omega)]; exact q1, by rw [sI_n (by omega)]; exact q2, by rw [sI_2]; exact q3, d', by rw [sI_2]; exact p1, p2, by rw [sI_nc (by decide)]; exact p3, by rw [sI_nc (by decide)]; exact p4⟩
/-- the turns of the reference -/
theorem m_turn {p : Nat × Sd} {d n k m : Nat} (hD : WFD D) (hd : d < nd) (hpt : (w 11 0).2.2.1 3 = d + 1) (h3 : (w 10 d).1 3 = nI (dnt D)) (hS : RMs nd w D) (hp : TOK D p) (hz : (w 11 0).1 34 = nI p.1) (hR : RM f p.2) (hk : k < n) (hn : n ≤ 100) : ∃ (w2 : Wd) (g : Nat → Int32), fX11_drawnTurns_38 nd (m + 1) (mX w f) (nI n) (nI k) = fX11_drawnTurns_38 nd m (mX w2 g) (nI n) (nI (k + 1)) ∧ RMs nd w2 D ∧ (w2 11 0).1 34 = nI (tnS D p).1 ∧ (w2 11 0).1 35 = (w 11 0).1 35 ∧ SM w w2 ∧ RM g (tnS D p).2 := by
  obtain ⟨h1, h2, h3', h4, h5⟩ := hp
  have hn1 := dnt_pos hD
  have h48 := hD.2.2.2.1
  have l1 := @drz_lt p.1
  have l2 := @drz_lt (drz p.1)
  have l3 := @drz_lt (drz (drz p.1))
  have l4 := @drz_lt (drz (drz (drz p.1)))
  obtain ⟨a1, a2, a3, a4, a5⟩ := ad_wf (t := drz p.1 % dnt D) (x := nI (drz (drz p.1) % 100)) hD h2 h3' h4 (Nat.mod_lt _ (by omega))
  have lm := Nat.mod_lt (drz (drz (drz p.1))) (show 8 > 0 by omega)
  have d1 := m_draws (f := f) (nd := nd) hz h1 hn1 (by omega)
  generalize hw1 : sI w 11 0 34 (nI (drz p.1)) = wa at d1
  have za : (wa 11 0).1 34 = nI (drz p.1) := by rw [← hw1]; exact sI_i
  have sa : SM w wa := by rw [← hw1]; exact SM.i (by decide)
  have ca : (wa 11 0).1 35 = (w 11 0).1 35 := by rw [← hw1]; exact sI_n (by decide)
  have ra : RMs nd wa D := by rw [← hw1]; exact hS.i34 (by decide) (by decide)
  have d2 := m_draws (f := f) (nd := nd) (n := 100) za l1 (by omega) (by omega)
  generalize hw2 : sI wa 11 0 34 (nI (drz (drz p.1))) = wb at d2
  have zb : (wb 11 0).1 34 = nI (drz (drz p.1)) := by rw [← hw2]; exact sI_i
  have sb : SM wa wb := by rw [← hw2]; exact SM.i (by decide)
  have cb : (wb 11 0).1 35 = (wa 11 0).1 35 := by rw [← hw2]; exact sI_n (by decide)
  have rb : RMs nd wb D := by rw [← hw2]; exact ra.i34 (by decide) (by decide)
  obtain ⟨g1, e1, e2⟩ := m_writes hD rb h2 hR h3' h4 (t := drz p.1 % dnt D) (x := nI (drz (drz p.1) % 100))
  generalize hw3 : mC wb (cl1 D p.2 ((wb 11 0).1 25)) = wc at e1
  have zc : (wc 11 0).1 34 = nI (drz (drz p.1)) := by rw [← hw3, mC_i (by decide)]; exact zb
  have sc : SM wb wc := by rw [← hw3]; exact SM.c
  have cc : (wc 11 0).1 35 = (wb 11 0).1 35 := by rw [← hw3]; exact mC_i (by decide)
  have rc : RMs nd wc D := by rw [← hw3]; exact mC_R rb
  have d3 := m_draws (f := g1) (nd := nd) (n := 8) zc l2 (by omega) (by omega)
  generalize hw4 : sI wc 11 0 34 (nI (drz (drz (drz p.1)))) = we at d3
  have ze : (we 11 0).1 34 = nI (drz (drz (drz p.1))) := by rw [← hw4]; exact sI_i
  have se : SM wc we := by rw [← hw4]; exact SM.i (by decide)
  have ce : (we 11 0).1 35 = (wc 11 0).1 35 := by rw [← hw4]; exact sI_n (by decide)
  have re : RMs nd we D := by rw [← hw4]; exact rc.i34 (by decide) (by decide)
  by_cases c : drz (drz (drz p.1)) % 8 = 0
  · obtain ⟨b, hb⟩ := nb_ne (D := D) a5
    have hbl := (nbS_lt hD a1 hb).1
    have hb24 := hD.2.1
    have h8 := (hD.2.2.1 b hbl).2
    have hQ : QT (adS D p.2 (drz p.1 % dnt D) (nI (drz (drz p.1) % 100))) := fun _ => ⟨a2, a3⟩
    have hk2 := Nat.mod_lt (drz (drz (drz (drz p.1)))) (show 2 * D.2.1 b + 3 > 0 by omega)
    have d4 := m_draws (f := g1) (nd := nd) (n := 2 * D.2.1 b + 3) ze l3 (by omega) (by omega)
    generalize hw5 : sI we 11 0 34 (nI (drz (drz (drz (drz p.1))))) = wg at d4
    have zg : (wg 11 0).1 34 = nI (drz (drz (drz (drz p.1)))) := by rw [← hw5]; exact sI_i
    have sg : SM we wg := by rw [← hw5]; exact SM.i (by decide)
    have cg : (wg 11 0).1 35 = (we 11 0).1 35 := by rw [← hw5]; exact sI_n (by decide)
    have rg : RMs nd wg D := by rw [← hw5]; exact re.i34 (by decide) (by decide)
    have n1 := m_nextBand hD re a1 e2
    rw [hb, oi2_s] at n1
    obtain ⟨g2, f1, f2⟩ := m_cuts hD rg a1 e2 hbl (show drz (drz (drz (drz p.1))) % (2 * D.2.1 b + 3) ≤ 2 * D.2.1 b + 2 by omega) a2 a3
    obtain ⟨g3, f3, f4⟩ := m_recovers hD rg (ct_wf2 hD a1 hQ (a4.trans h5) hbl (by omega)) f2
    rw [tn_c c hb]
    refine ⟨wg, g3, ?_, rg, zg, by rw [cg, ce, cc, cb, ca], sa.tr (sb.tr (sc.tr (se.tr sg))), f4⟩
    rw [fX11_drawnTurns_38.eq_2]
    unfold fX11_drawnCut
    simp (disch := omega) only [↓mo_1, ↓mo_2, ad_m1, ite_m1_lt, ite_m2_lt, ite_le_m1, ite_eq_m1, ite_eq_m2, ite_m1_m1, ite_m2_m2, ite_T, ite_F, ite_nz, ite_zz, ite_m1_le, ite_m1_eq, oi_none, oi_some, ob_some, lw_def, ck_true, ckp_su, ite_lt_t, ite_lt_f, ite_le_t, ite_le_f, ite_eq_t, ite_eq_f, ck_inb, nI_add, sb_nI, mu_nI, nI_clamp, sO_at, sO_sO, Nat.add_sub_cancel, Nat.zero_add, Nat.add_zero, li_0, li_1, li_2, li_3, li_4, li_5, li_6, li_7, li_8, li_9, li_10, li_11, li_12, li_16, li_20, li_24, li_31, li_32, li_48, li_49, li_73, li_74, li_75, li_97, li_98, li_99, li_100, li_101, li_109, li_110, li_255, li_680, li_700, li_9999, li_65536, li_65537, mX_p, hpt, mX_10, h3, d1, d2, e1, d3, c, n1, m_stepsOf hD re hbl, d4, f1, f3]
  · rw [tn_n c]
    refine ⟨we, g1, ?_, re, ze, by rw [ce, cc, cb, ca], sa.tr (sb.tr (sc.tr se)), e2⟩
    rw [fX11_drawnTurns_38.eq_2]
    simp (disch := omega) only [↓mo_1, ↓mo_2, ad_m1, ite_m1_lt, ite_m2_lt, ite_le_m1, ite_eq_m1, ite_eq_m2, ite_m1_m1, ite_m2_m2, ite_T, ite_F, ite_nz, ite_zz, ite_m1_le, ite_m1_eq, oi_none, oi_some, ob_some, lw_def, ck_true, ckp_su, ite_lt_t, ite_lt_f, ite_le_t, ite_le_f, ite_eq_t, ite_eq_f, ck_inb, nI_add, sb_nI, mu_nI, nI_clamp, sO_at, sO_sO, Nat.add_sub_cancel, Nat.zero_add, Nat.add_zero, li_0, li_1, li_2, li_3, li_4, li_5, li_6, li_7, li_8, li_9, li_10, li_11, li_12, li_16, li_20, li_24, li_31, li_32, li_48, li_49, li_73, li_74, li_75, li_97, li_98, li_99, li_100, li_101, li_109, li_110, li_255, li_680, li_700, li_9999, li_65536, li_65537, mX_p, hpt, mX_10, h3, d1, d2, e1, d3]
theorem m_dt {p : Nat × Sd} {d n : Nat} {c0 : Int32} (hD : WFD D) (hd : d < nd) (hp : TOK D p) (hn : n ≤ 100) : ∀ r k, k + r = n → ∀ (m : Nat) (w : Wd) (f : Nat → Int32), r < m → (w 11 0).2.2.1 3 = d + 1 → (w 10 d).1 3 = nI (dnt D) → RMs nd w D → (w 11 0).1 34 = nI (tnN D p k).1 → (w 11 0).1 35 = c0 → RM f (tnN D p k).2 → ∃ (w2 : Wd) (g : Nat → Int32), fX11_drawnTurns_38 nd m (mX w f) (nI n) (nI k) = some ((), mX w2 g) ∧ (w2 11 0).1 35 = sct (tnN D p n).2 - c0 ∧ SM w w2 ∧ RM g (tnN D p n).2 := by
  intro r
  induction r with
  | zero =>
    intro k hk m w f hm hpt h3 hS hz hc hR
    obtain ⟨m, rfl⟩ : ∃ z, m = z + 1 := ⟨m - 1, by omega⟩
    have e : k = n := by omega
    subst e
    refine ⟨sI w 11 0 35 (sct (tnN D p k).2 - c0), f, ?_, sI_i, SM.i (by decide), hR⟩
    rw [fX11_drawnTurns_38.eq_2]
    simp (disch := omega) only [↓mo_1, ↓mo_2, ad_m1, ite_m1_lt, ite_m2_lt, ite_le_m1, ite_eq_m1, ite_eq_m2, ite_m1_m1, ite_m2_m2, ite_T, ite_F, ite_nz, ite_zz, ite_m1_le, ite_m1_eq, oi_none, oi_some, ob_some, lw_def, ck_true, ckp_su, ite_lt_t, ite_lt_f, ite_le_t, ite_le_f, ite_eq_t, ite_eq_f, ck_inb, nI_add, sb_nI, mu_nI, nI_clamp, sO_at, sO_sO, Nat.add_sub_cancel, Nat.zero_add, Nat.add_zero, li_0, li_1, li_2, li_3, li_4, li_5, li_6, li_7, li_8, li_9, li_10, li_11, li_12, li_16, li_20, li_24, li_31, li_32, li_48, li_49, li_73, li_74, li_75, li_97, li_98, li_99, li_100, li_101, li_109, li_110, li_255, li_680, li_700, li_9999, li_65536, li_65537, mX_x, hR.2.2.2.2.2.2.2.2.2, mX_i, hc, mX_I]
  | succ r ih =>
    intro k hk m w f hm hpt h3 hS hz hc hR
    obtain ⟨m, rfl⟩ : ∃ z, m = z + 1 := ⟨m - 1, by omega⟩
    obtain ⟨w1, g1, e1, e2, e3, e4, e5, e6⟩ := m_turn (m := m) hD hd hpt h3 hS (tnN_ok hD hp k) hz hR (show k < n by omega) hn
    obtain ⟨w2, g, e7, e8, e9, e10⟩ := ih (k + 1) (by omega) m w1 g1 (by omega) (by rw [e5.2.1]; exact hpt) (by rw [e5.1 10 d (by omega)]; exact h3) e2 e3 (by rw [e4]; exact hc) e6
    exact ⟨w2, g, by rw [e1]; exact e7, e8, e5.tr e9, e10⟩
theorem m_drawnTurns {z n d : Nat} (hD : WFD D) (hd : d < nd) (hpt : (w 11 0).2.2.1 3 = d + 1) (hRD : RDm (w 10 d) D) (h3 : (w 10 d).1 3 = nI (dnt D)) (hW : WFS D s) (hQ : QT s) (hM : RM ((w 11 0).2.1 15) s) (hz : z < 65537) (hn : n ≤ 100) : ∃ (w2 : Wd) (g : Nat → Int32), fX11_drawnTurns nd w (nI z) (nI n) = some ((), mX w2 g) ∧ (w2 11 0).1 35 = sct (tnN D (z, dsS D s) n).2 - sct s ∧ SM w w2 ∧ RM g (tnN D (z, dsS D s) n).2 := by
  obtain ⟨w1, g1, c1, c2, c3, c4, -⟩ := m_works hD hd hpt hRD hW hM
  have hok := ds_ok (D := D) hz hW hQ
  have h97 := c3.2.2.2.2.2.2.2.2.1
  have s1 : ∀ u v, SM w1 (sI (sI w1 11 0 35 u) 11 0 34 v) := fun u v => (SM.i (by decide)).tr (SM.i (by decide))
  have r1 : ∀ u v, RMs nd (sI (sI w1 11 0 35 u) 11 0 34 v) D := fun u v => (c2.i34 (by decide) (by decide)).i34 (by decide) (by decide)
  have p1 : ∀ u v, (sI (sI w1 11 0 35 u) 11 0 34 v 11 0).2.2.1 3 = d + 1 := fun u v => by rw [sI_2, sI_2, c4.2.1]; exact hpt
  have t1 : ∀ u v, (sI (sI w1 11 0 35 u) 11 0 34 v 10 d).1 3 = nI (dnt D) := fun u v => by rw [sI_nc (by decide), sI_nc (by decide), c4.1 10 d (by omega)]; exact h3
  have hfu : n < fuel0 := by unfold fuel0; omega
  unfold fX11_drawnTurns
  cases hdn : sdn s with
  | true =>
    have hds : dsS D s = rvS D s := if_pos hdn
    rw [hdn, b2i_t] at h97
    obtain ⟨g2, e1, e2⟩ := m_recovers hD (c2.i34 (k := 35) (v := sct s) (by decide) (by decide)) hW c3
    rw [← hds] at e2
    obtain ⟨w2, g, e3, e4, e5, e6⟩ := m_dt (c0 := sct s) hD hd hok hn n 0 (Nat.zero_add _) fuel0 (sI (sI w1 11 0 35 (sct s)) 11 0 34 (nI z)) g2 hfu (p1 _ _) (t1 _ _) (r1 _ _) sI_i (by rw [sI_n (by decide), sI_i]) e2
    refine ⟨w2, g, ?_, e4, c4.tr ((s1 _ _).tr e5), e6⟩
    simp (disch := omega) only [↓mo_1, ↓mo_2, ad_m1, ite_m1_lt, ite_m2_lt, ite_le_m1, ite_eq_m1, ite_eq_m2, ite_m1_m1, ite_m2_m2, ite_T, ite_F, ite_nz, ite_zz, ite_m1_le, ite_m1_eq, oi_none, oi_some, ob_some, lw_def, ck_true, ckp_su, ite_lt_t, ite_lt_f, ite_le_t, ite_le_f, ite_eq_t, ite_eq_f, ck_inb, nI_add, sb_nI, mu_nI, nI_clamp, sO_at, sO_sO, Nat.add_sub_cancel, Nat.zero_add, Nat.add_zero, li_0, li_1, li_2, li_3, li_4, li_5, li_6, li_7, li_8, li_9, li_10, li_11, li_12, li_16, li_20, li_24, li_31, li_32, li_48, li_49, li_73, li_74, li_75, li_97, li_98, li_99, li_100, li_101, li_109, li_110, li_255, li_680, li_700, li_9999, li_65536, li_65537, c1, mX_x, c3.2.2.2.2.2.2.2.2.2, mX_I, h97, e1, e3]
  | false =>
    have hds : dsS D s = s := if_neg (by rw [hdn]; simp)
    rw [hdn, b2i_f] at h97
    have c3' := c3
    rw [← hds] at c3'
    obtain ⟨w2, g, e3, e4, e5, e6⟩ := m_dt (c0 := sct s) hD hd hok hn n 0 (Nat.zero_add _) fuel0 (sI (sI w1 11 0 35 (sct s)) 11 0 34 (nI z)) g1 hfu (p1 _ _) (t1 _ _) (r1 _ _) sI_i (by rw [sI_n (by decide), sI_i]) c3'
    refine ⟨w2, g, ?_, e4, c4.tr ((s1 _ _).tr e5), e6⟩
    simp (disch := omega) only [↓mo_1, ↓mo_2, ad_m1, ite_m1_lt, ite_m2_lt, ite_le_m1, ite_eq_m1, ite_eq_m2, ite_m1_m1, ite_m2_m2, ite_T, ite_F, ite_nz, ite_zz, ite_m1_le, ite_m1_eq, oi_none, oi_some, ob_some, lw_def, ck_true, ckp_su, ite_lt_t, ite_lt_f, ite_le_t, ite_le_f, ite_eq_t, ite_eq_f, ck_inb, nI_add, sb_nI, mu_nI, nI_clamp, sO_at, sO_sO, Nat.add_sub_cancel, Nat.zero_add, Nat.add_zero, li_0, li_1, li_2, li_3, li_4, li_5, li_6, li_7, li_8, li_9, li_10, li_11, li_12, li_16, li_20, li_24, li_31, li_32, li_48, li_49, li_73, li_74, li_75, li_97, li_98, li_99, li_100, li_101, li_109, li_110, li_255, li_680, li_700, li_9999, li_65536, li_65537, c1, mX_x, c3.2.2.2.2.2.2.2.2.2, mX_I, h97, e3]
/-! the questions -/
theorem x_cd1 {z n : Nat} (hz : z ≤ 65536) (hn : n ≤ 100) : fX9_canDraw w (nI z) (nI n) = some (nI 1, w) := by
  unfold fX9_canDraw
  simp (disch := omega) only [↓mo_1, ↓mo_2, ad_m1, ite_m1_lt, ite_m2_lt, ite_le_m1, ite_eq_m1, ite_eq_m2, ite_m1_m1, ite_m2_m2, ite_T, ite_F, ite_nz, ite_zz, ite_m1_le, ite_m1_eq, oi_none, oi_some, ob_some, lw_def, ck_true, ckp_su, ite_lt_t, ite_lt_f, ite_le_t, ite_le_f, ite_eq_t, ite_eq_f, ck_inb, nI_add, sb_nI, mu_nI, nI_clamp, sO_at, sO_sO, Nat.add_sub_cancel, Nat.zero_add, Nat.add_zero, li_0, li_1, li_2, li_3, li_4, li_5, li_6, li_7, li_8, li_9, li_10, li_11, li_12, li_16, li_20, li_24, li_31, li_32, li_48, li_49, li_73, li_74, li_75, li_97, li_98, li_99, li_100, li_101, li_109, li_110, li_255, li_680, li_700, li_9999, li_65536, li_65537]
theorem x_cd0 {x y : Int32} (h : (x < nI 0 ∨ ¬ x < nI 0 ∧ nI 65536 < x) ∨ ((∃ z, z ≤ 65536 ∧ x = nI z) ∧ (y < nI 0 ∨ ¬ y < nI 0 ∧ nI 100 < y))) : fX9_canDraw w x y = some (nI 0, w) := by
  unfold fX9_canDraw
  rcases h with (h | ⟨h, h2⟩) | ⟨⟨z, hz, rfl⟩, h | ⟨h, h2⟩⟩
  · exact if_pos h
  · exact (if_neg h).trans (if_pos h2)
  · simp (disch := omega) only [↓mo_1, ↓mo_2, ad_m1, ite_m1_lt, ite_m2_lt, ite_le_m1, ite_eq_m1, ite_eq_m2, ite_m1_m1, ite_m2_m2, ite_T, ite_F, ite_nz, ite_zz, ite_m1_le, ite_m1_eq, oi_none, oi_some, ob_some, lw_def, ck_true, ckp_su, ite_lt_t, ite_lt_f, ite_le_t, ite_le_f, ite_eq_t, ite_eq_f, ck_inb, nI_add, sb_nI, mu_nI, nI_clamp, sO_at, sO_sO, Nat.add_sub_cancel, Nat.zero_add, Nat.add_zero, li_0, li_1, li_2, li_3, li_4, li_5, li_6, li_7, li_8, li_9, li_10, li_11, li_12, li_16, li_20, li_24, li_31, li_32, li_48, li_49, li_73, li_74, li_75, li_97, li_98, li_99, li_100, li_101, li_109, li_110, li_255, li_680, li_700, li_9999, li_65536, li_65537]
    exact if_pos h
  · simp (disch := omega) only [↓mo_1, ↓mo_2, ad_m1, ite_m1_lt, ite_m2_lt, ite_le_m1, ite_eq_m1, ite_eq_m2, ite_m1_m1, ite_m2_m2, ite_T, ite_F, ite_nz, ite_zz, ite_m1_le, ite_m1_eq, oi_none, oi_some, ob_some, lw_def, ck_true, ckp_su, ite_lt_t, ite_lt_f, ite_le_t, ite_le_f, ite_eq_t, ite_eq_f, ck_inb, nI_add, sb_nI, mu_nI, nI_clamp, sO_at, sO_sO, Nat.add_sub_cancel, Nat.zero_add, Nat.add_zero, li_0, li_1, li_2, li_3, li_4, li_5, li_6, li_7, li_8, li_9, li_10, li_11, li_12, li_16, li_20, li_24, li_31, li_32, li_48, li_49, li_73, li_74, li_75, li_97, li_98, li_99, li_100, li_101, li_109, li_110, li_255, li_680, li_700, li_9999, li_65536, li_65537]
    exact (if_neg h).trans (if_pos h2)
theorem m_rd1 {z n : Nat} (hz : z ≤ 65536) (hn : n ≤ 100) : fX11_refusesDraw nd w (nI 1) (nI z) (nI n) = some (nI 0, w) := by
  unfold fX11_refusesDraw
  simp (disch := omega) only [↓mo_1, ↓mo_2, ad_m1, ite_m1_lt, ite_m2_lt, ite_le_m1, ite_eq_m1, ite_eq_m2, ite_m1_m1, ite_m2_m2, ite_T, ite_F, ite_nz, ite_zz, ite_m1_le, ite_m1_eq, oi_none, oi_some, ob_some, lw_def, ck_true, ckp_su, ite_lt_t, ite_lt_f, ite_le_t, ite_le_f, ite_eq_t, ite_eq_f, ck_inb, nI_add, sb_nI, mu_nI, nI_clamp, sO_at, sO_sO, Nat.add_sub_cancel, Nat.zero_add, Nat.add_zero, li_0, li_1, li_2, li_3, li_4, li_5, li_6, li_7, li_8, li_9, li_10, li_11, li_12, li_16, li_20, li_24, li_31, li_32, li_48, li_49, li_73, li_74, li_75, li_97, li_98, li_99, li_100, li_101, li_109, li_110, li_255, li_680, li_700, li_9999, li_65536, li_65537, m_in1]
theorem m_rdn {x y : Int32} : fX11_refusesDraw nd w (nI 0) x y = some (nI 1, w) := by
  unfold fX11_refusesDraw
  simp (disch := omega) only [↓mo_1, ↓mo_2, ad_m1, ite_m1_lt, ite_m2_lt, ite_le_m1, ite_eq_m1, ite_eq_m2, ite_m1_m1, ite_m2_m2, ite_T, ite_F, ite_nz, ite_zz, ite_m1_le, ite_m1_eq, oi_none, oi_some, ob_some, lw_def, ck_true, ckp_su, ite_lt_t, ite_lt_f, ite_le_t, ite_le_f, ite_eq_t, ite_eq_f, ck_inb, nI_add, sb_nI, mu_nI, nI_clamp, sO_at, sO_sO, Nat.add_sub_cancel, Nat.zero_add, Nat.add_zero, li_0, li_1, li_2, li_3, li_4, li_5, li_6, li_7, li_8, li_9, li_10, li_11, li_12, li_16, li_20, li_24, li_31, li_32, li_48, li_49, li_73, li_74, li_75, li_97, li_98, li_99, li_100, li_101, li_109, li_110, li_255, li_680, li_700, li_9999, li_65536, li_65537]
theorem m_rd0 {x y : Int32} (h : (x < nI 0 ∨ ¬ x < nI 0 ∧ nI 65536 < x) ∨ ((∃ z, z ≤ 65536 ∧ x = nI z) ∧ (y < nI 0 ∨ ¬ y < nI 0 ∧ nI 100 < y))) : fX11_refusesDraw nd w (nI 1) x y = some (nI 2, w) := by
  unfold fX11_refusesDraw
  rcases h with h | ⟨⟨z, hz, rfl⟩, h⟩
  · simp (disch := omega) only [↓mo_1, ↓mo_2, ad_m1, ite_m1_lt, ite_m2_lt, ite_le_m1, ite_eq_m1, ite_eq_m2, ite_m1_m1, ite_m2_m2, ite_T, ite_F, ite_nz, ite_zz, ite_m1_le, ite_m1_eq, oi_none, oi_some, ob_some, lw_def, ck_true, ckp_su, ite_lt_t, ite_lt_f, ite_le_t, ite_le_f, ite_eq_t, ite_eq_f, ck_inb, nI_add, sb_nI, mu_nI, nI_clamp, sO_at, sO_sO, Nat.add_sub_cancel, Nat.zero_add, Nat.add_zero, li_0, li_1, li_2, li_3, li_4, li_5, li_6, li_7, li_8, li_9, li_10, li_11, li_12, li_16, li_20, li_24, li_31, li_32, li_48, li_49, li_73, li_74, li_75, li_97, li_98, li_99, li_100, li_101, li_109, li_110, li_255, li_680, li_700, li_9999, li_65536, li_65537, m_inO h]
  · simp (disch := omega) only [↓mo_1, ↓mo_2, ad_m1, ite_m1_lt, ite_m2_lt, ite_le_m1, ite_eq_m1, ite_eq_m2, ite_m1_m1, ite_m2_m2, ite_T, ite_F, ite_nz, ite_zz, ite_m1_le, ite_m1_eq, oi_none, oi_some, ob_some, lw_def, ck_true, ckp_su, ite_lt_t, ite_lt_f, ite_le_t, ite_le_f, ite_eq_t, ite_eq_f, ck_inb, nI_add, sb_nI, mu_nI, nI_clamp, sO_at, sO_sO, Nat.add_sub_cancel, Nat.zero_add, Nat.add_zero, li_0, li_1, li_2, li_3, li_4, li_5, li_6, li_7, li_8, li_9, li_10, li_11, li_12, li_16, li_20, li_24, li_31, li_32, li_48, li_49, li_73, li_74, li_75, li_97, li_98, li_99, li_100, li_101, li_109, li_110, li_255, li_680, li_700, li_9999, li_65536, li_65537, m_in1, m_inO h]
theorem rngD (x y : Int32) : (∃ z n, z ≤ 65536 ∧ n ≤ 100 ∧ x = nI z ∧ y = nI n) ∨ ((x < nI 0 ∨ ¬ x < nI 0 ∧ nI 65536 < x) ∨ ((∃ z, z ≤ 65536 ∧ x = nI z) ∧ (y < nI 0 ∨ ¬ y < nI 0 ∧ nI 100 < y))) := by
  rcases rng2 x (show 0 < 2 ^ 31 by omega) (show 65536 < 2 ^ 31 by omega) with ⟨z, -, hz, hx⟩ | hx
  · rcases rng2 y (show 0 < 2 ^ 31 by omega) (show 100 < 2 ^ 31 by omega) with ⟨n, -, hn, hy⟩ | hy
    · exact Or.inl ⟨z, n, hz, hn, hx, hy⟩
    · exact Or.inr (Or.inr ⟨⟨z, hz, hx⟩, hy⟩)
  · exact Or.inr (Or.inl hx)
theorem q_drawnRead {x y z : Int32} : Qy (fun w => fX9_drawnRead w x y z) (fun nd w => fX11_drawnRead nd w x y z) := by
  intro d hd
  cases d with
  | none =>
    refine ⟨m1, 1, by omega, by omega, fun w q hq hp hX => ⟨w, XS.rf, ?_⟩, fun nd w w1 e hM => ⟨w1, SM.rf, ?_⟩⟩
    · unfold fX9_drawnRead
      simp (disch := omega) only [↓mo_1, ↓mo_2, ad_m1, ite_m1_lt, ite_m2_lt, ite_le_m1, ite_eq_m1, ite_eq_m2, ite_m1_m1, ite_m2_m2, ite_T, ite_F, ite_nz, ite_zz, ite_m1_le, ite_m1_eq, oi_none, oi_some, ob_some, lw_def, ck_true, ckp_su, ite_lt_t, ite_lt_f, ite_le_t, ite_le_f, ite_eq_t, ite_eq_f, ck_inb, nI_add, sb_nI, mu_nI, nI_clamp, sO_at, sO_sO, Nat.add_sub_cancel, Nat.zero_add, Nat.add_zero, li_0, li_1, li_2, li_3, li_4, li_5, li_6, li_7, li_8, li_9, li_10, li_11, li_12, li_16, li_20, li_24, li_31, li_32, li_48, li_49, li_73, li_74, li_75, li_97, li_98, li_99, li_100, li_101, li_109, li_110, li_255, li_680, li_700, li_9999, li_65536, li_65537, x_hT0 hp hq hX.1.2.1 (n_z x), x_refuse]
    · unfold fX11_drawnRead
      simp (disch := omega) only [↓mo_1, ↓mo_2, ad_m1, ite_m1_lt, ite_m2_lt, ite_le_m1, ite_eq_m1, ite_eq_m2, ite_m1_m1, ite_m2_m2, ite_T, ite_F, ite_nz, ite_zz, ite_m1_le, ite_m1_eq, oi_none, oi_some, ob_some, lw_def, ck_true, ckp_su, ite_lt_t, ite_lt_f, ite_le_t, ite_le_f, ite_eq_t, ite_eq_f, ck_inb, nI_add, sb_nI, mu_nI, nI_clamp, sO_at, sO_sO, Nat.add_sub_cancel, Nat.zero_add, Nat.add_zero, li_0, li_1, li_2, li_3, li_4, li_5, li_6, li_7, li_8, li_9, li_10, li_11, li_12, li_16, li_20, li_24, li_31, li_32, li_48, li_49, li_73, li_74, li_75, li_97, li_98, li_99, li_100, li_101, li_109, li_110, li_255, li_680, li_700, li_9999, li_65536, li_65537, ← e, m_iT0 (show (w1 11 0).2.2.1 3 = 0 from hM), m_rdn, m_refused]
  | some v =>
    obtain ⟨D, T, s, h, im⟩ := v
    obtain ⟨hD, h6, hT, hW, hQ, hH, hI⟩ := hd
    have h48 := hD.2.2.2.1
    rcases rng x (show dnt D < 2 ^ 31 by omega) with ⟨t, ht, rfl⟩ | hx
    · rcases rngD y z with ⟨a, n, ha, hn, rfl, rfl⟩ | hy
      · refine ⟨vaS (tnN D (a, dsS D s) n).2 t, 0, by omega, by omega, fun w q hq hp hX => ?_, fun nd w w1 e ⟨d, b1, b2, b3, b4, b5, b6⟩ => ?_⟩
        · obtain ⟨od, o, e1, e2⟩ := x_tryDraws (z := a) (n := n) hD hW hQ hX.1 hX.2.2.1 hq hp (by omega) hn
          refine ⟨W3 w od o, XS.w3, ?_⟩
          have e3 := x_valueOf (w := sO w 0 0 od) (j := 1) hD (tnN_ok hD (ds_ok (D := D) (show a < 65537 by omega) hW hQ) n).2.1 e2 (show t < 48 by omega)
          have e3' : fX7_valueOf 1 (W3 w od o) (nI t) = some (vaS (tnN D (a, dsS D s) n).2 t, W3 w od o) := e3
          unfold fX9_drawnRead
          simp (disch := omega) only [↓mo_1, ↓mo_2, ad_m1, ite_m1_lt, ite_m2_lt, ite_le_m1, ite_eq_m1, ite_eq_m2, ite_m1_m1, ite_m2_m2, ite_T, ite_F, ite_nz, ite_zz, ite_m1_le, ite_m1_eq, oi_none, oi_some, ob_some, lw_def, ck_true, ckp_su, ite_lt_t, ite_lt_f, ite_le_t, ite_le_f, ite_eq_t, ite_eq_f, ck_inb, nI_add, sb_nI, mu_nI, nI_clamp, sO_at, sO_sO, Nat.add_sub_cancel, Nat.zero_add, Nat.add_zero, li_0, li_1, li_2, li_3, li_4, li_5, li_6, li_7, li_8, li_9, li_10, li_11, li_12, li_16, li_20, li_24, li_31, li_32, li_48, li_49, li_73, li_74, li_75, li_97, li_98, li_99, li_100, li_101, li_109, li_110, li_255, li_680, li_700, li_9999, li_65536, li_65537, x_hT1 hp hq hX.1.2.2.2.1, x_cd1, e1, e3', x_accept]
        · obtain ⟨w2, g, c1, c2, c3, c4⟩ := m_drawnTurns (z := a) (n := n) hD b2 b1 b3 b4.1 hW hQ b5 (by omega) hn
          refine ⟨mX w2 g, c3.tr SM.x, ?_⟩
          unfold fX11_drawnRead
          simp (disch := omega) only [↓mo_1, ↓mo_2, ad_m1, ite_m1_lt, ite_m2_lt, ite_le_m1, ite_eq_m1, ite_eq_m2, ite_m1_m1, ite_m2_m2, ite_T, ite_F, ite_nz, ite_zz, ite_m1_le, ite_m1_eq, oi_none, oi_some, ob_some, lw_def, ck_true, ckp_su, ite_lt_t, ite_lt_f, ite_le_t, ite_le_f, ite_eq_t, ite_eq_f, ck_inb, nI_add, sb_nI, mu_nI, nI_clamp, sO_at, sO_sO, Nat.add_sub_cancel, Nat.zero_add, Nat.add_zero, li_0, li_1, li_2, li_3, li_4, li_5, li_6, li_7, li_8, li_9, li_10, li_11, li_12, li_16, li_20, li_24, li_31, li_32, li_48, li_49, li_73, li_74, li_75, li_97, li_98, li_99, li_100, li_101, li_109, li_110, li_255, li_680, li_700, li_9999, li_65536, li_65537, ← e, m_iT1 b1 b2 b4.1, m_rd1, c1, m_readOf hD (tnN_ok hD (ds_ok (D := D) (show a < 65537 by omega) hW hQ) n).2.1 c4, m_good]
      · refine ⟨m1, 2, by omega, by omega, fun w q hq hp hX => ⟨w, XS.rf, ?_⟩, fun nd w w1 e ⟨d, b1, b2, b3, b4, b5, b6⟩ => ⟨w1, SM.rf, ?_⟩⟩
        · unfold fX9_drawnRead
          simp (disch := omega) only [↓mo_1, ↓mo_2, ad_m1, ite_m1_lt, ite_m2_lt, ite_le_m1, ite_eq_m1, ite_eq_m2, ite_m1_m1, ite_m2_m2, ite_T, ite_F, ite_nz, ite_zz, ite_m1_le, ite_m1_eq, oi_none, oi_some, ob_some, lw_def, ck_true, ckp_su, ite_lt_t, ite_lt_f, ite_le_t, ite_le_f, ite_eq_t, ite_eq_f, ck_inb, nI_add, sb_nI, mu_nI, nI_clamp, sO_at, sO_sO, Nat.add_sub_cancel, Nat.zero_add, Nat.add_zero, li_0, li_1, li_2, li_3, li_4, li_5, li_6, li_7, li_8, li_9, li_10, li_11, li_12, li_16, li_20, li_24, li_31, li_32, li_48, li_49, li_73, li_74, li_75, li_97, li_98, li_99, li_100, li_101, li_109, li_110, li_255, li_680, li_700, li_9999, li_65536, li_65537, x_hT1 hp hq hX.1.2.2.2.1, x_cd0 hy, x_refuse]
        · unfold fX11_drawnRead
          simp (disch := omega) only [↓mo_1, ↓mo_2, ad_m1, ite_m1_lt, ite_m2_lt, ite_le_m1, ite_eq_m1, ite_eq_m2, ite_m1_m1, ite_m2_m2, ite_T, ite_F, ite_nz, ite_zz, ite_m1_le, ite_m1_eq, oi_none, oi_some, ob_some, lw_def, ck_true, ckp_su, ite_lt_t, ite_lt_f, ite_le_t, ite_le_f, ite_eq_t, ite_eq_f, ck_inb, nI_add, sb_nI, mu_nI, nI_clamp, sO_at, sO_sO, Nat.add_sub_cancel, Nat.zero_add, Nat.add_zero, li_0, li_1, li_2, li_3, li_4, li_5, li_6, li_7, li_8, li_9, li_10, li_11, li_12, li_16, li_20, li_24, li_31, li_32, li_48, li_49, li_73, li_74, li_75, li_97, li_98, li_99, li_100, li_101, li_109, li_110, li_255, li_680, li_700, li_9999, li_65536, li_65537, ← e, m_iT1 b1 b2 b4.1, m_rd0 hy, m_refused]
    · refine ⟨m1, 1, by omega, by omega, fun w q hq hp hX => ⟨w, XS.rf, ?_⟩, fun nd w w1 e ⟨d, b1, b2, b3, b4, b5, b6⟩ => ⟨w1, SM.rf, ?_⟩⟩
      · unfold fX9_drawnRead
        simp (disch := omega) only [↓mo_1, ↓mo_2, ad_m1, ite_m1_lt, ite_m2_lt, ite_le_m1, ite_eq_m1, ite_eq_m2, ite_m1_m1, ite_m2_m2, ite_T, ite_F, ite_nz, ite_zz, ite_m1_le, ite_m1_eq, oi_none, oi_some, ob_some, lw_def, ck_true, ckp_su, ite_lt_t, ite_lt_f, ite_le_t, ite_le_f, ite_eq_t, ite_eq_f, ck_inb, nI_add, sb_nI, mu_nI, nI_clamp, sO_at, sO_sO, Nat.add_sub_cancel, Nat.zero_add, Nat.add_zero, li_0, li_1, li_2, li_3, li_4, li_5, li_6, li_7, li_8, li_9, li_10, li_11, li_12, li_16, li_20, li_24, li_31, li_32, li_48, li_49, li_73, li_74, li_75, li_97, li_98, li_99, li_100, li_101, li_109, li_110, li_255, li_680, li_700, li_9999, li_65536, li_65537, x_hT0 hp hq hX.1.2.2.2.1 hx, x_refuse]
      · unfold fX11_drawnRead
        simp (disch := omega) only [↓mo_1, ↓mo_2, ad_m1, ite_m1_lt, ite_m2_lt, ite_le_m1, ite_eq_m1, ite_eq_m2, ite_m1_m1, ite_m2_m2, ite_T, ite_F, ite_nz, ite_zz, ite_m1_le, ite_m1_eq, oi_none, oi_some, ob_some, lw_def, ck_true, ckp_su, ite_lt_t, ite_lt_f, ite_le_t, ite_le_f, ite_eq_t, ite_eq_f, ck_inb, nI_add, sb_nI, mu_nI, nI_clamp, sO_at, sO_sO, Nat.add_sub_cancel, Nat.zero_add, Nat.add_zero, li_0, li_1, li_2, li_3, li_4, li_5, li_6, li_7, li_8, li_9, li_10, li_11, li_12, li_16, li_20, li_24, li_31, li_32, li_48, li_49, li_73, li_74, li_75, li_97, li_98, li_99, li_100, li_101, li_109, li_110, li_255, li_680, li_700, li_9999, li_65536, li_65537, ← e, m_iT b1 b2 b4.1 hx, m_rdn, m_refused]
theorem q_drawnWrites {y z : Int32} : Qy (fun w => fX9_drawnWrites w y z) (fun nd w => fX11_drawnWrites nd w y z) := by
  intro d hd
  cases d with
  | none =>
    refine ⟨m1, 1, by omega, by omega, fun w q hq hp hX => ⟨w, XS.rf, ?_⟩, fun nd w w1 e hM => ⟨w1, SM.rf, ?_⟩⟩
    · unfold fX9_drawnWrites
      simp (disch := omega) only [↓mo_1, ↓mo_2, ad_m1, ite_m1_lt, ite_m2_lt, ite_le_m1, ite_eq_m1, ite_eq_m2, ite_m1_m1, ite_m2_m2, ite_T, ite_F, ite_nz, ite_zz, ite_m1_le, ite_m1_eq, oi_none, oi_some, ob_some, lw_def, ck_true, ckp_su, ite_lt_t, ite_lt_f, ite_le_t, ite_le_f, ite_eq_t, ite_eq_f, ck_inb, nI_add, sb_nI, mu_nI, nI_clamp, sO_at, sO_sO, Nat.add_sub_cancel, Nat.zero_add, Nat.add_zero, li_0, li_1, li_2, li_3, li_4, li_5, li_6, li_7, li_8, li_9, li_10, li_11, li_12, li_16, li_20, li_24, li_31, li_32, li_48, li_49, li_73, li_74, li_75, li_97, li_98, li_99, li_100, li_101, li_109, li_110, li_255, li_680, li_700, li_9999, li_65536, li_65537, x_hD0 hp hq hX.1.1, x_refuse]
    · unfold fX11_drawnWrites fX11_drawnWrites_18
      simp (disch := omega) only [↓mo_1, ↓mo_2, ad_m1, ite_m1_lt, ite_m2_lt, ite_le_m1, ite_eq_m1, ite_eq_m2, ite_m1_m1, ite_m2_m2, ite_T, ite_F, ite_nz, ite_zz, ite_m1_le, ite_m1_eq, oi_none, oi_some, ob_some, lw_def, ck_true, ckp_su, ite_lt_t, ite_lt_f, ite_le_t, ite_le_f, ite_eq_t, ite_eq_f, ck_inb, nI_add, sb_nI, mu_nI, nI_clamp, sO_at, sO_sO, Nat.add_sub_cancel, Nat.zero_add, Nat.add_zero, li_0, li_1, li_2, li_3, li_4, li_5, li_6, li_7, li_8, li_9, li_10, li_11, li_12, li_16, li_20, li_24, li_31, li_32, li_48, li_49, li_73, li_74, li_75, li_97, li_98, li_99, li_100, li_101, li_109, li_110, li_255, li_680, li_700, li_9999, li_65536, li_65537, ← e, show (w1 11 0).2.2.1 3 = 0 from hM, m_rdn, m_refused]
  | some v =>
    obtain ⟨D, T, s, h, im⟩ := v
    obtain ⟨hD, h6, hT, hW, hQ, hH, hI⟩ := hd
    have hb1 := hD.1
    rcases rngD y z with ⟨a, n, ha, hn, rfl, rfl⟩ | hy
    · refine ⟨sct (tnN D (a, dsS D s) n).2 - sct s, 0, by omega, by omega, fun w q hq hp hX => ?_, fun nd w w1 e ⟨d, b1, b2, b3, b4, b5, b6⟩ => ?_⟩
      · obtain ⟨od, o, e1, e2⟩ := x_tryDraws (z := a) (n := n) hD hW hQ hX.1 hX.2.2.1 hq hp (by omega) hn
        refine ⟨W3 w od o, XS.w3, ?_⟩
        have q1 : (W3 w od o 7 1).1 9 = sct (tnN D (a, dsS D s) n).2 := by unfold W3; rw [sO_at]; exact e2.2.2.2.2.2.2.2.2.2
        have q2 : (W3 w od o 7 0).1 9 = sct s := by rw [W3_c (by omega) (by decide)]; exact hX.2.2.1.2.2.2.2.2.2.2.2.2
        unfold fX9_drawnWrites
        simp (disch := omega) only [↓mo_1, ↓mo_2, ad_m1, ite_m1_lt, ite_m2_lt, ite_le_m1, ite_eq_m1, ite_eq_m2, ite_m1_m1, ite_m2_m2, ite_T, ite_F, ite_nz, ite_zz, ite_m1_le, ite_m1_eq, oi_none, oi_some, ob_some, lw_def, ck_true, ckp_su, ite_lt_t, ite_lt_f, ite_le_t, ite_le_f, ite_eq_t, ite_eq_f, ck_inb, nI_add, sb_nI, mu_nI, nI_clamp, sO_at, sO_sO, Nat.add_sub_cancel, Nat.zero_add, Nat.add_zero, li_0, li_1, li_2, li_3, li_4, li_5, li_6, li_7, li_8, li_9, li_10, li_11, li_12, li_16, li_20, li_24, li_31, li_32, li_48, li_49, li_73, li_74, li_75, li_97, li_98, li_99, li_100, li_101, li_109, li_110, li_255, li_680, li_700, li_9999, li_65536, li_65537, x_hD1 hp hq hX.1.2.2.1 hD.1 (by omega), x_cd1, e1, q1, q2, x_accept]
      · obtain ⟨w2, g, c1, c2, c3, c4⟩ := m_drawnTurns (z := a) (n := n) hD b2 b1 b3 b4.1 hW hQ b5 (by omega) hn
        refine ⟨mX w2 g, c3.tr SM.x, ?_⟩
        unfold fX11_drawnWrites fX11_drawnWrites_18
        simp (disch := omega) only [↓mo_1, ↓mo_2, ad_m1, ite_m1_lt, ite_m2_lt, ite_le_m1, ite_eq_m1, ite_eq_m2, ite_m1_m1, ite_m2_m2, ite_T, ite_F, ite_nz, ite_zz, ite_m1_le, ite_m1_eq, oi_none, oi_some, ob_some, lw_def, ck_true, ckp_su, ite_lt_t, ite_lt_f, ite_le_t, ite_le_f, ite_eq_t, ite_eq_f, ck_inb, nI_add, sb_nI, mu_nI, nI_clamp, sO_at, sO_sO, Nat.add_sub_cancel, Nat.zero_add, Nat.add_zero, li_0, li_1, li_2, li_3, li_4, li_5, li_6, li_7, li_8, li_9, li_10, li_11, li_12, li_16, li_20, li_24, li_31, li_32, li_48, li_49, li_73, li_74, li_75, li_97, li_98, li_99, li_100, li_101, li_109, li_110, li_255, li_680, li_700, li_9999, li_65536, li_65537, ← e, b1, m_rd1, c1, mX_i, c2, m_good]
    · refine ⟨m1, 2, by omega, by omega, fun w q hq hp hX => ⟨w, XS.rf, ?_⟩, fun nd w w1 e ⟨d, b1, b2, b3, b4, b5, b6⟩ => ⟨w1, SM.rf, ?_⟩⟩
      · unfold fX9_drawnWrites
        simp (disch := omega) only [↓mo_1, ↓mo_2, ad_m1, ite_m1_lt, ite_m2_lt, ite_le_m1, ite_eq_m1, ite_eq_m2, ite_m1_m1, ite_m2_m2, ite_T, ite_F, ite_nz, ite_zz, ite_m1_le, ite_m1_eq, oi_none, oi_some, ob_some, lw_def, ck_true, ckp_su, ite_lt_t, ite_lt_f, ite_le_t, ite_le_f, ite_eq_t, ite_eq_f, ck_inb, nI_add, sb_nI, mu_nI, nI_clamp, sO_at, sO_sO, Nat.add_sub_cancel, Nat.zero_add, Nat.add_zero, li_0, li_1, li_2, li_3, li_4, li_5, li_6, li_7, li_8, li_9, li_10, li_11, li_12, li_16, li_20, li_24, li_31, li_32, li_48, li_49, li_73, li_74, li_75, li_97, li_98, li_99, li_100, li_101, li_109, li_110, li_255, li_680, li_700, li_9999, li_65536, li_65537, x_hD1 hp hq hX.1.2.2.1 hD.1 (by omega), x_cd0 hy, x_refuse]
      · unfold fX11_drawnWrites fX11_drawnWrites_18
        simp (disch := omega) only [↓mo_1, ↓mo_2, ad_m1, ite_m1_lt, ite_m2_lt, ite_le_m1, ite_eq_m1, ite_eq_m2, ite_m1_m1, ite_m2_m2, ite_T, ite_F, ite_nz, ite_zz, ite_m1_le, ite_m1_eq, oi_none, oi_some, ob_some, lw_def, ck_true, ckp_su, ite_lt_t, ite_lt_f, ite_le_t, ite_le_f, ite_eq_t, ite_eq_f, ck_inb, nI_add, sb_nI, mu_nI, nI_clamp, sO_at, sO_sO, Nat.add_sub_cancel, Nat.zero_add, Nat.add_zero, li_0, li_1, li_2, li_3, li_4, li_5, li_6, li_7, li_8, li_9, li_10, li_11, li_12, li_16, li_20, li_24, li_31, li_32, li_48, li_49, li_73, li_74, li_75, li_97, li_98, li_99, li_100, li_101, li_109, li_110, li_255, li_680, li_700, li_9999, li_65536, li_65537, ← e, b1, m_rd0 hy, m_refused]
end DRM
