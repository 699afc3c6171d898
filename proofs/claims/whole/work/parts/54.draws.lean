/-! ===== draws ===== -/
def drz (z : Nat) : Nat := (75 * z + 74) % 65537
theorem drz_lt {z : Nat} : drz z < 65537 := Nat.mod_lt _ (by omega)
/-- one turn: the seed and the state behind it -/
def tnS (D : Dk) (p : Nat × Sd) : Nat × Sd :=
  let s1 := adS D p.2 (drz p.1 % dnt D) (nI (drz (drz p.1) % 100))
  if drz (drz (drz p.1)) % 8 = 0 then
    match nbS D s1 with
    | some b => (drz (drz (drz (drz p.1))), rvS D (ctS D s1 b (drz (drz (drz (drz p.1))) % (2 * D.2.1 b + 3))))
    | none => (drz (drz (drz p.1)), s1)
  else (drz (drz (drz p.1)), s1)
def tnN (D : Dk) (p : Nat × Sd) : Nat → Nat × Sd
  | 0 => p
  | k + 1 => tnS D (tnN D p k)
/-- fit for a turn -/
def TOK (D : Dk) (p : Nat × Sd) : Prop := p.1 < 65537 ∧ WFS D p.2 ∧ jn p.2 = 0 ∧ jf p.2 = false ∧ sdn p.2 = false
theorem TOK_mk {D : Dk} {z : Nat} {s : Sd} (h1 : z < 65537) (h2 : WFS D s) (h3 : jn s = 0) (h4 : jf s = false) (h5 : sdn s = false) : TOK D (z, s) := ⟨h1, h2, h3, h4, h5⟩
theorem nb_ne {D : Dk} {s : Sd} (h : 0 < sn s) : ∃ b, nbS D s = some b := by
  unfold nbS
  rw [if_neg (by omega)]
  by_cases c : D.2.2.2.2 = true
  · exact ⟨_, if_pos c⟩
  · exact ⟨_, if_neg c⟩
theorem tn_c {D : Dk} {p : Nat × Sd} {b : Nat} (h8 : drz (drz (drz p.1)) % 8 = 0) (hb : nbS D (adS D p.2 (drz p.1 % dnt D) (nI (drz (drz p.1) % 100))) = some b) : tnS D p = (drz (drz (drz (drz p.1))), rvS D (ctS D (adS D p.2 (drz p.1 % dnt D) (nI (drz (drz p.1) % 100))) b (drz (drz (drz (drz p.1))) % (2 * D.2.1 b + 3)))) := by
  unfold tnS
  simp only
  rw [if_pos h8, hb]
theorem tn_n {D : Dk} {p : Nat × Sd} (h8 : ¬ drz (drz (drz p.1)) % 8 = 0) : tnS D p = (drz (drz (drz p.1)), adS D p.2 (drz p.1 % dnt D) (nI (drz (drz p.1) % 100))) := if_neg h8
theorem tn_ok {D : Dk} {p : Nat × Sd} (hD : WFD D) (h : TOK D p) : TOK D (tnS D p) := by
  obtain ⟨h1, h2, h3, h4, h5⟩ := h
  have hn := dnt_pos hD
  obtain ⟨a1, a2, a3, a4, a5⟩ := ad_wf (t := drz p.1 % dnt D) (x := nI (drz (drz p.1) % 100)) hD h2 h3 h4 (Nat.mod_lt _ (by omega))
  by_cases c : drz (drz (drz p.1)) % 8 = 0
  · obtain ⟨b, hb⟩ := nb_ne (D := D) a5
    rw [tn_c c hb]
    have hbl := (nbS_lt hD a1 hb).1
    have hQ : QT (adS D p.2 (drz p.1 % dnt D) (nI (drz (drz p.1) % 100))) := fun _ => ⟨a2, a3⟩
    have := Nat.mod_lt (drz (drz (drz (drz p.1)))) (show 2 * D.2.1 b + 3 > 0 by omega)
    obtain ⟨c1, c2, c3, c4⟩ := rv_wf (ct_wf2 hD a1 hQ (a4.trans h5) hbl (show drz (drz (drz (drz p.1))) % (2 * D.2.1 b + 3) ≤ 2 * D.2.1 b + 2 by omega))
    exact TOK_mk drz_lt c1 c2 c3 c4
  · rw [tn_n c]
    exact TOK_mk drz_lt a1 a2 a3 (a4.trans h5)
theorem tnN_ok {D : Dk} {p : Nat × Sd} (hD : WFD D) (h : TOK D p) : ∀ k, TOK D (tnN D p k)
  | 0 => h
  | k + 1 => tn_ok hD (tnN_ok hD h k)
/-! the class -/
def W3 (w : Wd) (od o : Ob) : Wd := sO (sO w 0 0 od) 7 1 o
section DRX
variable {w : Wd} {od o : Ob} {q : Nat} {D : Dk} {s : Sd}
theorem W3_0 : W3 w od o 0 0 = od := by unfold W3; rw [sO_nc (by decide), sO_at]
theorem W3_c {c j : Nat} (h7 : ¬ (c = 7 ∧ j = 1)) (h0 : c ≠ 0) : W3 w od o c j = w c j := by unfold W3; rw [sO_ne h7, sO_nc h0]
theorem W3_I {v : Int32} : sI (W3 w od o) 0 0 0 v = W3 w (oI od 0 v) o := by
  unfold sI
  rw [W3_0]
  unfold W3
  funext a b
  by_cases h : a = 0 ∧ b = 0
  · obtain ⟨rfl, rfl⟩ := h
    rw [sO_at, sO_nc (by decide), sO_at]
  · rw [sO_ne h]
    by_cases h7 : a = 7 ∧ b = 1
    · obtain ⟨rfl, rfl⟩ := h7
      rw [sO_at, sO_at]
    · rw [sO_ne h7, sO_ne h7, sO_ne h, sO_ne h]
theorem x_draw {z n : Nat} (hz : od.1 0 = nI z) (hz2 : z < 65537) (hn : 1 ≤ n) (hn2 : n < 2 ^ 31) : fX0_draw (W3 w od o) (nI n) = some (nI (drz z % n), W3 w (oI od 0 (nI (drz z))) o) := by
  have h1 := @drz_lt z
  have e1 : nI 75 * nI z + nI 74 - (nI 75 * nI z + nI 74) / nI 65537 * nI 65537 = nI (drz z) := by
    rw [pk_mul, nI_add, pk_rem (by omega) (by omega) (by omega)]
    rfl
  unfold fX0_draw
  simp (disch := omega) only [↓mo_1, ↓mo_2, ad_m1, ite_m1_lt, ite_m2_lt, ite_le_m1, ite_eq_m1, ite_eq_m2, ite_m1_m1, ite_m2_m2, ite_T, ite_F, ite_nz, ite_zz, ite_m1_le, ite_m1_eq, oi_none, oi_some, ob_some, lw_def, ck_true, ckp_su, ite_lt_t, ite_lt_f, ite_le_t, ite_le_f, ite_eq_t, ite_eq_f, ck_inb, nI_add, nI_clamp, sO_at, sO_sO, Nat.add_sub_cancel, Nat.zero_add, Nat.add_zero, li_0, li_1, li_2, li_3, li_4, li_5, li_6, li_7, li_8, li_9, li_10, li_11, li_12, li_16, li_20, li_24, li_31, li_32, li_48, li_49, li_73, li_74, li_75, li_97, li_98, li_99, li_100, li_101, li_109, li_110, li_255, li_680, li_700, li_9999, li_65536, li_65537, W3_0, hz, e1, W3_I, oI_a, pk_rem]
theorem x_takeTurn {p : Nat × Sd} (hD : WFD D) (hS : RSh (w 5 q) D) (hp : TOK D p) (hz : od.1 0 = nI p.1) (hR : RX o p.2) : ∃ od2 o2 : Ob, fX0_takeTurn q 1 (W3 w od o) = some ((), W3 w od2 o2) ∧ od2.1 0 = nI (tnS D p).1 ∧ RX o2 (tnS D p).2 := by
  obtain ⟨h1, h2, h3, h4, h5⟩ := hp
  have hn := dnt_pos hD
  have h48 := hD.2.2.2.1
  have hb24 := hD.2.1
  have l1 := @drz_lt p.1
  have l2 := @drz_lt (drz p.1)
  have l3 := @drz_lt (drz (drz p.1))
  have l4 := @drz_lt (drz (drz (drz p.1)))
  obtain ⟨a1, a2, a3, a4, a5⟩ := ad_wf (t := drz p.1 % dnt D) (x := nI (drz (drz p.1) % 100)) hD h2 h3 h4 (Nat.mod_lt _ (by omega))
  have hS2 : ∀ od : Ob, RSh ((sO w 0 0 od) 5 q) D := fun od => by rw [sO_nc (by decide)]; exact hS
  have hS3 : ∀ od o : Ob, RSh (W3 w od o 5 q) D := fun od o => by rw [W3_c (by omega) (by decide)]; exact hS
  have d1 := x_draw (w := w) (o := o) hz h1 hn (by omega)
  have d2 := x_draw (w := w) (o := o) (od := oI od 0 (nI (drz p.1))) (n := 100) oI_a l1 (by omega) (by omega)
  obtain ⟨o1, e1, e2, -⟩ := x_addEntry (w := sO w 0 0 (oI (oI od 0 (nI (drz p.1))) 0 (nI (drz (drz p.1))))) (j := 1) hD (hS2 _) h2 hR h3 h4 (t := drz p.1 % dnt D) (x := nI (drz (drz p.1) % 100))
  have e1' : fX7_addEntry 1 q (W3 w (oI (oI od 0 (nI (drz p.1))) 0 (nI (drz (drz p.1)))) o) (nI (drz p.1 % dnt D)) (nI (drz (drz p.1) % 100)) = some ((), W3 w (oI (oI od 0 (nI (drz p.1))) 0 (nI (drz (drz p.1)))) o1) := e1
  have d3 := x_draw (w := w) (o := o1) (od := oI (oI od 0 (nI (drz p.1))) 0 (nI (drz (drz p.1)))) (n := 8) oI_a l2 (by omega) (by omega)
  have h4' := (hS3 od o).2.2.2.1
  have lm := Nat.mod_lt (drz (drz (drz p.1))) (show 8 > 0 by omega)
  by_cases c : drz (drz (drz p.1)) % 8 = 0
  · obtain ⟨b, hb⟩ := nb_ne (D := D) a5
    have hbl := (nbS_lt hD a1 hb).1
    have h8 := (hD.2.2.1 b hbl).2
    have hQ : QT (adS D p.2 (drz p.1 % dnt D) (nI (drz (drz p.1) % 100))) := fun _ => ⟨a2, a3⟩
    have hk := Nat.mod_lt (drz (drz (drz (drz p.1)))) (show 2 * D.2.1 b + 3 > 0 by omega)
    rw [tn_c c hb]
    have n1 := x_nextBand (w := sO w 0 0 (oI (oI (oI od 0 (nI (drz p.1))) 0 (nI (drz (drz p.1)))) 0 (nI (drz (drz (drz p.1)))))) (j := 1) hD (hS2 _) a1 e2
    rw [hb, oi2_s] at n1
    have n1' : fX7_nextBand 1 q (W3 w (oI (oI (oI od 0 (nI (drz p.1))) 0 (nI (drz (drz p.1)))) 0 (nI (drz (drz (drz p.1))))) o1) = some (nI b, W3 w (oI (oI (oI od 0 (nI (drz p.1))) 0 (nI (drz (drz p.1)))) 0 (nI (drz (drz (drz p.1))))) o1) := n1
    have d4 := x_draw (w := w) (o := o1) (od := oI (oI (oI od 0 (nI (drz p.1))) 0 (nI (drz (drz p.1)))) 0 (nI (drz (drz (drz p.1))))) (n := 2 * D.2.1 b + 3) oI_a l3 (by omega) (by omega)
    obtain ⟨o2, f1, f2⟩ := x_cutPower (w := sO w 0 0 (oI (oI (oI (oI od 0 (nI (drz p.1))) 0 (nI (drz (drz p.1)))) 0 (nI (drz (drz (drz p.1))))) 0 (nI (drz (drz (drz (drz p.1))))))) (j := 1) hD (hS2 _) a1 e2 hbl (show drz (drz (drz (drz p.1))) % (2 * D.2.1 b + 3) ≤ 2 * D.2.1 b + 2 by omega) a2 a3
    have f1' : fX7_cutPower 1 q (W3 w (oI (oI (oI (oI od 0 (nI (drz p.1))) 0 (nI (drz (drz p.1)))) 0 (nI (drz (drz (drz p.1))))) 0 (nI (drz (drz (drz (drz p.1)))))) o1) (nI b) (nI (drz (drz (drz (drz p.1))) % (2 * D.2.1 b + 3))) = some ((), W3 w (oI (oI (oI (oI od 0 (nI (drz p.1))) 0 (nI (drz (drz p.1)))) 0 (nI (drz (drz (drz p.1))))) 0 (nI (drz (drz (drz (drz p.1)))))) o2) := f1
    obtain ⟨o3, g1, g2⟩ := x_comeBack (w := sO w 0 0 (oI (oI (oI (oI od 0 (nI (drz p.1))) 0 (nI (drz (drz p.1)))) 0 (nI (drz (drz (drz p.1))))) 0 (nI (drz (drz (drz (drz p.1))))))) (j := 1) hD (hS2 _) (ct_wf2 hD a1 hQ (a4.trans h5) hbl (by omega)) f2
    have g1' : fX7_comeBack 1 q (W3 w (oI (oI (oI (oI od 0 (nI (drz p.1))) 0 (nI (drz (drz p.1)))) 0 (nI (drz (drz (drz p.1))))) 0 (nI (drz (drz (drz (drz p.1)))))) o2) = some (_, W3 w (oI (oI (oI (oI od 0 (nI (drz p.1))) 0 (nI (drz (drz p.1)))) 0 (nI (drz (drz (drz p.1))))) 0 (nI (drz (drz (drz (drz p.1)))))) o3) := g1
    refine ⟨_, o3, ?_, oI_a (o := oI (oI (oI od 0 (nI (drz p.1))) 0 (nI (drz (drz p.1)))) 0 (nI (drz (drz (drz p.1))))), g2⟩
    unfold fX0_takeTurn
    rw [h4', d1, ob_some, li_100, d2, ob_some, e1', ob_some, li_8, d3, ob_some, c]
    simp (disch := omega) only [↓mo_1, ↓mo_2, ad_m1, ite_m1_lt, ite_m2_lt, ite_le_m1, ite_eq_m1, ite_eq_m2, ite_m1_m1, ite_m2_m2, ite_T, ite_F, ite_nz, ite_zz, ite_m1_le, ite_m1_eq, oi_none, oi_some, ob_some, lw_def, ck_true, ckp_su, ite_lt_t, ite_lt_f, ite_le_t, ite_le_f, ite_eq_t, ite_eq_f, ck_inb, nI_add, sb_nI, mu_nI, nI_clamp, sO_at, sO_sO, Nat.add_sub_cancel, Nat.zero_add, Nat.add_zero, li_0, li_1, li_2, li_3, li_4, li_5, li_6, li_7, li_8, li_9, li_10, li_11, li_12, li_16, li_20, li_24, li_31, li_32, li_48, li_49, li_73, li_74, li_75, li_97, li_98, li_99, li_100, li_101, li_109, li_110, li_255, li_680, li_700, li_9999, li_65536, li_65537, n1', x_stepsOf (hS3 _ _) hD hbl, d4, f1', g1']
  · rw [tn_n c]
    refine ⟨_, o1, ?_, oI_a (o := oI (oI od 0 (nI (drz p.1))) 0 (nI (drz (drz p.1)))), e2⟩
    unfold fX0_takeTurn
    rw [h4', d1, ob_some, li_100, d2, ob_some, e1', ob_some, li_8, d3, ob_some]
    simp (disch := omega) only [↓mo_1, ↓mo_2, ad_m1, ite_m1_lt, ite_m2_lt, ite_le_m1, ite_eq_m1, ite_eq_m2, ite_m1_m1, ite_m2_m2, ite_T, ite_F, ite_nz, ite_zz, ite_m1_le, ite_m1_eq, oi_none, oi_some, ob_some, lw_def, ck_true, ckp_su, ite_lt_t, ite_lt_f, ite_le_t, ite_le_f, ite_eq_t, ite_eq_f, ck_inb, nI_add, sb_nI, mu_nI, nI_clamp, sO_at, sO_sO, Nat.add_sub_cancel, Nat.zero_add, Nat.add_zero, li_0, li_1, li_2, li_3, li_4, li_5, li_6, li_7, li_8, li_9, li_10, li_11, li_12, li_16, li_20, li_24, li_31, li_32, li_48, li_49, li_73, li_74, li_75, li_97, li_98, li_99, li_100, li_101, li_109, li_110, li_255, li_680, li_700, li_9999, li_65536, li_65537]
theorem x_td {p : Nat × Sd} {n : Nat} (hD : WFD D) (hS : RSh (w 5 q) D) (hq : q < 2) (hpt : (w 9 0).2.2.1 2 = q + 1) (hp : TOK D p) (hn : n ≤ 100) : ∀ r k, k + r = n → ∀ (m : Nat) (od o : Ob), r < m → od.1 0 = nI (tnN D p k).1 → RX o (tnN D p k).2 → ∃ od2 o2 : Ob, fX9_tryDraws_46 m (W3 w od o) (nI n) (nI k) = some ((), W3 w od2 o2) ∧ RX o2 (tnN D p n).2 := by
  intro r
  induction r with
  | zero =>
    intro k hk m od o hm hz hR
    obtain ⟨m, rfl⟩ : ∃ z, m = z + 1 := ⟨m - 1, by omega⟩
    have e : k = n := by omega
    subst e
    refine ⟨od, o, ?_, hR⟩
    rw [fX9_tryDraws_46.eq_2]
    simp (disch := omega) only [↓mo_1, ↓mo_2, ad_m1, ite_m1_lt, ite_m2_lt, ite_le_m1, ite_eq_m1, ite_eq_m2, ite_m1_m1, ite_m2_m2, ite_T, ite_F, ite_nz, ite_zz, ite_m1_le, ite_m1_eq, oi_none, oi_some, ob_some, lw_def, ck_true, ckp_su, ite_lt_t, ite_lt_f, ite_le_t, ite_le_f, ite_eq_t, ite_eq_f, ck_inb, nI_add, sb_nI, mu_nI, nI_clamp, sO_at, sO_sO, Nat.add_sub_cancel, Nat.zero_add, Nat.add_zero, li_0, li_1, li_2, li_3, li_4, li_5, li_6, li_7, li_8, li_9, li_10, li_11, li_12, li_16, li_20, li_24, li_31, li_32, li_48, li_49, li_73, li_74, li_75, li_97, li_98, li_99, li_100, li_101, li_109, li_110, li_255, li_680, li_700, li_9999, li_65536, li_65537]
  | succ r ih =>
    intro k hk m od o hm hz hR
    obtain ⟨m, rfl⟩ : ∃ z, m = z + 1 := ⟨m - 1, by omega⟩
    obtain ⟨od1, o1, e1, e2, e3⟩ := x_takeTurn hD hS (tnN_ok hD hp k) hz hR
    obtain ⟨od2, o2, e4, e5⟩ := ih (k + 1) (by omega) m od1 o1 (by omega) e2 e3
    refine ⟨od2, o2, ?_, e5⟩
    have hp2 : (W3 w od o 9 0).2.2.1 2 = q + 1 := by rw [W3_c (by omega) (by decide)]; exact hpt
    rw [fX9_tryDraws_46.eq_2]
    simp (disch := omega) only [↓mo_1, ↓mo_2, ad_m1, ite_m1_lt, ite_m2_lt, ite_le_m1, ite_eq_m1, ite_eq_m2, ite_m1_m1, ite_m2_m2, ite_T, ite_F, ite_nz, ite_zz, ite_m1_le, ite_m1_eq, oi_none, oi_some, ob_some, lw_def, ck_true, ckp_su, ite_lt_t, ite_lt_f, ite_le_t, ite_le_f, ite_eq_t, ite_eq_f, ck_inb, nI_add, sb_nI, mu_nI, nI_clamp, sO_at, sO_sO, Nat.add_sub_cancel, Nat.zero_add, Nat.add_zero, li_0, li_1, li_2, li_3, li_4, li_5, li_6, li_7, li_8, li_9, li_10, li_11, li_12, li_16, li_20, li_24, li_31, li_32, li_48, li_49, li_73, li_74, li_75, li_97, li_98, li_99, li_100, li_101, li_109, li_110, li_255, li_680, li_700, li_9999, li_65536, li_65537, hp2, e1]
    exact e4
/-- where the turns begin -/
def dsS (D : Dk) (s : Sd) : Sd := if sdn s = true then rvS D s else s
theorem ds_ok {z : Nat} (hz : z < 65537) (hW : WFS D s) (hQ : QT s) : TOK D (z, dsS D s) := by
  unfold dsS
  cases hd : sdn s with
  | true =>
    obtain ⟨c1, c2, c3, c4⟩ := rv_wf hW
    rw [if_pos rfl]
    exact ⟨hz, c1, c2, c3, c4⟩
  | false =>
    rw [if_neg (by simp)]
    exact ⟨hz, hW, (hQ hd).1, (hQ hd).2, hd⟩
theorem W3_mk {v : Int32} : sI (sO w 7 1 o) 0 0 0 v = W3 w (oI (w 0 0) 0 v) o := by
  have e : sO w 7 1 o = W3 w (w 0 0) o := by unfold W3; rw [sO_id]
  rw [e, W3_I]
theorem x_tryDraws {z n : Nat} (hD : WFD D) (hW : WFS D s) (hQ : QT s) (hS : RSh (w 5 q) D) (hR : RX (w 7 0) s) (hq : q < 2) (hpt : (w 9 0).2.2.1 2 = q + 1) (hz : z < 65537) (hn : n ≤ 100) : ∃ od2 o2 : Ob, fX9_tryDraws w (nI z) (nI n) = some ((), W3 w od2 o2) ∧ RX o2 (tnN D (z, dsS D s) n).2 := by
  obtain ⟨o1, a1, a2, a3⟩ := x_copyFrom (w := w) (a := 1) (b := 0) hD hW (by decide) hR
  have hok := ds_ok (D := D) hz hW hQ
  have h8 := a2.2.2.2.2.2.2.2.2.1
  unfold fX9_tryDraws
  cases hd : sdn s with
  | true =>
    have hds : dsS D s = rvS D s := if_pos hd
    rw [hd, b2i_t] at h8
    obtain ⟨o2, e1, e2⟩ := x_comeBack (w := w) (j := 1) hD hS hW a2
    rw [← hds] at e2
    obtain ⟨od3, o3, e3, e4⟩ := x_td (w := w) hD hS hq hpt hok hn n 0 (Nat.zero_add _) fuel0 (oI (w 0 0) 0 (nI z)) o2 (by unfold fuel0; omega) oI_a e2
    refine ⟨od3, o3, ?_, e4⟩
    have hp2 : (sO w 7 1 o1 9 0).2.2.1 2 = q + 1 := by rw [sO_nc (by decide)]; exact hpt
    simp (disch := omega) only [↓mo_1, ↓mo_2, ad_m1, ite_m1_lt, ite_m2_lt, ite_le_m1, ite_eq_m1, ite_eq_m2, ite_m1_m1, ite_m2_m2, ite_T, ite_F, ite_nz, ite_zz, ite_m1_le, ite_m1_eq, oi_none, oi_some, ob_some, lw_def, ck_true, ckp_su, ite_lt_t, ite_lt_f, ite_le_t, ite_le_f, ite_eq_t, ite_eq_f, ck_inb, nI_add, sb_nI, mu_nI, nI_clamp, sO_at, sO_sO, Nat.add_sub_cancel, Nat.zero_add, Nat.add_zero, li_0, li_1, li_2, li_3, li_4, li_5, li_6, li_7, li_8, li_9, li_10, li_11, li_12, li_16, li_20, li_24, li_31, li_32, li_48, li_49, li_73, li_74, li_75, li_97, li_98, li_99, li_100, li_101, li_109, li_110, li_255, li_680, li_700, li_9999, li_65536, li_65537, a1, h8, hp2, e1, W3_mk, e3]
  | false =>
    have hds : dsS D s = s := if_neg (by rw [hd]; simp)
    rw [hd, b2i_f] at h8
    rw [← hds] at a2
    obtain ⟨od3, o3, e3, e4⟩ := x_td (w := w) hD hS hq hpt hok hn n 0 (Nat.zero_add _) fuel0 (oI (w 0 0) 0 (nI z)) o1 (by unfold fuel0; omega) oI_a a2
    refine ⟨od3, o3, ?_, e4⟩
    simp (disch := omega) only [↓mo_1, ↓mo_2, ad_m1, ite_m1_lt, ite_m2_lt, ite_le_m1, ite_eq_m1, ite_eq_m2, ite_m1_m1, ite_m2_m2, ite_T, ite_F, ite_nz, ite_zz, ite_m1_le, ite_m1_eq, oi_none, oi_some, ob_some, lw_def, ck_true, ckp_su, ite_lt_t, ite_lt_f, ite_le_t, ite_le_f, ite_eq_t, ite_eq_f, ck_inb, nI_add, sb_nI, mu_nI, nI_clamp, sO_at, sO_sO, Nat.add_sub_cancel, Nat.zero_add, Nat.add_zero, li_0, li_1, li_2, li_3, li_4, li_5, li_6, li_7, li_8, li_9, li_10, li_11, li_12, li_16, li_20, li_24, li_31, li_32, li_48, li_49, li_73, li_74, li_75, li_97, li_98, li_99, li_100, li_101, li_109, li_110, li_255, li_680, li_700, li_9999, li_65536, li_65537, a1, h8, W3_mk, e3]
theorem XS.w3 {od o : Ob} : XS w (W3 w od o) := XS.dr.tr XS.t
end DRX
