/-! ===== the lines of a text, the reference: what each line tells ===== -/
theorem hdF_cg {p : Pk} {f : Nat} {s : Int32} : ∀ {k : Nat}, k ≤ p.1 → hdF (adP p f s) k = hdF p k
  | 0, _ => rfl
  | k + 1, h => by
    show upd (hdF (adP p f s) k) ((adP p f s).2.1 k) ((adP p f s).2.2 k) = upd (hdF p k) (p.2.1 k) (p.2.2 k)
    rw [hdF_cg (k := k) (by omega)]
    show upd (hdF p k) (va_up p.2.1 p.1 f k) (va_up p.2.2 p.1 s k) = _
    rw [va_up_ne _ _ (by omega), va_up_ne _ _ (by omega)]
theorem hdF_ad {p : Pk} {f : Nat} {s : Int32} : hdF (adP p f s) (adP p f s).1 = upd (hdF p p.1) f s := by
  show upd (hdF (adP p f s) p.1) (va_up p.2.1 p.1 f p.1) (va_up p.2.2 p.1 s p.1) = _
  rw [hdF_cg (Nat.le_refl _), va_up_self, va_up_self]
def MFr (d : Nat) (w w2 : Wd) : Prop := (∀ c i, ¬ (c = 11 ∧ i = 0) → ¬ (c = 10 ∧ i = d) → w2 c i = w c i) ∧ (w2 11 0).2.1 = (w 11 0).2.1 ∧ (w2 11 0).2.2.1 = (w 11 0).2.2.1 ∧ ∀ k, k < 8 ∨ 13 < k → (w2 11 0).1 k = (w 11 0).1 k
def MG (w w2 : Wd) (d : Nat) (X : Tx) (D : Dk) (T : Tk) (p : Nat) : Prop := MFr d w w2 ∧ PM w2 d X D T (tk X p) ∧ (w2 11 0).1 12 = (w 11 0).1 12
section PM2
variable {w w2 : Wd} {X : Tx} {D : Dk} {T : Tk} {p nd d : Nat}
theorem SV.fr (h : SV w w2) : MFr d w w2 := ⟨fun c i a _ => h.1 c i a, h.2⟩
theorem PM.s10 {D2 : Dk} {T2 : Tk} {t : Tt} {o : Ob} (h : PM w d X D T t) (h1 : RDm o D2) (h2 : RTm o D2 T2) (h3 : RHm o T2) : PM (sO w 10 d o) d X D2 T2 t := by
  obtain ⟨a1, a2, a3, -⟩ := h
  have e : sO w 10 d o 11 0 = w 11 0 := sO_nc (by decide)
  have e2 : sO w 10 d o 10 d = o := sO_at
  unfold PM ME MT
  rw [e, e2]
  exact ⟨a1, a2, a3, h1, h2, h3⟩
theorem MG.s10 {w3 : Wd} {D2 : Dk} {T2 : Tk} {o : Ob} {p2 : Nat} (hs : SG w w3) (h : PM w3 d X D2 T2 (tk X p2) → False ∨ True) (hp : PM (sO w3 10 d o) d X D2 T2 (tk X p2)) : MG w (sO w3 10 d o) d X D2 T2 p2 := by
  have e : sO w3 10 d o 11 0 = w3 11 0 := sO_nc (by decide)
  refine ⟨⟨fun c i x y => (sO_ne y).trans (hs.1 c i x), by rw [e]; exact hs.2.1, by rw [e]; exact hs.2.2.1, fun k hk => by rw [e]; exact hs.2.2.2 k (by omega) (by omega) (by omega) (by omega)⟩, hp, by rw [e]; exact hs.2.2.2 12 (by decide) (by decide) (by decide) (by decide)⟩
theorem m_w9 (hX : TxO X) (hE : ME w X) (hp : p ≤ X.1) (h : MT w X (tk X p)) : ((tk X p).1 = 2 → ∃ w2 : Wd, fX11_readWhole nd w (nI 0) (nI 9999) = some (nI (vlT X (tk X p)), w2) ∧ SG w w2 ∧ MT w2 X (tk X (nx X p))) ∧ (¬ (tk X p).1 = 2 → ∃ w2 : Wd, fX11_readWhole nd w (nI 0) (nI 9999) = some (nI 0, w2) ∧ OV w w2 1 (tk X p).2.1) := by
  have g := m_wS (nd := nd) (lo := 0) (hi := 9999) hX hE hp h (by omega) (by omega)
  unfold whS at g
  refine ⟨fun c => ?_, fun c => ?_⟩
  · rw [if_pos c, if_pos ⟨Nat.zero_le _, vl_le hp c⟩] at g
    exact g
  · rw [if_neg c] at g
    exact g
theorem m_band (hX : TxO X) (hp : p ≤ X.1) (hd : d < nd) (h : PM w d X D T (tk X p)) (h1 : (tk X p).1 = 1) (hov : D.2.2.1 ≤ 3) (h6 : D.1 ≤ 6) (h0 : ¬ 0 < D.2.2.1 → D.1 = 0) : match bnS X D.2.2.1 D.1 p with
    | .inl (f, pl) => ∃ w2 : Wd, fX11_readBand nd w = some ((), w2) ∧ OV w w2 f pl
    | .inr (v, p2) => ∃ w2 : Wd, fX11_readBand nd w = some ((), w2) ∧ MG w w2 d X (adD D v) T p2 := by
  have hp4 := h.2.2.1
  have hk := h.2.2.2.1.2.2.1
  have g := m_lb (nd := nd) (a := D.1) (b := 6) hX hp hd h h1 hov h6 (by omega) (fun z => by rw [h0 z]; omega)
  unfold bnS
  have bad : ∀ {w3 : Wd} {f pl : Nat}, fX11_lineBegins nd w (nI D.1) (nI 6) = some ((), w3) → OV w w3 f pl → ∃ w2 : Wd, fX11_readBand nd w = some ((), w2) ∧ OV w w2 f pl := by
    intro w3 f pl e1 e2
    refine ⟨w3, ?_, e2⟩
    unfold fX11_readBand
    simp (disch := omega) only [↓mo_1, ↓mo_2, ad_m1, ite_m1_lt, ite_m2_lt, ite_le_m1, ite_eq_m1, ite_eq_m2, ite_m1_m1, ite_m2_m2, ite_T, ite_F, ite_nz, ite_zz, ite_m1_le, ite_m1_eq, oi_none, oi_some, ob_some, lw_def, ck_true, ckp_su, ite_lt_t, ite_lt_f, ite_le_t, ite_le_f, ite_eq_t, ite_eq_f, ck_inb, nI_add, sb_nI, mu_nI, nI_clamp, sO_at, sO_sO, Nat.add_sub_cancel, Nat.zero_add, Nat.add_zero, li_0, li_1, li_2, li_3, li_4, li_5, li_6, li_7, li_8, li_9, li_10, li_11, li_12, li_16, li_20, li_24, li_31, li_32, li_48, li_49, li_73, li_74, li_75, li_97, li_98, li_99, li_100, li_101, li_109, li_110, li_255, li_680, li_700, li_9999, li_65536, li_65537, hp4, hk, e1, o_rw e2.2.1, e2.2.1]
  by_cases c1 : 0 < D.2.2.1
  · rw [if_pos c1] at g ⊢
    by_cases c2 : D.1 < 6
    · rw [if_pos c2] at g ⊢
      obtain ⟨w3, e1, e2, e3⟩ := g
      have gg := m_wS (nd := nd) (lo := 2) (hi := 8) hX e3.1 (nx_le hp) e3.2.1 (by omega) (by omega)
      cases e : whS X 2 8 (nx X p) with
      | inl z =>
        obtain ⟨f, pl⟩ := z
        rw [e] at gg
        obtain ⟨w5, i1, i2⟩ := gg
        refine ⟨w5, ?_, i2.pre e2.sv⟩
        unfold fX11_readBand
        simp (disch := omega) only [↓mo_1, ↓mo_2, ad_m1, ite_m1_lt, ite_m2_lt, ite_le_m1, ite_eq_m1, ite_eq_m2, ite_m1_m1, ite_m2_m2, ite_T, ite_F, ite_nz, ite_zz, ite_m1_le, ite_m1_eq, oi_none, oi_some, ob_some, lw_def, ck_true, ckp_su, ite_lt_t, ite_lt_f, ite_le_t, ite_le_f, ite_eq_t, ite_eq_f, ck_inb, nI_add, sb_nI, mu_nI, nI_clamp, sO_at, sO_sO, Nat.add_sub_cancel, Nat.zero_add, Nat.add_zero, li_0, li_1, li_2, li_3, li_4, li_5, li_6, li_7, li_8, li_9, li_10, li_11, li_12, li_16, li_20, li_24, li_31, li_32, li_48, li_49, li_73, li_74, li_75, li_97, li_98, li_99, li_100, li_101, li_109, li_110, li_255, li_680, li_700, li_9999, li_65536, li_65537, hp4, hk, e1, i1, i2.2.1]
      | inr z =>
        obtain ⟨v, p2⟩ := z
        rw [e] at gg
        obtain ⟨w5, i1, i2, i3⟩ := gg
        have s5 := e2.tr i2
        have h5 := e3.sg i2 i3
        have q4 := h5.2.2.1
        have q2 := h5.2.2.2.1.2.2.1
        have q3 := h5.2.2.2.2.1.1
        have q9 := i3.1
        have ql := sg_lt (k := (tk X p2).1)
        refine ⟨_, ?_, MG.s10 s5 (fun _ => Or.inr trivial) (h5.s10 (o := oI (oI (oA (w5 10 d) 9 D.1 (nI v)) 2 (nI (D.1 + 1))) 3 (nI (dnt D + v))) ?_ ?_ ?_)⟩
        · have n1 : ∀ {o : Ob}, sO w5 10 d o 11 0 = w5 11 0 := fun {o} => sO_nc (by decide)
          unfold fX11_readBand
          simp (disch := omega) only [↓mo_1, ↓mo_2, ad_m1, ite_m1_lt, ite_m2_lt, ite_le_m1, ite_eq_m1, ite_eq_m2, ite_m1_m1, ite_m2_m2, ite_T, ite_F, ite_nz, ite_zz, ite_m1_le, ite_m1_eq, oi_none, oi_some, ob_some, lw_def, ck_true, ckp_su, ite_lt_t, ite_lt_f, ite_le_t, ite_le_f, ite_eq_t, ite_eq_f, ck_inb, nI_add, sb_nI, mu_nI, nI_clamp, sO_at, sO_sO, Nat.add_sub_cancel, Nat.zero_add, Nat.add_zero, li_0, li_1, li_2, li_3, li_4, li_5, li_6, li_7, li_8, li_9, li_10, li_11, li_12, li_16, li_20, li_24, li_31, li_32, li_48, li_49, li_73, li_74, li_75, li_97, li_98, li_99, li_100, li_101, li_109, li_110, li_255, li_680, li_700, li_9999, li_65536, li_65537, hp4, hk, e1, i1, q4, q2, q9, sA, sI, n1, oA_1, oI_a, q3, oI_n]
        · obtain ⟨z1, z2, z3, z4, z5, z6⟩ := h5.2.2.2.1
          refine ⟨by rw [oI_n (by decide), oI_n (by decide), oA_1]; exact z1, by rw [oI_n (by decide), oI_n (by decide), oA_1]; exact z2, by rw [oI_n (by decide), oI_a]; rfl, by rw [oI_n (by decide), oI_n (by decide), oA_1]; exact z4, fun b hb => ?_, (show D.1 + 1 ≤ 6 by omega)⟩
          have hb : b < D.1 + 1 := hb
          rw [oI_2, oI_2, oA_a]
          show _ = nI (va_up D.2.1 D.1 v b)
          by_cases y : b = D.1
          · rw [y, upd_at, va_up_self]
          · rw [upd_ne y, va_up_ne _ _ y]
            exact z5 b (by omega)
        · obtain ⟨z1, z2, z3, z4, z5⟩ := h5.2.2.2.2.1
          refine ⟨by rw [oI_a, ad_dnt], fun t ht => by rw [oI_2, oI_2, oA_n (by decide)]; exact z2 t ht, ⟨by rw [oI_n (by decide), oI_n (by decide), oA_1]; exact z3.1, fun i hi => by rw [oI_2, oI_2, oA_n (by decide)]; exact z3.2.1 i hi, fun i hi => by rw [oI_2, oI_2, oA_n (by decide)]; exact z3.2.2 i hi⟩, ⟨by rw [oI_n (by decide), oI_n (by decide), oA_1]; exact z4.1, fun i hi => by rw [oI_2, oI_2, oA_n (by decide)]; exact z4.2.1 i hi, fun i hi => by rw [oI_2, oI_2, oA_n (by decide)]; exact z4.2.2 i hi⟩, ⟨by rw [oI_n (by decide), oI_n (by decide), oA_1]; exact z5.1, fun i hi => by rw [oI_2, oI_2, oA_n (by decide)]; exact z5.2.1 i hi, fun i hi => by rw [oI_2, oI_2, oA_n (by decide)]; exact z5.2.2 i hi⟩⟩
        · obtain ⟨z1, z2⟩ := h5.2.2.2.2.2
          exact ⟨by rw [oI_n (by decide), oI_n (by decide), oA_1]; exact z1, fun t ht => by rw [oI_2, oI_2, oA_n (by decide)]; exact z2 t ht⟩
    · rw [if_neg c2] at g ⊢
      obtain ⟨w3, e1, e2⟩ := g
      exact bad e1 e2
  · rw [if_neg c1] at g ⊢
    obtain ⟨w3, e1, e2⟩ := g
    exact bad e1 e2
theorem m_readHas (hX : TxO X) (hp : p ≤ X.1) (hd : d < nd) (h : PM w d X D T (tk X p)) (h1 : (tk X p).1 = 1) (hov : D.2.2.1 ≤ 3) (h48 : dnt D ≤ 48) (hW : WFT D T) (h0 : ¬ 0 < D.2.2.1 → T.1.1 = 0) : match prS X D.2.2.1 T.1 12 (dnt D) 1 p with
    | .inl (f, pl) => ∃ w2 : Wd, fX11_readHas nd w = some ((), w2) ∧ OV w w2 f pl
    | .inr (v1, v2, p3) => ∃ w2 : Wd, fX11_readHas nd w = some ((), w2) ∧ MG w w2 d X D (adP T.1 v1 (nI v2), T.2) p3 := by
  have hp4 := h.2.2.1
  have hN : T.1.1 ≤ 12 := hW.1.1
  have hA : (dnt D) < 10000 := by have := hW.2.1.1; omega
  have hk : (w 10 d).1 4 = nI T.1.1 := h.2.2.2.2.2.1
  have g := m_lb (nd := nd) (a := T.1.1) (b := 12) hX hp hd h h1 hov hN (by omega) (fun z => by rw [h0 z]; omega)
  have bad : ∀ {w3 : Wd} {f pl : Nat}, fX11_lineBegins nd w (nI T.1.1) (nI 12) = some ((), w3) → OV w w3 f pl → ∃ w2 : Wd, fX11_readHas nd w = some ((), w2) ∧ OV w w2 f pl := by
    intro w3 f pl e1 e2
    refine ⟨w3, ?_, e2⟩
    have q4 : (w3 11 0).2.2.1 4 = d + 1 := by rw [e2.1.2.2.1]; exact hp4
    unfold fX11_readHas fX11_readHas_50
    simp (disch := omega) only [↓mo_1, ↓mo_2, ad_m1, ite_m1_lt, ite_m2_lt, ite_le_m1, ite_eq_m1, ite_eq_m2, ite_m1_m1, ite_m2_m2, ite_T, ite_F, ite_nz, ite_zz, ite_m1_le, ite_m1_eq, oi_none, oi_some, ob_some, lw_def, ck_true, ckp_su, ite_lt_t, ite_lt_f, ite_le_t, ite_le_f, ite_eq_t, ite_eq_f, ck_inb, nI_add, sb_nI, mu_nI, nI_clamp, sO_at, sO_sO, Nat.add_sub_cancel, Nat.zero_add, Nat.add_zero, li_0, li_1, li_2, li_3, li_4, li_5, li_6, li_7, li_8, li_9, li_10, li_11, li_12, li_16, li_20, li_24, li_31, li_32, li_48, li_49, li_73, li_74, li_75, li_97, li_98, li_99, li_100, li_101, li_109, li_110, li_255, li_680, li_700, li_9999, li_65536, li_65537, hp4, hk, e1, q4, o_ta e2.2.1, e2.2.1, o_go e2.2.1, o_rw e2.2.1]
  unfold prS
  by_cases c1 : 0 < D.2.2.1
  · rw [if_pos c1] at g ⊢
    by_cases c2 : T.1.1 < 12
    · rw [if_pos c2] at g ⊢
      obtain ⟨w3, e1, e2, e3⟩ := g
      have q4 := e3.2.2.1
      have q3 : (w3 10 d).1 3 = nI (dnt D) := e3.2.2.2.2.1.1
      have t := m_ta (nd := nd) (a := (dnt D)) (nx_le hp) e3.2.1 hA
      have bad2 : ∀ {w6 : Wd} {f pl : Nat}, fX11_toldAt nd w3 (nI (dnt D)) = some (nI 0, w6) → OV w3 w6 f pl → ∃ w2 : Wd, fX11_readHas nd w = some ((), w2) ∧ OV w w2 f pl := by
        intro w6 f pl i1 i2
        refine ⟨w6, ?_, i2.pre e2.sv⟩
        unfold fX11_readHas fX11_readHas_50
        simp (disch := omega) only [↓mo_1, ↓mo_2, ad_m1, ite_m1_lt, ite_m2_lt, ite_le_m1, ite_eq_m1, ite_eq_m2, ite_m1_m1, ite_m2_m2, ite_T, ite_F, ite_nz, ite_zz, ite_m1_le, ite_m1_eq, oi_none, oi_some, ob_some, lw_def, ck_true, ckp_su, ite_lt_t, ite_lt_f, ite_le_t, ite_le_f, ite_eq_t, ite_eq_f, ck_inb, nI_add, sb_nI, mu_nI, nI_clamp, sO_at, sO_sO, Nat.add_sub_cancel, Nat.zero_add, Nat.add_zero, li_0, li_1, li_2, li_3, li_4, li_5, li_6, li_7, li_8, li_9, li_10, li_11, li_12, li_16, li_20, li_24, li_31, li_32, li_48, li_49, li_73, li_74, li_75, li_97, li_98, li_99, li_100, li_101, li_109, li_110, li_255, li_680, li_700, li_9999, li_65536, li_65537, hp4, hk, e1, q4, q3, i1, i2.2.1, o_go i2.2.1, o_rw i2.2.1]
      by_cases c3 : (tk X (nx X p)).1 = 2
      · rw [if_pos c3] at t ⊢
        by_cases c4 : vlT X (tk X (nx X p)) < (dnt D)
        · rw [if_pos c4] at t ⊢
          have q9 := e3.2.1.1
          have ql := sg_lt (k := (tk X (nx X p)).1)
          obtain ⟨w4, j1, j2, j3⟩ := m_gx (nd := nd) hX e3.1 (nx_le hp) e3.2.1 (by omega)
          have h4 := e3.sg j2 j3
          have s4 := e2.tr j2
          obtain ⟨k1, k2⟩ := m_w9 (nd := nd) hX h4.1 (nx_le (nx_le hp)) h4.2.1
          have st := e3.2.2.2.2.2.2 (vlT X (tk X (nx X p))) (by omega)
          by_cases c5 : 1 = 1 ∧ inR T.1.2.1 (vlT X (tk X (nx X p))) T.1.1 = true
          · rw [if_pos c5]
            rw [c5.2, b2i_t] at st
            obtain ⟨w6, i1, i2⟩ := m_fl (nd := nd) (f := 3) e3.2.1
            refine ⟨w6, ?_, i2.pre e2.sv⟩
            unfold fX11_readHas fX11_readHas_50
            simp (disch := omega) only [↓mo_1, ↓mo_2, ad_m1, ite_m1_lt, ite_m2_lt, ite_le_m1, ite_eq_m1, ite_eq_m2, ite_m1_m1, ite_m2_m2, ite_T, ite_F, ite_nz, ite_zz, ite_m1_le, ite_m1_eq, oi_none, oi_some, ob_some, lw_def, ck_true, ckp_su, ite_lt_t, ite_lt_f, ite_le_t, ite_le_f, ite_eq_t, ite_eq_f, ck_inb, nI_add, sb_nI, mu_nI, nI_clamp, sO_at, sO_sO, Nat.add_sub_cancel, Nat.zero_add, Nat.add_zero, li_0, li_1, li_2, li_3, li_4, li_5, li_6, li_7, li_8, li_9, li_10, li_11, li_12, li_16, li_20, li_24, li_31, li_32, li_48, li_49, li_73, li_74, li_75, li_97, li_98, li_99, li_100, li_101, li_109, li_110, li_255, li_680, li_700, li_9999, li_65536, li_65537, hp4, hk, e1, q4, q3, t, q9, st, i1, o_go i2.2.1, o_rw i2.2.1, i2.2.1]
          · rw [if_neg c5]
            have z2 : inR T.1.2.1 (vlT X (tk X (nx X p))) T.1.1 = false := by
              cases y : inR T.1.2.1 (vlT X (tk X (nx X p))) T.1.1 with
              | false => rfl
              | true => exact absurd ⟨rfl, y⟩ c5
            rw [z2, b2i_f] at st
            by_cases c6 : (tk X (nx X (nx X p))).1 = 2
            · rw [if_pos c6]
              obtain ⟨w5, m1', m2', m3'⟩ := k1 c6
              have h5 := h4.sg m2' m3'
              have s5 := s4.tr m2'
              have r9 := m3'.1
              have rl := sg_lt (k := (tk X (nx X (nx X (nx X p)))).1)
              have r4 := h5.2.2.1
              have rk := h5.2.2.2.2.2.1
              refine ⟨_, ?_, MG.s10 s5 (fun _ => Or.inr trivial) (h5.s10 (o := oI (oA (oA (w5 10 d) 17 (vlT X (tk X (nx X p))) (nI 1)) 10 (vlT X (tk X (nx X p))) (nI (vlT X (tk X (nx X (nx X p)))))) 4 (nI (T.1.1 + 1))) ?_ ?_ ?_)⟩
              · have n1 : ∀ {o : Ob}, sO w5 10 d o 11 0 = w5 11 0 := fun {o} => sO_nc (by decide)
                unfold fX11_readHas fX11_readHas_50
                simp (disch := omega) only [↓mo_1, ↓mo_2, ad_m1, ite_m1_lt, ite_m2_lt, ite_le_m1, ite_eq_m1, ite_eq_m2, ite_m1_m1, ite_m2_m2, ite_T, ite_F, ite_nz, ite_zz, ite_m1_le, ite_m1_eq, oi_none, oi_some, ob_some, lw_def, ck_true, ckp_su, ite_lt_t, ite_lt_f, ite_le_t, ite_le_f, ite_eq_t, ite_eq_f, ck_inb, nI_add, sb_nI, mu_nI, nI_clamp, sO_at, sO_sO, Nat.add_sub_cancel, Nat.zero_add, Nat.add_zero, li_0, li_1, li_2, li_3, li_4, li_5, li_6, li_7, li_8, li_9, li_10, li_11, li_12, li_16, li_20, li_24, li_31, li_32, li_48, li_49, li_73, li_74, li_75, li_97, li_98, li_99, li_100, li_101, li_109, li_110, li_255, li_680, li_700, li_9999, li_65536, li_65537, hp4, hk, e1, q4, q3, t, q9, st, j1, m1', r9, r4, sA, sI, n1, rk, oA_1, oI_a, oI_n]
              · obtain ⟨z1, z2, z3, z4, z5, z6⟩ := h5.2.2.2.1
                exact ⟨by rw [oI_n (by decide), oA_1, oA_1]; exact z1, by rw [oI_n (by decide), oA_1, oA_1]; exact z2, by rw [oI_n (by decide), oA_1, oA_1]; exact z3, by rw [oI_n (by decide), oA_1, oA_1]; exact z4, fun b hb => by rw [oI_2, oA_n (by decide), oA_n (by decide)]; exact z5 b hb, z6⟩
              · obtain ⟨z1, z2, z3, z4, z5⟩ := h5.2.2.2.2.1
                refine ⟨by rw [oI_n (by decide), oA_1, oA_1]; exact z1, fun t ht => ?_, ?_, ?_, ?_⟩
                · rw [oI_2, oA_a, oA_n (by decide)]
                  show _ = hdF (adP T.1 _ _) (adP T.1 _ _).1 t
                  rw [hdF_ad]
                  by_cases y : t = vlT X (tk X (nx X p))
                  · rw [y, upd_at, upd_at]
                  · rw [upd_ne y, upd_ne y]
                    exact z2 t ht
                · exact ⟨by rw [oI_n (by decide), oA_1, oA_1]; exact z3.1, fun i hi => by rw [oI_2, oA_n (by decide), oA_n (by decide)]; exact z3.2.1 i hi, fun i hi => by rw [oI_2, oA_n (by decide), oA_n (by decide)]; exact z3.2.2 i hi⟩
                · exact ⟨by rw [oI_n (by decide), oA_1, oA_1]; exact z4.1, fun i hi => by rw [oI_2, oA_n (by decide), oA_n (by decide)]; exact z4.2.1 i hi, fun i hi => by rw [oI_2, oA_n (by decide), oA_n (by decide)]; exact z4.2.2 i hi⟩
                · exact ⟨by rw [oI_n (by decide), oA_1, oA_1]; exact z5.1, fun i hi => by rw [oI_2, oA_n (by decide), oA_n (by decide)]; exact z5.2.1 i hi, fun i hi => by rw [oI_2, oA_n (by decide), oA_n (by decide)]; exact z5.2.2 i hi⟩
              · obtain ⟨z1, z2⟩ := h5.2.2.2.2.2
                refine ⟨by rw [oI_a]; rfl, fun t ht => ?_⟩
                rw [oI_2, oA_n (by decide), oA_a]
                show _ = b2i (inR (adP T.1 _ _).2.1 t (adP T.1 _ _).1)
                rw [inR_ad]
                by_cases y : vlT X (tk X (nx X p)) = t
                · rw [y, upd_at, decide_eq_true rfl, Bool.or_true, b2i_t]
                · rw [upd_ne (fun q => y q.symm), decide_eq_false y, Bool.or_false]
                  exact z2 t ht
            · rw [if_neg c6]
              obtain ⟨w5, m1', m2'⟩ := k2 c6
              refine ⟨w5, ?_, m2'.pre s4.sv⟩
              unfold fX11_readHas fX11_readHas_50
              simp (disch := omega) only [↓mo_1, ↓mo_2, ad_m1, ite_m1_lt, ite_m2_lt, ite_le_m1, ite_eq_m1, ite_eq_m2, ite_m1_m1, ite_m2_m2, ite_T, ite_F, ite_nz, ite_zz, ite_m1_le, ite_m1_eq, oi_none, oi_some, ob_some, lw_def, ck_true, ckp_su, ite_lt_t, ite_lt_f, ite_le_t, ite_le_f, ite_eq_t, ite_eq_f, ck_inb, nI_add, sb_nI, mu_nI, nI_clamp, sO_at, sO_sO, Nat.add_sub_cancel, Nat.zero_add, Nat.add_zero, li_0, li_1, li_2, li_3, li_4, li_5, li_6, li_7, li_8, li_9, li_10, li_11, li_12, li_16, li_20, li_24, li_31, li_32, li_48, li_49, li_73, li_74, li_75, li_97, li_98, li_99, li_100, li_101, li_109, li_110, li_255, li_680, li_700, li_9999, li_65536, li_65537, hp4, hk, e1, q4, q3, t, q9, st, j1, m1', m2'.2.1]
        · rw [if_neg c4] at t ⊢
          obtain ⟨w6, i1, i2⟩ := t
          exact bad2 i1 i2
      · rw [if_neg c3] at t ⊢
        obtain ⟨w6, i1, i2⟩ := t
        exact bad2 i1 i2
    · rw [if_neg c2] at g ⊢
      obtain ⟨w3, e1, e2⟩ := g
      exact bad e1 e2
  · rw [if_neg c1] at g ⊢
    obtain ⟨w3, e1, e2⟩ := g
    exact bad e1 e2
theorem m_readWrite (hX : TxO X) (hp : p ≤ X.1) (hd : d < nd) (h : PM w d X D T (tk X p)) (h1 : (tk X p).1 = 1) (hov : D.2.2.1 ≤ 3) (h48 : dnt D ≤ 48) (hW : WFT D T) (h0 : ¬ 0 < D.2.2.1 → T.2.1.1 = 0) : match prS X D.2.2.1 T.2.1 16 (dnt D) 0 p with
    | .inl (f, pl) => ∃ w2 : Wd, fX11_readWrite nd w = some ((), w2) ∧ OV w w2 f pl
    | .inr (v1, v2, p3) => ∃ w2 : Wd, fX11_readWrite nd w = some ((), w2) ∧ MG w w2 d X D (T.1, adP T.2.1 v1 (nI v2), T.2.2) p3 := by
  have hp4 := h.2.2.1
  have hN : T.2.1.1 ≤ 16 := hW.2.1.1
  have hA : (dnt D) < 10000 := by have := hW.2.1.1; omega
  have hk : (w 10 d).1 5 = nI T.2.1.1 := h.2.2.2.2.1.2.2.1.1
  have g := m_lb (nd := nd) (a := T.2.1.1) (b := 16) hX hp hd h h1 hov hN (by omega) (fun z => by rw [h0 z]; omega)
  have bad : ∀ {w3 : Wd} {f pl : Nat}, fX11_lineBegins nd w (nI T.2.1.1) (nI 16) = some ((), w3) → OV w w3 f pl → ∃ w2 : Wd, fX11_readWrite nd w = some ((), w2) ∧ OV w w2 f pl := by
    intro w3 f pl e1 e2
    refine ⟨w3, ?_, e2⟩
    have q4 : (w3 11 0).2.2.1 4 = d + 1 := by rw [e2.1.2.2.1]; exact hp4
    unfold fX11_readWrite
    simp (disch := omega) only [↓mo_1, ↓mo_2, ad_m1, ite_m1_lt, ite_m2_lt, ite_le_m1, ite_eq_m1, ite_eq_m2, ite_m1_m1, ite_m2_m2, ite_T, ite_F, ite_nz, ite_zz, ite_m1_le, ite_m1_eq, oi_none, oi_some, ob_some, lw_def, ck_true, ckp_su, ite_lt_t, ite_lt_f, ite_le_t, ite_le_f, ite_eq_t, ite_eq_f, ck_inb, nI_add, sb_nI, mu_nI, nI_clamp, sO_at, sO_sO, Nat.add_sub_cancel, Nat.zero_add, Nat.add_zero, li_0, li_1, li_2, li_3, li_4, li_5, li_6, li_7, li_8, li_9, li_10, li_11, li_12, li_16, li_20, li_24, li_31, li_32, li_48, li_49, li_73, li_74, li_75, li_97, li_98, li_99, li_100, li_101, li_109, li_110, li_255, li_680, li_700, li_9999, li_65536, li_65537, hp4, hk, e1, q4, o_ta e2.2.1, e2.2.1, o_go e2.2.1, o_rw e2.2.1]
  unfold prS
  by_cases c1 : 0 < D.2.2.1
  · rw [if_pos c1] at g ⊢
    by_cases c2 : T.2.1.1 < 16
    · rw [if_pos c2] at g ⊢
      obtain ⟨w3, e1, e2, e3⟩ := g
      have q4 := e3.2.2.1
      have q3 : (w3 10 d).1 3 = nI (dnt D) := e3.2.2.2.2.1.1
      have t := m_ta (nd := nd) (a := (dnt D)) (nx_le hp) e3.2.1 hA
      have bad2 : ∀ {w6 : Wd} {f pl : Nat}, fX11_toldAt nd w3 (nI (dnt D)) = some (nI 0, w6) → OV w3 w6 f pl → ∃ w2 : Wd, fX11_readWrite nd w = some ((), w2) ∧ OV w w2 f pl := by
        intro w6 f pl i1 i2
        refine ⟨w6, ?_, i2.pre e2.sv⟩
        unfold fX11_readWrite
        simp (disch := omega) only [↓mo_1, ↓mo_2, ad_m1, ite_m1_lt, ite_m2_lt, ite_le_m1, ite_eq_m1, ite_eq_m2, ite_m1_m1, ite_m2_m2, ite_T, ite_F, ite_nz, ite_zz, ite_m1_le, ite_m1_eq, oi_none, oi_some, ob_some, lw_def, ck_true, ckp_su, ite_lt_t, ite_lt_f, ite_le_t, ite_le_f, ite_eq_t, ite_eq_f, ck_inb, nI_add, sb_nI, mu_nI, nI_clamp, sO_at, sO_sO, Nat.add_sub_cancel, Nat.zero_add, Nat.add_zero, li_0, li_1, li_2, li_3, li_4, li_5, li_6, li_7, li_8, li_9, li_10, li_11, li_12, li_16, li_20, li_24, li_31, li_32, li_48, li_49, li_73, li_74, li_75, li_97, li_98, li_99, li_100, li_101, li_109, li_110, li_255, li_680, li_700, li_9999, li_65536, li_65537, hp4, hk, e1, q4, q3, i1, i2.2.1, o_go i2.2.1, o_rw i2.2.1]
      by_cases c3 : (tk X (nx X p)).1 = 2
      · rw [if_pos c3] at t ⊢
        by_cases c4 : vlT X (tk X (nx X p)) < (dnt D)
        · rw [if_pos c4] at t ⊢
          have q9 := e3.2.1.1
          have ql := sg_lt (k := (tk X (nx X p)).1)
          obtain ⟨w4, j1, j2, j3⟩ := m_gx (nd := nd) hX e3.1 (nx_le hp) e3.2.1 (by omega)
          have h4 := e3.sg j2 j3
          have s4 := e2.tr j2
          obtain ⟨k1, k2⟩ := m_w9 (nd := nd) hX h4.1 (nx_le (nx_le hp)) h4.2.1
          have c5 : ¬ ((0 : Nat) = 1 ∧ inR T.2.1.2.1 (vlT X (tk X (nx X p))) T.2.1.1 = true) := fun z => by omega
          · rw [if_neg c5]
            by_cases c6 : (tk X (nx X (nx X p))).1 = 2
            · rw [if_pos c6]
              obtain ⟨w5, m1', m2', m3'⟩ := k1 c6
              have h5 := h4.sg m2' m3'
              have s5 := s4.tr m2'
              have r9 := m3'.1
              have rl := sg_lt (k := (tk X (nx X (nx X (nx X p)))).1)
              have r4 := h5.2.2.1
              have rk : (w5 10 d).1 5 = nI T.2.1.1 := h5.2.2.2.2.1.2.2.1.1
              refine ⟨_, ?_, MG.s10 s5 (fun _ => Or.inr trivial) (h5.s10 (o := oI (oA (oA (w5 10 d) 11 T.2.1.1 (nI (vlT X (tk X (nx X p))))) 12 T.2.1.1 (nI (vlT X (tk X (nx X (nx X p)))))) 5 (nI (T.2.1.1 + 1))) ?_ ?_ ?_)⟩
              · have n1 : ∀ {o : Ob}, sO w5 10 d o 11 0 = w5 11 0 := fun {o} => sO_nc (by decide)
                unfold fX11_readWrite
                simp (disch := omega) only [↓mo_1, ↓mo_2, ad_m1, ite_m1_lt, ite_m2_lt, ite_le_m1, ite_eq_m1, ite_eq_m2, ite_m1_m1, ite_m2_m2, ite_T, ite_F, ite_nz, ite_zz, ite_m1_le, ite_m1_eq, oi_none, oi_some, ob_some, lw_def, ck_true, ckp_su, ite_lt_t, ite_lt_f, ite_le_t, ite_le_f, ite_eq_t, ite_eq_f, ck_inb, nI_add, sb_nI, mu_nI, nI_clamp, sO_at, sO_sO, Nat.add_sub_cancel, Nat.zero_add, Nat.add_zero, li_0, li_1, li_2, li_3, li_4, li_5, li_6, li_7, li_8, li_9, li_10, li_11, li_12, li_16, li_20, li_24, li_31, li_32, li_48, li_49, li_73, li_74, li_75, li_97, li_98, li_99, li_100, li_101, li_109, li_110, li_255, li_680, li_700, li_9999, li_65536, li_65537, hp4, hk, e1, q4, q3, t, q9, j1, m1', r9, r4, sA, sI, n1, rk, oA_1, oI_a, oI_n]
              · obtain ⟨z1, z2, z3, z4, z5, z6⟩ := h5.2.2.2.1
                exact ⟨by rw [oI_n (by decide), oA_1, oA_1]; exact z1, by rw [oI_n (by decide), oA_1, oA_1]; exact z2, by rw [oI_n (by decide), oA_1, oA_1]; exact z3, by rw [oI_n (by decide), oA_1, oA_1]; exact z4, fun b hb => by rw [oI_2, oA_n (by decide), oA_n (by decide)]; exact z5 b hb, z6⟩
              · obtain ⟨z1, z2, z3, z4, z5⟩ := h5.2.2.2.2.1
                refine ⟨by rw [oI_n (by decide), oA_1, oA_1]; exact z1, fun t ht => by rw [oI_2, oA_n (by decide), oA_n (by decide)]; exact z2 t ht, ?_, ?_, ?_⟩
                · refine ⟨by rw [oI_a]; rfl, fun i hi => ?_, fun i hi => ?_⟩
                  · have hi : i < T.2.1.1 + 1 := hi
                    rw [oI_2, oA_n (by decide), oA_a]
                    show _ = nI (va_up T.2.1.2.1 T.2.1.1 _ i)
                    by_cases y : i = T.2.1.1
                    · rw [y, upd_at, va_up_self]
                    · rw [upd_ne y, va_up_ne _ _ y]
                      exact z3.2.1 i (by omega)
                  · have hi : i < T.2.1.1 + 1 := hi
                    rw [oI_2, oA_a, oA_n (by decide)]
                    show _ = va_up T.2.1.2.2 T.2.1.1 _ i
                    by_cases y : i = T.2.1.1
                    · rw [y, upd_at, va_up_self]
                    · rw [upd_ne y, va_up_ne _ _ y]
                      exact z3.2.2 i (by omega)
                · exact ⟨by rw [oI_n (by decide), oA_1, oA_1]; exact z4.1, fun i hi => by rw [oI_2, oA_n (by decide), oA_n (by decide)]; exact z4.2.1 i hi, fun i hi => by rw [oI_2, oA_n (by decide), oA_n (by decide)]; exact z4.2.2 i hi⟩
                · exact ⟨by rw [oI_n (by decide), oA_1, oA_1]; exact z5.1, fun i hi => by rw [oI_2, oA_n (by decide), oA_n (by decide)]; exact z5.2.1 i hi, fun i hi => by rw [oI_2, oA_n (by decide), oA_n (by decide)]; exact z5.2.2 i hi⟩
              · obtain ⟨z1, z2⟩ := h5.2.2.2.2.2
                exact ⟨by rw [oI_n (by decide), oA_1, oA_1]; exact z1, fun t ht => by rw [oI_2, oA_n (by decide), oA_n (by decide)]; exact z2 t ht⟩
            · rw [if_neg c6]
              obtain ⟨w5, m1', m2'⟩ := k2 c6
              refine ⟨w5, ?_, m2'.pre s4.sv⟩
              unfold fX11_readWrite
              simp (disch := omega) only [↓mo_1, ↓mo_2, ad_m1, ite_m1_lt, ite_m2_lt, ite_le_m1, ite_eq_m1, ite_eq_m2, ite_m1_m1, ite_m2_m2, ite_T, ite_F, ite_nz, ite_zz, ite_m1_le, ite_m1_eq, oi_none, oi_some, ob_some, lw_def, ck_true, ckp_su, ite_lt_t, ite_lt_f, ite_le_t, ite_le_f, ite_eq_t, ite_eq_f, ck_inb, nI_add, sb_nI, mu_nI, nI_clamp, sO_at, sO_sO, Nat.add_sub_cancel, Nat.zero_add, Nat.add_zero, li_0, li_1, li_2, li_3, li_4, li_5, li_6, li_7, li_8, li_9, li_10, li_11, li_12, li_16, li_20, li_24, li_31, li_32, li_48, li_49, li_73, li_74, li_75, li_97, li_98, li_99, li_100, li_101, li_109, li_110, li_255, li_680, li_700, li_9999, li_65536, li_65537, hp4, hk, e1, q4, q3, t, q9, j1, m1', m2'.2.1]
        · rw [if_neg c4] at t ⊢
          obtain ⟨w6, i1, i2⟩ := t
          exact bad2 i1 i2
      · rw [if_neg c3] at t ⊢
        obtain ⟨w6, i1, i2⟩ := t
        exact bad2 i1 i2
    · rw [if_neg c2] at g ⊢
      obtain ⟨w3, e1, e2⟩ := g
      exact bad e1 e2
  · rw [if_neg c1] at g ⊢
    obtain ⟨w3, e1, e2⟩ := g
    exact bad e1 e2
theorem m_readUnsure (hX : TxO X) (hp : p ≤ X.1) (hd : d < nd) (h : PM w d X D T (tk X p)) (h1 : (tk X p).1 = 1) (hov : D.2.2.1 ≤ 3) (h48 : dnt D ≤ 48) (hW : WFT D T) (h0 : ¬ 0 < D.2.2.1 → T.2.2.1.1 = 0) : match prS X D.2.2.1 T.2.2.1 4 T.2.1.1 1 p with
    | .inl (f, pl) => ∃ w2 : Wd, fX11_readUnsure nd w = some ((), w2) ∧ OV w w2 f pl
    | .inr (v1, v2, p3) => ∃ w2 : Wd, fX11_readUnsure nd w = some ((), w2) ∧ MG w w2 d X D (T.1, T.2.1, adP T.2.2.1 v1 (nI v2), T.2.2.2) p3 := by
  have hp4 := h.2.2.1
  have hN : T.2.2.1.1 ≤ 4 := hW.2.2.1.1
  have hA : T.2.1.1 < 10000 := by have := hW.2.1.1; omega
  have hk : (w 10 d).1 6 = nI T.2.2.1.1 := h.2.2.2.2.1.2.2.2.1.1
  have g := m_lb (nd := nd) (a := T.2.2.1.1) (b := 4) hX hp hd h h1 hov hN (by omega) (fun z => by rw [h0 z]; omega)
  have bad : ∀ {w3 : Wd} {f pl : Nat}, fX11_lineBegins nd w (nI T.2.2.1.1) (nI 4) = some ((), w3) → OV w w3 f pl → ∃ w2 : Wd, fX11_readUnsure nd w = some ((), w2) ∧ OV w w2 f pl := by
    intro w3 f pl e1 e2
    refine ⟨w3, ?_, e2⟩
    have q4 : (w3 11 0).2.2.1 4 = d + 1 := by rw [e2.1.2.2.1]; exact hp4
    unfold fX11_readUnsure fX11_readUnsure_58
    simp (disch := omega) only [↓mo_1, ↓mo_2, ad_m1, ite_m1_lt, ite_m2_lt, ite_le_m1, ite_eq_m1, ite_eq_m2, ite_m1_m1, ite_m2_m2, ite_T, ite_F, ite_nz, ite_zz, ite_m1_le, ite_m1_eq, oi_none, oi_some, ob_some, lw_def, ck_true, ckp_su, ite_lt_t, ite_lt_f, ite_le_t, ite_le_f, ite_eq_t, ite_eq_f, ck_inb, nI_add, sb_nI, mu_nI, nI_clamp, sO_at, sO_sO, Nat.add_sub_cancel, Nat.zero_add, Nat.add_zero, li_0, li_1, li_2, li_3, li_4, li_5, li_6, li_7, li_8, li_9, li_10, li_11, li_12, li_16, li_20, li_24, li_31, li_32, li_48, li_49, li_73, li_74, li_75, li_97, li_98, li_99, li_100, li_101, li_109, li_110, li_255, li_680, li_700, li_9999, li_65536, li_65537, hp4, hk, e1, q4, o_ta e2.2.1, e2.2.1, o_go e2.2.1, o_rw e2.2.1]
  unfold prS
  by_cases c1 : 0 < D.2.2.1
  · rw [if_pos c1] at g ⊢
    by_cases c2 : T.2.2.1.1 < 4
    · rw [if_pos c2] at g ⊢
      obtain ⟨w3, e1, e2, e3⟩ := g
      have q4 := e3.2.2.1
      have q3 : (w3 10 d).1 5 = nI T.2.1.1 := e3.2.2.2.2.1.2.2.1.1
      have t := m_ta (nd := nd) (a := T.2.1.1) (nx_le hp) e3.2.1 hA
      have bad2 : ∀ {w6 : Wd} {f pl : Nat}, fX11_toldAt nd w3 (nI T.2.1.1) = some (nI 0, w6) → OV w3 w6 f pl → ∃ w2 : Wd, fX11_readUnsure nd w = some ((), w2) ∧ OV w w2 f pl := by
        intro w6 f pl i1 i2
        refine ⟨w6, ?_, i2.pre e2.sv⟩
        unfold fX11_readUnsure fX11_readUnsure_58
        simp (disch := omega) only [↓mo_1, ↓mo_2, ad_m1, ite_m1_lt, ite_m2_lt, ite_le_m1, ite_eq_m1, ite_eq_m2, ite_m1_m1, ite_m2_m2, ite_T, ite_F, ite_nz, ite_zz, ite_m1_le, ite_m1_eq, oi_none, oi_some, ob_some, lw_def, ck_true, ckp_su, ite_lt_t, ite_lt_f, ite_le_t, ite_le_f, ite_eq_t, ite_eq_f, ck_inb, nI_add, sb_nI, mu_nI, nI_clamp, sO_at, sO_sO, Nat.add_sub_cancel, Nat.zero_add, Nat.add_zero, li_0, li_1, li_2, li_3, li_4, li_5, li_6, li_7, li_8, li_9, li_10, li_11, li_12, li_16, li_20, li_24, li_31, li_32, li_48, li_49, li_73, li_74, li_75, li_97, li_98, li_99, li_100, li_101, li_109, li_110, li_255, li_680, li_700, li_9999, li_65536, li_65537, hp4, hk, e1, q4, q3, i1, i2.2.1, o_go i2.2.1, o_rw i2.2.1]
      by_cases c3 : (tk X (nx X p)).1 = 2
      · rw [if_pos c3] at t ⊢
        by_cases c4 : vlT X (tk X (nx X p)) < T.2.1.1
        · rw [if_pos c4] at t ⊢
          have q9 := e3.2.1.1
          have ql := sg_lt (k := (tk X (nx X p)).1)
          obtain ⟨w4, j1, j2, j3⟩ := m_gx (nd := nd) hX e3.1 (nx_le hp) e3.2.1 (by omega)
          have h4 := e3.sg j2 j3
          have s4 := e2.tr j2
          obtain ⟨k1, k2⟩ := m_w9 (nd := nd) hX h4.1 (nx_le (nx_le hp)) h4.2.1
          have rk3 : (w3 10 d).1 6 = nI T.2.2.1.1 := e3.2.2.2.2.1.2.2.2.1.1
          have st := m_stands (nd := nd) (w := w3) (d := d) (g := T.2.2.1.2.1) (n := T.2.2.1.1) (f := vlT X (tk X (nx X p))) (k := 13) rfl e3.2.2.2.2.1.2.2.2.1.2.1 hN (by decide) (fun i hi => by have := hW.2.2.1.2.1 i hi; omega) (by omega)
          by_cases c5 : 1 = 1 ∧ inR T.2.2.1.2.1 (vlT X (tk X (nx X p))) T.2.2.1.1 = true
          · rw [if_pos c5]
            rw [c5.2, b2i_t] at st
            obtain ⟨w6, i1, i2⟩ := m_fl (nd := nd) (f := 3) e3.2.1
            refine ⟨w6, ?_, i2.pre e2.sv⟩
            unfold fX11_readUnsure fX11_readUnsure_58
            simp (disch := omega) only [↓mo_1, ↓mo_2, ad_m1, ite_m1_lt, ite_m2_lt, ite_le_m1, ite_eq_m1, ite_eq_m2, ite_m1_m1, ite_m2_m2, ite_T, ite_F, ite_nz, ite_zz, ite_m1_le, ite_m1_eq, oi_none, oi_some, ob_some, lw_def, ck_true, ckp_su, ite_lt_t, ite_lt_f, ite_le_t, ite_le_f, ite_eq_t, ite_eq_f, ck_inb, nI_add, sb_nI, mu_nI, nI_clamp, sO_at, sO_sO, Nat.add_sub_cancel, Nat.zero_add, Nat.add_zero, li_0, li_1, li_2, li_3, li_4, li_5, li_6, li_7, li_8, li_9, li_10, li_11, li_12, li_16, li_20, li_24, li_31, li_32, li_48, li_49, li_73, li_74, li_75, li_97, li_98, li_99, li_100, li_101, li_109, li_110, li_255, li_680, li_700, li_9999, li_65536, li_65537, hp4, hk, e1, q4, q3, t, q9, st, rk3, i1, o_go i2.2.1, o_rw i2.2.1, i2.2.1]
          · rw [if_neg c5]
            have z2 : inR T.2.2.1.2.1 (vlT X (tk X (nx X p))) T.2.2.1.1 = false := by
              cases y : inR T.2.2.1.2.1 (vlT X (tk X (nx X p))) T.2.2.1.1 with
              | false => rfl
              | true => exact absurd ⟨rfl, y⟩ c5
            rw [z2, b2i_f] at st
            by_cases c6 : (tk X (nx X (nx X p))).1 = 2
            · rw [if_pos c6]
              obtain ⟨w5, m1', m2', m3'⟩ := k1 c6
              have h5 := h4.sg m2' m3'
              have s5 := s4.tr m2'
              have r9 := m3'.1
              have rl := sg_lt (k := (tk X (nx X (nx X (nx X p)))).1)
              have r4 := h5.2.2.1
              have rk : (w5 10 d).1 6 = nI T.2.2.1.1 := h5.2.2.2.2.1.2.2.2.1.1
              refine ⟨_, ?_, MG.s10 s5 (fun _ => Or.inr trivial) (h5.s10 (o := oI (oA (oA (w5 10 d) 13 T.2.2.1.1 (nI (vlT X (tk X (nx X p))))) 14 T.2.2.1.1 (nI (vlT X (tk X (nx X (nx X p)))))) 6 (nI (T.2.2.1.1 + 1))) ?_ ?_ ?_)⟩
              · have n1 : ∀ {o : Ob}, sO w5 10 d o 11 0 = w5 11 0 := fun {o} => sO_nc (by decide)
                unfold fX11_readUnsure fX11_readUnsure_58
                simp (disch := omega) only [↓mo_1, ↓mo_2, ad_m1, ite_m1_lt, ite_m2_lt, ite_le_m1, ite_eq_m1, ite_eq_m2, ite_m1_m1, ite_m2_m2, ite_T, ite_F, ite_nz, ite_zz, ite_m1_le, ite_m1_eq, oi_none, oi_some, ob_some, lw_def, ck_true, ckp_su, ite_lt_t, ite_lt_f, ite_le_t, ite_le_f, ite_eq_t, ite_eq_f, ck_inb, nI_add, sb_nI, mu_nI, nI_clamp, sO_at, sO_sO, Nat.add_sub_cancel, Nat.zero_add, Nat.add_zero, li_0, li_1, li_2, li_3, li_4, li_5, li_6, li_7, li_8, li_9, li_10, li_11, li_12, li_16, li_20, li_24, li_31, li_32, li_48, li_49, li_73, li_74, li_75, li_97, li_98, li_99, li_100, li_101, li_109, li_110, li_255, li_680, li_700, li_9999, li_65536, li_65537, hp4, hk, e1, q4, q3, t, q9, st, rk3, j1, m1', r9, r4, sA, sI, n1, rk, oA_1, oI_a, oI_n]
              · obtain ⟨z1, z2, z3, z4, z5, z6⟩ := h5.2.2.2.1
                exact ⟨by rw [oI_n (by decide), oA_1, oA_1]; exact z1, by rw [oI_n (by decide), oA_1, oA_1]; exact z2, by rw [oI_n (by decide), oA_1, oA_1]; exact z3, by rw [oI_n (by decide), oA_1, oA_1]; exact z4, fun b hb => by rw [oI_2, oA_n (by decide), oA_n (by decide)]; exact z5 b hb, z6⟩
              · obtain ⟨z1, z2, z3, z4, z5⟩ := h5.2.2.2.2.1
                refine ⟨by rw [oI_n (by decide), oA_1, oA_1]; exact z1, fun t ht => by rw [oI_2, oA_n (by decide), oA_n (by decide)]; exact z2 t ht, ?_, ?_, ?_⟩
                · exact ⟨by rw [oI_n (by decide), oA_1, oA_1]; exact z3.1, fun i hi => by rw [oI_2, oA_n (by decide), oA_n (by decide)]; exact z3.2.1 i hi, fun i hi => by rw [oI_2, oA_n (by decide), oA_n (by decide)]; exact z3.2.2 i hi⟩
                · refine ⟨by rw [oI_a]; rfl, fun i hi => ?_, fun i hi => ?_⟩
                  · have hi : i < T.2.2.1.1 + 1 := hi
                    rw [oI_2, oA_n (by decide), oA_a]
                    show _ = nI (va_up T.2.2.1.2.1 T.2.2.1.1 _ i)
                    by_cases y : i = T.2.2.1.1
                    · rw [y, upd_at, va_up_self]
                    · rw [upd_ne y, va_up_ne _ _ y]
                      exact z4.2.1 i (by omega)
                  · have hi : i < T.2.2.1.1 + 1 := hi
                    rw [oI_2, oA_a, oA_n (by decide)]
                    show _ = va_up T.2.2.1.2.2 T.2.2.1.1 _ i
                    by_cases y : i = T.2.2.1.1
                    · rw [y, upd_at, va_up_self]
                    · rw [upd_ne y, va_up_ne _ _ y]
                      exact z4.2.2 i (by omega)
                · exact ⟨by rw [oI_n (by decide), oA_1, oA_1]; exact z5.1, fun i hi => by rw [oI_2, oA_n (by decide), oA_n (by decide)]; exact z5.2.1 i hi, fun i hi => by rw [oI_2, oA_n (by decide), oA_n (by decide)]; exact z5.2.2 i hi⟩
              · obtain ⟨z1, z2⟩ := h5.2.2.2.2.2
                exact ⟨by rw [oI_n (by decide), oA_1, oA_1]; exact z1, fun t ht => by rw [oI_2, oA_n (by decide), oA_n (by decide)]; exact z2 t ht⟩
            · rw [if_neg c6]
              obtain ⟨w5, m1', m2'⟩ := k2 c6
              refine ⟨w5, ?_, m2'.pre s4.sv⟩
              unfold fX11_readUnsure fX11_readUnsure_58
              simp (disch := omega) only [↓mo_1, ↓mo_2, ad_m1, ite_m1_lt, ite_m2_lt, ite_le_m1, ite_eq_m1, ite_eq_m2, ite_m1_m1, ite_m2_m2, ite_T, ite_F, ite_nz, ite_zz, ite_m1_le, ite_m1_eq, oi_none, oi_some, ob_some, lw_def, ck_true, ckp_su, ite_lt_t, ite_lt_f, ite_le_t, ite_le_f, ite_eq_t, ite_eq_f, ck_inb, nI_add, sb_nI, mu_nI, nI_clamp, sO_at, sO_sO, Nat.add_sub_cancel, Nat.zero_add, Nat.add_zero, li_0, li_1, li_2, li_3, li_4, li_5, li_6, li_7, li_8, li_9, li_10, li_11, li_12, li_16, li_20, li_24, li_31, li_32, li_48, li_49, li_73, li_74, li_75, li_97, li_98, li_99, li_100, li_101, li_109, li_110, li_255, li_680, li_700, li_9999, li_65536, li_65537, hp4, hk, e1, q4, q3, t, q9, st, rk3, j1, m1', m2'.2.1]
        · rw [if_neg c4] at t ⊢
          obtain ⟨w6, i1, i2⟩ := t
          exact bad2 i1 i2
      · rw [if_neg c3] at t ⊢
        obtain ⟨w6, i1, i2⟩ := t
        exact bad2 i1 i2
    · rw [if_neg c2] at g ⊢
      obtain ⟨w3, e1, e2⟩ := g
      exact bad e1 e2
  · rw [if_neg c1] at g ⊢
    obtain ⟨w3, e1, e2⟩ := g
    exact bad e1 e2
theorem m_readRead (hX : TxO X) (hp : p ≤ X.1) (hd : d < nd) (h : PM w d X D T (tk X p)) (h1 : (tk X p).1 = 1) (hov : D.2.2.1 ≤ 3) (h48 : dnt D ≤ 48) (hW : WFT D T) (h0 : ¬ 0 < D.2.2.1 → T.2.2.2.1 = 0) : match prS X D.2.2.1 T.2.2.2 6 (dnt D) 1 p with
    | .inl (f, pl) => ∃ w2 : Wd, fX11_readRead nd w = some ((), w2) ∧ OV w w2 f pl
    | .inr (v1, v2, p3) => ∃ w2 : Wd, fX11_readRead nd w = some ((), w2) ∧ MG w w2 d X D (T.1, T.2.1, T.2.2.1, adP T.2.2.2 v1 (nI v2)) p3 := by
  have hp4 := h.2.2.1
  have hN : T.2.2.2.1 ≤ 6 := hW.2.2.2.1
  have hA : (dnt D) < 10000 := by have := hW.2.1.1; omega
  have hk : (w 10 d).1 7 = nI T.2.2.2.1 := h.2.2.2.2.1.2.2.2.2.1
  have g := m_lb (nd := nd) (a := T.2.2.2.1) (b := 6) hX hp hd h h1 hov hN (by omega) (fun z => by rw [h0 z]; omega)
  have bad : ∀ {w3 : Wd} {f pl : Nat}, fX11_lineBegins nd w (nI T.2.2.2.1) (nI 6) = some ((), w3) → OV w w3 f pl → ∃ w2 : Wd, fX11_readRead nd w = some ((), w2) ∧ OV w w2 f pl := by
    intro w3 f pl e1 e2
    refine ⟨w3, ?_, e2⟩
    have q4 : (w3 11 0).2.2.1 4 = d + 1 := by rw [e2.1.2.2.1]; exact hp4
    unfold fX11_readRead fX11_readRead_59
    simp (disch := omega) only [↓mo_1, ↓mo_2, ad_m1, ite_m1_lt, ite_m2_lt, ite_le_m1, ite_eq_m1, ite_eq_m2, ite_m1_m1, ite_m2_m2, ite_T, ite_F, ite_nz, ite_zz, ite_m1_le, ite_m1_eq, oi_none, oi_some, ob_some, lw_def, ck_true, ckp_su, ite_lt_t, ite_lt_f, ite_le_t, ite_le_f, ite_eq_t, ite_eq_f, ck_inb, nI_add, sb_nI, mu_nI, nI_clamp, sO_at, sO_sO, Nat.add_sub_cancel, Nat.zero_add, Nat.add_zero, li_0, li_1, li_2, li_3, li_4, li_5, li_6, li_7, li_8, li_9, li_10, li_11, li_12, li_16, li_20, li_24, li_31, li_32, li_48, li_49, li_73, li_74, li_75, li_97, li_98, li_99, li_100, li_101, li_109, li_110, li_255, li_680, li_700, li_9999, li_65536, li_65537, hp4, hk, e1, q4, o_ta e2.2.1, e2.2.1, o_go e2.2.1, o_rw e2.2.1]
  unfold prS
  by_cases c1 : 0 < D.2.2.1
  · rw [if_pos c1] at g ⊢
    by_cases c2 : T.2.2.2.1 < 6
    · rw [if_pos c2] at g ⊢
      obtain ⟨w3, e1, e2, e3⟩ := g
      have q4 := e3.2.2.1
      have q3 : (w3 10 d).1 3 = nI (dnt D) := e3.2.2.2.2.1.1
      have t := m_ta (nd := nd) (a := (dnt D)) (nx_le hp) e3.2.1 hA
      have bad2 : ∀ {w6 : Wd} {f pl : Nat}, fX11_toldAt nd w3 (nI (dnt D)) = some (nI 0, w6) → OV w3 w6 f pl → ∃ w2 : Wd, fX11_readRead nd w = some ((), w2) ∧ OV w w2 f pl := by
        intro w6 f pl i1 i2
        refine ⟨w6, ?_, i2.pre e2.sv⟩
        unfold fX11_readRead fX11_readRead_59
        simp (disch := omega) only [↓mo_1, ↓mo_2, ad_m1, ite_m1_lt, ite_m2_lt, ite_le_m1, ite_eq_m1, ite_eq_m2, ite_m1_m1, ite_m2_m2, ite_T, ite_F, ite_nz, ite_zz, ite_m1_le, ite_m1_eq, oi_none, oi_some, ob_some, lw_def, ck_true, ckp_su, ite_lt_t, ite_lt_f, ite_le_t, ite_le_f, ite_eq_t, ite_eq_f, ck_inb, nI_add, sb_nI, mu_nI, nI_clamp, sO_at, sO_sO, Nat.add_sub_cancel, Nat.zero_add, Nat.add_zero, li_0, li_1, li_2, li_3, li_4, li_5, li_6, li_7, li_8, li_9, li_10, li_11, li_12, li_16, li_20, li_24, li_31, li_32, li_48, li_49, li_73, li_74, li_75, li_97, li_98, li_99, li_100, li_101, li_109, li_110, li_255, li_680, li_700, li_9999, li_65536, li_65537, hp4, hk, e1, q4, q3, i1, i2.2.1, o_go i2.2.1, o_rw i2.2.1]
      by_cases c3 : (tk X (nx X p)).1 = 2
      · rw [if_pos c3] at t ⊢
        by_cases c4 : vlT X (tk X (nx X p)) < (dnt D)
        · rw [if_pos c4] at t ⊢
          have q9 := e3.2.1.1
          have ql := sg_lt (k := (tk X (nx X p)).1)
          obtain ⟨w4, j1, j2, j3⟩ := m_gx (nd := nd) hX e3.1 (nx_le hp) e3.2.1 (by omega)
          have h4 := e3.sg j2 j3
          have s4 := e2.tr j2
          obtain ⟨k1, k2⟩ := m_w9 (nd := nd) hX h4.1 (nx_le (nx_le hp)) h4.2.1
          have rk3 : (w3 10 d).1 7 = nI T.2.2.2.1 := e3.2.2.2.2.1.2.2.2.2.1
          have st := m_stands (nd := nd) (w := w3) (d := d) (g := T.2.2.2.2.1) (n := T.2.2.2.1) (f := vlT X (tk X (nx X p))) (k := 15) rfl e3.2.2.2.2.1.2.2.2.2.2.1 hN (by decide) (fun i hi => by have := hW.2.2.2.2 i hi; omega) (by omega)
          by_cases c5 : 1 = 1 ∧ inR T.2.2.2.2.1 (vlT X (tk X (nx X p))) T.2.2.2.1 = true
          · rw [if_pos c5]
            rw [c5.2, b2i_t] at st
            obtain ⟨w6, i1, i2⟩ := m_fl (nd := nd) (f := 3) e3.2.1
            refine ⟨w6, ?_, i2.pre e2.sv⟩
            unfold fX11_readRead fX11_readRead_59
            simp (disch := omega) only [↓mo_1, ↓mo_2, ad_m1, ite_m1_lt, ite_m2_lt, ite_le_m1, ite_eq_m1, ite_eq_m2, ite_m1_m1, ite_m2_m2, ite_T, ite_F, ite_nz, ite_zz, ite_m1_le, ite_m1_eq, oi_none, oi_some, ob_some, lw_def, ck_true, ckp_su, ite_lt_t, ite_lt_f, ite_le_t, ite_le_f, ite_eq_t, ite_eq_f, ck_inb, nI_add, sb_nI, mu_nI, nI_clamp, sO_at, sO_sO, Nat.add_sub_cancel, Nat.zero_add, Nat.add_zero, li_0, li_1, li_2, li_3, li_4, li_5, li_6, li_7, li_8, li_9, li_10, li_11, li_12, li_16, li_20, li_24, li_31, li_32, li_48, li_49, li_73, li_74, li_75, li_97, li_98, li_99, li_100, li_101, li_109, li_110, li_255, li_680, li_700, li_9999, li_65536, li_65537, hp4, hk, e1, q4, q3, t, q9, st, rk3, i1, o_go i2.2.1, o_rw i2.2.1, i2.2.1]
          · rw [if_neg c5]
            have z2 : inR T.2.2.2.2.1 (vlT X (tk X (nx X p))) T.2.2.2.1 = false := by
              cases y : inR T.2.2.2.2.1 (vlT X (tk X (nx X p))) T.2.2.2.1 with
              | false => rfl
              | true => exact absurd ⟨rfl, y⟩ c5
            rw [z2, b2i_f] at st
            by_cases c6 : (tk X (nx X (nx X p))).1 = 2
            · rw [if_pos c6]
              obtain ⟨w5, m1', m2', m3'⟩ := k1 c6
              have h5 := h4.sg m2' m3'
              have s5 := s4.tr m2'
              have r9 := m3'.1
              have rl := sg_lt (k := (tk X (nx X (nx X (nx X p)))).1)
              have r4 := h5.2.2.1
              have rk : (w5 10 d).1 7 = nI T.2.2.2.1 := h5.2.2.2.2.1.2.2.2.2.1
              refine ⟨_, ?_, MG.s10 s5 (fun _ => Or.inr trivial) (h5.s10 (o := oI (oA (oA (w5 10 d) 15 T.2.2.2.1 (nI (vlT X (tk X (nx X p))))) 16 T.2.2.2.1 (nI (vlT X (tk X (nx X (nx X p)))))) 7 (nI (T.2.2.2.1 + 1))) ?_ ?_ ?_)⟩
              · have n1 : ∀ {o : Ob}, sO w5 10 d o 11 0 = w5 11 0 := fun {o} => sO_nc (by decide)
                unfold fX11_readRead fX11_readRead_59
                simp (disch := omega) only [↓mo_1, ↓mo_2, ad_m1, ite_m1_lt, ite_m2_lt, ite_le_m1, ite_eq_m1, ite_eq_m2, ite_m1_m1, ite_m2_m2, ite_T, ite_F, ite_nz, ite_zz, ite_m1_le, ite_m1_eq, oi_none, oi_some, ob_some, lw_def, ck_true, ckp_su, ite_lt_t, ite_lt_f, ite_le_t, ite_le_f, ite_eq_t, ite_eq_f, ck_inb, nI_add, sb_nI, mu_nI, nI_clamp, sO_at, sO_sO, Nat.add_sub_cancel, Nat.zero_add, Nat.add_zero, li_0, li_1, li_2, li_3, li_4, li_5, li_6, li_7, li_8, li_9, li_10, li_11, li_12, li_16, li_20, li_24, li_31, li_32, li_48, li_49, li_73, li_74, li_75, li_97, li_98, li_99, li_100, li_101, li_109, li_110, li_255, li_680, li_700, li_9999, li_65536, li_65537, hp4, hk, e1, q4, q3, t, q9, st, rk3, j1, m1', r9, r4, sA, sI, n1, rk, oA_1, oI_a, oI_n]
              · obtain ⟨z1, z2, z3, z4, z5, z6⟩ := h5.2.2.2.1
                exact ⟨by rw [oI_n (by decide), oA_1, oA_1]; exact z1, by rw [oI_n (by decide), oA_1, oA_1]; exact z2, by rw [oI_n (by decide), oA_1, oA_1]; exact z3, by rw [oI_n (by decide), oA_1, oA_1]; exact z4, fun b hb => by rw [oI_2, oA_n (by decide), oA_n (by decide)]; exact z5 b hb, z6⟩
              · obtain ⟨z1, z2, z3, z4, z5⟩ := h5.2.2.2.2.1
                refine ⟨by rw [oI_n (by decide), oA_1, oA_1]; exact z1, fun t ht => by rw [oI_2, oA_n (by decide), oA_n (by decide)]; exact z2 t ht, ?_, ?_, ?_⟩
                · exact ⟨by rw [oI_n (by decide), oA_1, oA_1]; exact z3.1, fun i hi => by rw [oI_2, oA_n (by decide), oA_n (by decide)]; exact z3.2.1 i hi, fun i hi => by rw [oI_2, oA_n (by decide), oA_n (by decide)]; exact z3.2.2 i hi⟩
                · exact ⟨by rw [oI_n (by decide), oA_1, oA_1]; exact z4.1, fun i hi => by rw [oI_2, oA_n (by decide), oA_n (by decide)]; exact z4.2.1 i hi, fun i hi => by rw [oI_2, oA_n (by decide), oA_n (by decide)]; exact z4.2.2 i hi⟩
                · refine ⟨by rw [oI_a]; rfl, fun i hi => ?_, fun i hi => ?_⟩
                  · have hi : i < T.2.2.2.1 + 1 := hi
                    rw [oI_2, oA_n (by decide), oA_a]
                    show _ = nI (va_up T.2.2.2.2.1 T.2.2.2.1 _ i)
                    by_cases y : i = T.2.2.2.1
                    · rw [y, upd_at, va_up_self]
                    · rw [upd_ne y, va_up_ne _ _ y]
                      exact z5.2.1 i (by omega)
                  · have hi : i < T.2.2.2.1 + 1 := hi
                    rw [oI_2, oA_a, oA_n (by decide)]
                    show _ = va_up T.2.2.2.2.2 T.2.2.2.1 _ i
                    by_cases y : i = T.2.2.2.1
                    · rw [y, upd_at, va_up_self]
                    · rw [upd_ne y, va_up_ne _ _ y]
                      exact z5.2.2 i (by omega)
              · obtain ⟨z1, z2⟩ := h5.2.2.2.2.2
                exact ⟨by rw [oI_n (by decide), oA_1, oA_1]; exact z1, fun t ht => by rw [oI_2, oA_n (by decide), oA_n (by decide)]; exact z2 t ht⟩
            · rw [if_neg c6]
              obtain ⟨w5, m1', m2'⟩ := k2 c6
              refine ⟨w5, ?_, m2'.pre s4.sv⟩
              unfold fX11_readRead fX11_readRead_59
              simp (disch := omega) only [↓mo_1, ↓mo_2, ad_m1, ite_m1_lt, ite_m2_lt, ite_le_m1, ite_eq_m1, ite_eq_m2, ite_m1_m1, ite_m2_m2, ite_T, ite_F, ite_nz, ite_zz, ite_m1_le, ite_m1_eq, oi_none, oi_some, ob_some, lw_def, ck_true, ckp_su, ite_lt_t, ite_lt_f, ite_le_t, ite_le_f, ite_eq_t, ite_eq_f, ck_inb, nI_add, sb_nI, mu_nI, nI_clamp, sO_at, sO_sO, Nat.add_sub_cancel, Nat.zero_add, Nat.add_zero, li_0, li_1, li_2, li_3, li_4, li_5, li_6, li_7, li_8, li_9, li_10, li_11, li_12, li_16, li_20, li_24, li_31, li_32, li_48, li_49, li_73, li_74, li_75, li_97, li_98, li_99, li_100, li_101, li_109, li_110, li_255, li_680, li_700, li_9999, li_65536, li_65537, hp4, hk, e1, q4, q3, t, q9, st, rk3, j1, m1', m2'.2.1]
        · rw [if_neg c4] at t ⊢
          obtain ⟨w6, i1, i2⟩ := t
          exact bad2 i1 i2
      · rw [if_neg c3] at t ⊢
        obtain ⟨w6, i1, i2⟩ := t
        exact bad2 i1 i2
    · rw [if_neg c2] at g ⊢
      obtain ⟨w3, e1, e2⟩ := g
      exact bad e1 e2
  · rw [if_neg c1] at g ⊢
    obtain ⟨w3, e1, e2⟩ := g
    exact bad e1 e2
end PM2
