/-! ===== the lines of a text, all of them ===== -/
section PM3
variable {w w2 : Wd} {X : Tx} {D : Dk} {T : Tk} {p nd d : Nat}
theorem m_rp (hX : TxO X) (hE : ME w X) {i lo hi : Nat} (hi10 : i < 10) (hp : p ≤ X.1) (h : MT w X (tk X p)) (hlo : lo < 2 ^ 31) (hhi : hi < 2 ^ 31) : if iwS X (tk X p) i = true then (match whS X lo hi (nx X p) with
    | .inl (f, pl) => ∃ (w2 : Wd), fX11_readPart nd i w (nI lo) (nI hi) = some (nI lo, w2) ∧ OV w w2 f pl
    | .inr (v, p2) => ∃ w2 : Wd, fX11_readPart nd i w (nI lo) (nI hi) = some (nI v, w2) ∧ SG w w2 ∧ MT w2 X (tk X p2)) else ∃ (w2 : Wd), fX11_readPart nd i w (nI lo) (nI hi) = some (nI lo, w2) ∧ OV w w2 1 (tk X p).2.1 := by
  by_cases c : iwS X (tk X p) i = true
  · rw [if_pos c]
    obtain ⟨w3, e1, e2, e3⟩ := m_ne1 (nd := nd) hX hE hp hi10 h c
    have g := m_wS (nd := nd) (lo := lo) (hi := hi) hX (hE.sg e2) (nx_le hp) e3 hlo hhi
    cases e : whS X lo hi (nx X p) with
    | inl z =>
      obtain ⟨f, pl⟩ := z
      rw [e] at g
      obtain ⟨w5, i1, i2⟩ := g
      refine ⟨w5, ?_, i2.pre e2.sv⟩
      unfold fX11_readPart
      simp (disch := omega) only [↓mo_1, ↓mo_2, ad_m1, ite_m1_lt, ite_m2_lt, ite_le_m1, ite_eq_m1, ite_eq_m2, ite_m1_m1, ite_m2_m2, ite_T, ite_F, ite_nz, ite_zz, ite_m1_le, ite_m1_eq, oi_none, oi_some, ob_some, lw_def, ck_true, ckp_su, ite_lt_t, ite_lt_f, ite_le_t, ite_le_f, ite_eq_t, ite_eq_f, ck_inb, nI_add, sb_nI, mu_nI, nI_clamp, sO_at, sO_sO, Nat.add_sub_cancel, Nat.zero_add, Nat.add_zero, li_0, li_1, li_2, li_3, li_4, li_5, li_6, li_7, li_8, li_9, li_10, li_11, li_12, li_16, li_20, li_24, li_31, li_32, li_48, li_49, li_73, li_74, li_75, li_97, li_98, li_99, li_100, li_101, li_109, li_110, li_255, li_680, li_700, li_9999, li_65536, li_65537, e1, i1]
    | inr z =>
      obtain ⟨v, p2⟩ := z
      rw [e] at g
      obtain ⟨w5, i1, i2, i3⟩ := g
      refine ⟨w5, ?_, e2.tr i2, i3⟩
      unfold fX11_readPart
      simp (disch := omega) only [↓mo_1, ↓mo_2, ad_m1, ite_m1_lt, ite_m2_lt, ite_le_m1, ite_eq_m1, ite_eq_m2, ite_m1_m1, ite_m2_m2, ite_T, ite_F, ite_nz, ite_zz, ite_m1_le, ite_m1_eq, oi_none, oi_some, ob_some, lw_def, ck_true, ckp_su, ite_lt_t, ite_lt_f, ite_le_t, ite_le_f, ite_eq_t, ite_eq_f, ck_inb, nI_add, sb_nI, mu_nI, nI_clamp, sO_at, sO_sO, Nat.add_sub_cancel, Nat.zero_add, Nat.add_zero, li_0, li_1, li_2, li_3, li_4, li_5, li_6, li_7, li_8, li_9, li_10, li_11, li_12, li_16, li_20, li_24, li_31, li_32, li_48, li_49, li_73, li_74, li_75, li_97, li_98, li_99, li_100, li_101, li_109, li_110, li_255, li_680, li_700, li_9999, li_65536, li_65537, e1, i1]
  · rw [if_neg c]
    have c' : iwS X (tk X p) i = false := by
      cases y : iwS X (tk X p) i with
      | false => rfl
      | true => exact absurd y c
    obtain ⟨w3, e1, e2⟩ := m_ne0 (nd := nd) hp hi10 h c'
    refine ⟨w3, ?_, e2⟩
    unfold fX11_readPart
    simp (disch := omega) only [↓mo_1, ↓mo_2, ad_m1, ite_m1_lt, ite_m2_lt, ite_le_m1, ite_eq_m1, ite_eq_m2, ite_m1_m1, ite_m2_m2, ite_T, ite_F, ite_nz, ite_zz, ite_m1_le, ite_m1_eq, oi_none, oi_some, ob_some, lw_def, ck_true, ckp_su, ite_lt_t, ite_lt_f, ite_le_t, ite_le_f, ite_eq_t, ite_eq_f, ck_inb, nI_add, sb_nI, mu_nI, nI_clamp, sO_at, sO_sO, Nat.add_sub_cancel, Nat.zero_add, Nat.add_zero, li_0, li_1, li_2, li_3, li_4, li_5, li_6, li_7, li_8, li_9, li_10, li_11, li_12, li_16, li_20, li_24, li_31, li_32, li_48, li_49, li_73, li_74, li_75, li_97, li_98, li_99, li_100, li_101, li_109, li_110, li_255, li_680, li_700, li_9999, li_65536, li_65537, e1, o_rw e2.2.1]
theorem o_63 {x y z : Int32} (h : (w 11 0).1 9 = nI 5) : fX11_readDisk_63 nd w x y z = some ((), w) := by
  unfold fX11_readDisk_63
  simp (disch := omega) only [↓mo_1, ↓mo_2, ad_m1, ite_m1_lt, ite_m2_lt, ite_le_m1, ite_eq_m1, ite_eq_m2, ite_m1_m1, ite_m2_m2, ite_T, ite_F, ite_nz, ite_zz, ite_m1_le, ite_m1_eq, oi_none, oi_some, ob_some, lw_def, ck_true, ckp_su, ite_lt_t, ite_lt_f, ite_le_t, ite_le_f, ite_eq_t, ite_eq_f, ck_inb, nI_add, sb_nI, mu_nI, nI_clamp, sO_at, sO_sO, Nat.add_sub_cancel, Nat.zero_add, Nat.add_zero, li_0, li_1, li_2, li_3, li_4, li_5, li_6, li_7, li_8, li_9, li_10, li_11, li_12, li_16, li_20, li_24, li_31, li_32, li_48, li_49, li_73, li_74, li_75, li_97, li_98, li_99, li_100, li_101, li_109, li_110, li_255, li_680, li_700, li_9999, li_65536, li_65537, h, o_go h]
theorem o_15 (h : (w 11 0).1 9 = nI 5) : fX11_readDisk_15 nd w = some ((), w) := by
  unfold fX11_readDisk_15
  simp (disch := omega) only [↓mo_1, ↓mo_2, ad_m1, ite_m1_lt, ite_m2_lt, ite_le_m1, ite_eq_m1, ite_eq_m2, ite_m1_m1, ite_m2_m2, ite_T, ite_F, ite_nz, ite_zz, ite_m1_le, ite_m1_eq, oi_none, oi_some, ob_some, lw_def, ck_true, ckp_su, ite_lt_t, ite_lt_f, ite_le_t, ite_le_f, ite_eq_t, ite_eq_f, ck_inb, nI_add, sb_nI, mu_nI, nI_clamp, sO_at, sO_sO, Nat.add_sub_cancel, Nat.zero_add, Nat.add_zero, li_0, li_1, li_2, li_3, li_4, li_5, li_6, li_7, li_8, li_9, li_10, li_11, li_12, li_16, li_20, li_24, li_31, li_32, li_48, li_49, li_73, li_74, li_75, li_97, li_98, li_99, li_100, li_101, li_109, li_110, li_255, li_680, li_700, li_9999, li_65536, li_65537, h, o_go h, o_rp h, o_iw h, o_fl h, o_63 h]
theorem m_disk (hX : TxO X) (hp : p ≤ X.1) (hd : d < nd) (h : PM w d X D T (tk X p)) (h1 : (tk X p).1 = 1) (hov : D.2.2.1 ≤ 3) : match dkS X D.2.2.1 p with
    | .inl (f, pl) => ∃ w2 : Wd, fX11_readDisk nd w = some ((), w2) ∧ OV w w2 f pl
    | .inr (v2, v4, b, p6) => ∃ w2 : Wd, fX11_readDisk nd w = some ((), w2) ∧ MG w w2 d X (D.1, D.2.1, v2, v4, b) T p6 := by
  have hp4 := h.2.2.1
  have ho := h.2.2.2.1.1
  unfold dkS
  by_cases c1 : 0 < D.2.2.1
  · rw [if_pos c1]
    obtain ⟨w3, e1, e2⟩ := m_fl (nd := nd) (f := 3) h.2.1
    refine ⟨w3, ?_, e2⟩
    unfold fX11_readDisk
    simp (disch := omega) only [↓mo_1, ↓mo_2, ad_m1, ite_m1_lt, ite_m2_lt, ite_le_m1, ite_eq_m1, ite_eq_m2, ite_m1_m1, ite_m2_m2, ite_T, ite_F, ite_nz, ite_zz, ite_m1_le, ite_m1_eq, oi_none, oi_some, ob_some, lw_def, ck_true, ckp_su, ite_lt_t, ite_lt_f, ite_le_t, ite_le_f, ite_eq_t, ite_eq_f, ck_inb, nI_add, sb_nI, mu_nI, nI_clamp, sO_at, sO_sO, Nat.add_sub_cancel, Nat.zero_add, Nat.add_zero, li_0, li_1, li_2, li_3, li_4, li_5, li_6, li_7, li_8, li_9, li_10, li_11, li_12, li_16, li_20, li_24, li_31, li_32, li_48, li_49, li_73, li_74, li_75, li_97, li_98, li_99, li_100, li_101, li_109, li_110, li_255, li_680, li_700, li_9999, li_65536, li_65537, hp4, ho, e1, o_15 e2.2.1]
  · rw [if_neg c1]
    have st : fX11_readDisk nd w = fX11_readDisk_15 nd w := by
      unfold fX11_readDisk
      simp (disch := omega) only [↓mo_1, ↓mo_2, ad_m1, ite_m1_lt, ite_m2_lt, ite_le_m1, ite_eq_m1, ite_eq_m2, ite_m1_m1, ite_m2_m2, ite_T, ite_F, ite_nz, ite_zz, ite_m1_le, ite_m1_eq, oi_none, oi_some, ob_some, lw_def, ck_true, ckp_su, ite_lt_t, ite_lt_f, ite_le_t, ite_le_f, ite_eq_t, ite_eq_f, ck_inb, nI_add, sb_nI, mu_nI, nI_clamp, sO_at, sO_sO, Nat.add_sub_cancel, Nat.zero_add, Nat.add_zero, li_0, li_1, li_2, li_3, li_4, li_5, li_6, li_7, li_8, li_9, li_10, li_11, li_12, li_16, li_20, li_24, li_31, li_32, li_48, li_49, li_73, li_74, li_75, li_97, li_98, li_99, li_100, li_101, li_109, li_110, li_255, li_680, li_700, li_9999, li_65536, li_65537, hp4, ho]
    rw [st]
    obtain ⟨w6, a1, a2, a3⟩ := m_gx (nd := nd) hX h.1 hp h.2.1 (by omega)
    have h6 := h.sg a2 a3
    have p1 := nx_le hp
    have g := m_rp (nd := nd) (i := 6) (lo := 1) (hi := 3) hX h6.1 (by omega) p1 h6.2.1 (by omega) (by omega)
    have bad1 : ∀ {w8 : Wd} {f pl : Nat}, fX11_readPart nd 6 w6 (nI 1) (nI 3) = some (nI 1, w8) → OV w6 w8 f pl → ∃ w2 : Wd, fX11_readDisk_15 nd w = some ((), w2) ∧ OV w w2 f pl := by
      intro w8 f pl i1 i2
      refine ⟨w8, ?_, i2.pre a2.sv⟩
      have k := i2.2.1
      unfold fX11_readDisk_15
      simp (disch := omega) only [↓mo_1, ↓mo_2, ad_m1, ite_m1_lt, ite_m2_lt, ite_le_m1, ite_eq_m1, ite_eq_m2, ite_m1_m1, ite_m2_m2, ite_T, ite_F, ite_nz, ite_zz, ite_m1_le, ite_m1_eq, oi_none, oi_some, ob_some, lw_def, ck_true, ckp_su, ite_lt_t, ite_lt_f, ite_le_t, ite_le_f, ite_eq_t, ite_eq_f, ck_inb, nI_add, sb_nI, mu_nI, nI_clamp, sO_at, sO_sO, Nat.add_sub_cancel, Nat.zero_add, Nat.add_zero, li_0, li_1, li_2, li_3, li_4, li_5, li_6, li_7, li_8, li_9, li_10, li_11, li_12, li_16, li_20, li_24, li_31, li_32, li_48, li_49, li_73, li_74, li_75, li_97, li_98, li_99, li_100, li_101, li_109, li_110, li_255, li_680, li_700, li_9999, li_65536, li_65537, a1, i1, o_rp k, o_iw k, o_fl k, o_63 k]
    unfold dkO
    by_cases c2 : iwS X (tk X (nx X p)) 6 = true
    · rw [if_pos c2] at g ⊢
      cases e : whS X 1 3 (nx X (nx X p)) with
      | inl z =>
        obtain ⟨f, pl⟩ := z
        rw [e] at g
        obtain ⟨w8, i1, i2⟩ := g
        exact bad1 i1 i2
      | inr z =>
        obtain ⟨v2, p3'⟩ := z
        rw [e] at g
        obtain ⟨w8, i1, i2, i3⟩ := g
        obtain ⟨-, f1, f2, -, f3⟩ := wh_r e
        have p3 : p3' ≤ X.1 := by rw [f3]; exact nx_le (nx_le p1)
        have h8 := h6.sg i2 i3
        have s8 := a2.tr i2
        have gg := m_rp (nd := nd) (i := 7) (lo := 2) (hi := 24) hX h8.1 (by omega) p3 h8.2.1 (by omega) (by omega)
        have bad2 : ∀ {w10 : Wd} {f pl : Nat}, fX11_readPart nd 7 w8 (nI 2) (nI 24) = some (nI 2, w10) → OV w8 w10 f pl → ∃ w2 : Wd, fX11_readDisk_15 nd w = some ((), w2) ∧ OV w w2 f pl := by
          intro w10 f pl j1 j2
          refine ⟨w10, ?_, j2.pre s8.sv⟩
          have k := j2.2.1
          unfold fX11_readDisk_15
          simp (disch := omega) only [↓mo_1, ↓mo_2, ad_m1, ite_m1_lt, ite_m2_lt, ite_le_m1, ite_eq_m1, ite_eq_m2, ite_m1_m1, ite_m2_m2, ite_T, ite_F, ite_nz, ite_zz, ite_m1_le, ite_m1_eq, oi_none, oi_some, ob_some, lw_def, ck_true, ckp_su, ite_lt_t, ite_lt_f, ite_le_t, ite_le_f, ite_eq_t, ite_eq_f, ck_inb, nI_add, sb_nI, mu_nI, nI_clamp, sO_at, sO_sO, Nat.add_sub_cancel, Nat.zero_add, Nat.add_zero, li_0, li_1, li_2, li_3, li_4, li_5, li_6, li_7, li_8, li_9, li_10, li_11, li_12, li_16, li_20, li_24, li_31, li_32, li_48, li_49, li_73, li_74, li_75, li_97, li_98, li_99, li_100, li_101, li_109, li_110, li_255, li_680, li_700, li_9999, li_65536, li_65537, a1, i1, j1, o_iw k, o_fl k, o_63 k]
        show match dkL X v2 p3' with
          | .inl (f, pl) => _
          | .inr (v2, v4, b, p6) => _
        unfold dkL
        by_cases c3 : iwS X (tk X p3') 7 = true
        · rw [if_pos c3] at gg ⊢
          cases e2 : whS X 2 24 (nx X p3') with
          | inl z =>
            obtain ⟨f, pl⟩ := z
            rw [e2] at gg
            obtain ⟨w10, j1, j2⟩ := gg
            exact bad2 j1 j2
          | inr z =>
            obtain ⟨v4, p5'⟩ := z
            rw [e2] at gg
            obtain ⟨w10, j1, j2, j3⟩ := gg
            obtain ⟨-, g1, g2, -, g3⟩ := wh_r e2
            have p5 : p5' ≤ X.1 := by rw [g3]; exact nx_le (nx_le p3)
            have h10 := h8.sg j2 j3
            have s10 := s8.tr j2
            have m8 := m_isWord (nd := nd) (i := 8) p5 (by omega) h10.2.1
            have m9 := m_isWord (nd := nd) (i := 9) p5 (by omega) h10.2.1
            have fin : ∀ (bb : Bool), (tk X p5').1 = 1 → ∃ w2 : Wd, fX11_readDisk_63 nd w10 (nI v2) (nI v4) (b2i bb) = some ((), w2) ∧ MG w w2 d X (D.1, D.2.1, v2, v4, bb) T (nx X p5') := by
              intro bb y1
              obtain ⟨w20, k1, k2, k3⟩ := m_gx (nd := nd) hX h10.1 p5 h10.2.1 (by omega)
              have h20 := h10.sg k2 k3
              have q9 := k3.1
              have ql := sg_lt (k := (tk X (nx X p5')).1)
              have q4 := h20.2.2.1
              refine ⟨_, ?_, MG.s10 (s10.tr k2) (fun _ => Or.inr trivial) (h20.s10 (o := oI (oI (oI (w20 10 d) 0 (nI v2)) 1 (nI v4)) 8 (b2i bb)) ?_ ?_ ?_)⟩
              · have n1 : ∀ {o : Ob}, sO w20 10 d o 11 0 = w20 11 0 := fun {o} => sO_nc (by decide)
                have n2 : isb (b2i bb) = true := by cases bb <;> rfl
                unfold fX11_readDisk_63
                simp (disch := omega) only [↓mo_1, ↓mo_2, ad_m1, ite_m1_lt, ite_m2_lt, ite_le_m1, ite_eq_m1, ite_eq_m2, ite_m1_m1, ite_m2_m2, ite_T, ite_F, ite_nz, ite_zz, ite_m1_le, ite_m1_eq, oi_none, oi_some, ob_some, lw_def, ck_true, ckp_su, ite_lt_t, ite_lt_f, ite_le_t, ite_le_f, ite_eq_t, ite_eq_f, ck_inb, nI_add, sb_nI, mu_nI, nI_clamp, sO_at, sO_sO, Nat.add_sub_cancel, Nat.zero_add, Nat.add_zero, li_0, li_1, li_2, li_3, li_4, li_5, li_6, li_7, li_8, li_9, li_10, li_11, li_12, li_16, li_20, li_24, li_31, li_32, li_48, li_49, li_73, li_74, li_75, li_97, li_98, li_99, li_100, li_101, li_109, li_110, li_255, li_680, li_700, li_9999, li_65536, li_65537, k1, q9, q4, sI, n1, n2]
              · obtain ⟨z1, z2, z3, z4, z5, z6⟩ := h20.2.2.2.1
                exact ⟨by rw [oI_n (by decide), oI_n (by decide), oI_a], by rw [oI_n (by decide), oI_a], by rw [oI_n (by decide), oI_n (by decide), oI_n (by decide)]; exact z3, by rw [oI_a], fun b hb => z5 b hb, z6⟩
              · obtain ⟨z1, z2, z3, z4, z5⟩ := h20.2.2.2.2.1
                exact ⟨by rw [oI_n (by decide), oI_n (by decide), oI_n (by decide)]; exact z1, z2, ⟨by rw [oI_n (by decide), oI_n (by decide), oI_n (by decide)]; exact z3.1, z3.2⟩, ⟨by rw [oI_n (by decide), oI_n (by decide), oI_n (by decide)]; exact z4.1, z4.2⟩, ⟨by rw [oI_n (by decide), oI_n (by decide), oI_n (by decide)]; exact z5.1, z5.2⟩⟩
              · obtain ⟨z1, z2⟩ := h20.2.2.2.2.2
                exact ⟨by rw [oI_n (by decide), oI_n (by decide), oI_n (by decide)]; exact z1, z2⟩
            show match dkE X v2 v4 p5' with
              | .inl (f, pl) => _
              | .inr (v2, v4, b, p6) => _
            unfold dkE
            by_cases c4 : iwS X (tk X p5') 8 = true
            · rw [if_pos c4]
              rw [c4, b2i_t] at m8
              obtain ⟨w20, k1, k2⟩ := fin true (iw_4 c4)
              rw [b2i_t] at k1
              refine ⟨w20, ?_, k2⟩
              unfold fX11_readDisk_15
              simp (disch := omega) only [↓mo_1, ↓mo_2, ad_m1, ite_m1_lt, ite_m2_lt, ite_le_m1, ite_eq_m1, ite_eq_m2, ite_m1_m1, ite_m2_m2, ite_T, ite_F, ite_nz, ite_zz, ite_m1_le, ite_m1_eq, oi_none, oi_some, ob_some, lw_def, ck_true, ckp_su, ite_lt_t, ite_lt_f, ite_le_t, ite_le_f, ite_eq_t, ite_eq_f, ck_inb, nI_add, sb_nI, mu_nI, nI_clamp, sO_at, sO_sO, Nat.add_sub_cancel, Nat.zero_add, Nat.add_zero, li_0, li_1, li_2, li_3, li_4, li_5, li_6, li_7, li_8, li_9, li_10, li_11, li_12, li_16, li_20, li_24, li_31, li_32, li_48, li_49, li_73, li_74, li_75, li_97, li_98, li_99, li_100, li_101, li_109, li_110, li_255, li_680, li_700, li_9999, li_65536, li_65537, a1, i1, j1, m8, k1]
            · rw [if_neg c4]
              have c4' : iwS X (tk X p5') 8 = false := by
                cases y : iwS X (tk X p5') 8 with
                | false => rfl
                | true => exact absurd y c4
              rw [c4', b2i_f] at m8
              by_cases c5 : iwS X (tk X p5') 9 = true
              · rw [if_pos c5]
                rw [c5, b2i_t] at m9
                obtain ⟨w20, k1, k2⟩ := fin false (iw_4 c5)
                rw [b2i_f] at k1
                refine ⟨w20, ?_, k2⟩
                unfold fX11_readDisk_15
                simp (disch := omega) only [↓mo_1, ↓mo_2, ad_m1, ite_m1_lt, ite_m2_lt, ite_le_m1, ite_eq_m1, ite_eq_m2, ite_m1_m1, ite_m2_m2, ite_T, ite_F, ite_nz, ite_zz, ite_m1_le, ite_m1_eq, oi_none, oi_some, ob_some, lw_def, ck_true, ckp_su, ite_lt_t, ite_lt_f, ite_le_t, ite_le_f, ite_eq_t, ite_eq_f, ck_inb, nI_add, sb_nI, mu_nI, nI_clamp, sO_at, sO_sO, Nat.add_sub_cancel, Nat.zero_add, Nat.add_zero, li_0, li_1, li_2, li_3, li_4, li_5, li_6, li_7, li_8, li_9, li_10, li_11, li_12, li_16, li_20, li_24, li_31, li_32, li_48, li_49, li_73, li_74, li_75, li_97, li_98, li_99, li_100, li_101, li_109, li_110, li_255, li_680, li_700, li_9999, li_65536, li_65537, a1, i1, j1, m8, m9, k1]
              · rw [if_neg c5]
                have c5' : iwS X (tk X p5') 9 = false := by
                  cases y : iwS X (tk X p5') 9 with
                  | false => rfl
                  | true => exact absurd y c5
                rw [c5', b2i_f] at m9
                obtain ⟨w12, k1, k2⟩ := m_fl (nd := nd) (f := 1) h10.2.1
                refine ⟨w12, ?_, k2.pre s10.sv⟩
                unfold fX11_readDisk_15
                simp (disch := omega) only [↓mo_1, ↓mo_2, ad_m1, ite_m1_lt, ite_m2_lt, ite_le_m1, ite_eq_m1, ite_eq_m2, ite_m1_m1, ite_m2_m2, ite_T, ite_F, ite_nz, ite_zz, ite_m1_le, ite_m1_eq, oi_none, oi_some, ob_some, lw_def, ck_true, ckp_su, ite_lt_t, ite_lt_f, ite_le_t, ite_le_f, ite_eq_t, ite_eq_f, ck_inb, nI_add, sb_nI, mu_nI, nI_clamp, sO_at, sO_sO, Nat.add_sub_cancel, Nat.zero_add, Nat.add_zero, li_0, li_1, li_2, li_3, li_4, li_5, li_6, li_7, li_8, li_9, li_10, li_11, li_12, li_16, li_20, li_24, li_31, li_32, li_48, li_49, li_73, li_74, li_75, li_97, li_98, li_99, li_100, li_101, li_109, li_110, li_255, li_680, li_700, li_9999, li_65536, li_65537, a1, i1, j1, m8, m9, k1, o_63 k2.2.1]
        · rw [if_neg c3] at gg ⊢
          obtain ⟨w10, j1, j2⟩ := gg
          exact bad2 j1 j2
    · rw [if_neg c2] at g ⊢
      obtain ⟨w8, i1, i2⟩ := g
      exact bad1 i1 i2
end PM3
/-! a line, as it stands -/
def cvD (D : Dk) (T : Tk) : (Nat × Nat) ⊕ (Nat × Nat × Bool × Nat) → (Nat × Nat) ⊕ (Dk × Tk × Nat)
  | .inl z => .inl z
  | .inr z => .inr ((D.1, D.2.1, z.1, z.2.1, z.2.2.1), T, z.2.2.2)
def cvB (D : Dk) (T : Tk) : (Nat × Nat) ⊕ (Nat × Nat) → (Nat × Nat) ⊕ (Dk × Tk × Nat)
  | .inl z => .inl z
  | .inr z => .inr (adD D z.1, T, z.2)
def cvP (D : Dk) (F : Nat → Nat → Tk) : (Nat × Nat) ⊕ (Nat × Nat × Nat) → (Nat × Nat) ⊕ (Dk × Tk × Nat)
  | .inl z => .inl z
  | .inr z => .inr (D, F z.1 z.2.1, z.2.2)
def lnS (X : Tx) (D : Dk) (T : Tk) (p : Nat) : (Nat × Nat) ⊕ (Dk × Tk × Nat) :=
  if iwS X (tk X p) 0 = true then cvD D T (dkS X D.2.2.1 p)
  else if iwS X (tk X p) 1 = true then cvB D T (bnS X D.2.2.1 D.1 p)
  else if iwS X (tk X p) 2 = true then cvP D (fun v1 v2 => (adP T.1 v1 (nI v2), T.2)) (prS X D.2.2.1 T.1 12 (dnt D) 1 p)
  else if iwS X (tk X p) 3 = true then cvP D (fun v1 v2 => (T.1, adP T.2.1 v1 (nI v2), T.2.2)) (prS X D.2.2.1 T.2.1 16 (dnt D) 0 p)
  else if iwS X (tk X p) 4 = true then cvP D (fun v1 v2 => (T.1, T.2.1, adP T.2.2.1 v1 (nI v2), T.2.2.2)) (prS X D.2.2.1 T.2.2.1 4 T.2.1.1 1 p)
  else if iwS X (tk X p) 5 = true then cvP D (fun v1 v2 => (T.1, T.2.1, T.2.2.1, adP T.2.2.2 v1 (nI v2))) (prS X D.2.2.1 T.2.2.2 6 (dnt D) 1 p)
  else .inl (1, (tk X p).2.1)
def WP (D : Dk) (T : Tk) : Prop := D.1 ≤ 6 ∧ (∀ b, b < D.1 → 2 ≤ D.2.1 b ∧ D.2.1 b ≤ 8) ∧ D.2.2.1 ≤ 3 ∧ (0 < D.2.2.1 → 2 ≤ D.2.2.2.1 ∧ D.2.2.2.1 ≤ 24) ∧ (¬ 0 < D.2.2.1 → D.1 = 0 ∧ T.1.1 = 0 ∧ T.2.1.1 = 0 ∧ T.2.2.1.1 = 0 ∧ T.2.2.2.1 = 0) ∧ WFT D T
theorem dn_le {sz : Nat → Nat} : ∀ {k : Nat}, (∀ b, b < k → 2 ≤ sz b ∧ sz b ≤ 8) → dfst sz k ≤ 8 * k
  | 0, _ => Nat.le_refl _
  | k + 1, h => by
    have := dn_le (sz := sz) (k := k) (fun b hb => h b (by omega))
    have := h k (by omega)
    show dfst sz k + sz k ≤ 8 * (k + 1)
    omega
theorem WP.d {D : Dk} {T : Tk} (h : WP D T) : dnt D ≤ 8 * D.1 := dn_le h.2.1
section LN
variable {w w2 : Wd} {X : Tx} {D : Dk} {T : Tk} {p q nd d : Nat}
theorem x_g0 {o2 : Ob} {P : Pk} {t : Tt} {p3 : Nat} (h : PX w q X D T t) (hs : S4 w w2) (ht : XT w2 (tk X p3)) (hR : RP o2 P) : XG w (sO w2 3 (4 * q) o2) q X D (P, T.2) p3 := by
  have e4 : sO w2 3 (4 * q) o2 4 0 = w2 4 0 := sO_nc (by decide)
  have e5 : sO w2 3 (4 * q) o2 5 q = w2 5 q := sO_nc (by decide)
  have e9 : sO w2 3 (4 * q) o2 9 0 = w2 9 0 := sO_nc (by decide)
  have h2 := h.s4 hs ht
  refine ⟨hs.xf.tr (XF.s3 (i := 0) (by omega)), ⟨⟨by rw [e4]; exact h2.1.1, by rw [e9]; exact h2.1.2⟩, by unfold XT; rw [e4]; exact ht, by rw [e4]; exact h2.2.2.1, by rw [e4]; exact h2.2.2.2.1, by rw [e5]; exact h2.2.2.2.2.1, ?_⟩, by rw [e4]; exact hs.2.2 8 (by decide) (by decide) (by decide) (by decide), by rw [e4]; exact hs.2.2 9 (by decide) (by decide) (by decide) (by decide)⟩
  exact ⟨by rw [sO_at]; exact hR, by rw [sO_nj (by omega), hs.1 3 _ (by omega)]; exact h.2.2.2.2.2.2.1, by rw [sO_nj (by omega), hs.1 3 _ (by omega)]; exact h.2.2.2.2.2.2.2.1, by rw [sO_nj (by omega), hs.1 3 _ (by omega)]; exact h.2.2.2.2.2.2.2.2⟩
theorem x_g1 {o2 : Ob} {P : Pk} {t : Tt} {p3 : Nat} (h : PX w q X D T t) (hs : S4 w w2) (ht : XT w2 (tk X p3)) (hR : RP o2 P) : XG w (sO w2 3 (4 * q + 1) o2) q X D (T.1, P, T.2.2) p3 := by
  have e4 : sO w2 3 (4 * q + 1) o2 4 0 = w2 4 0 := sO_nc (by decide)
  have e5 : sO w2 3 (4 * q + 1) o2 5 q = w2 5 q := sO_nc (by decide)
  have e9 : sO w2 3 (4 * q + 1) o2 9 0 = w2 9 0 := sO_nc (by decide)
  have h2 := h.s4 hs ht
  refine ⟨hs.xf.tr (XF.s3 (i := 1) (by omega)), ⟨⟨by rw [e4]; exact h2.1.1, by rw [e9]; exact h2.1.2⟩, by unfold XT; rw [e4]; exact ht, by rw [e4]; exact h2.2.2.1, by rw [e4]; exact h2.2.2.2.1, by rw [e5]; exact h2.2.2.2.2.1, ?_⟩, by rw [e4]; exact hs.2.2 8 (by decide) (by decide) (by decide) (by decide), by rw [e4]; exact hs.2.2 9 (by decide) (by decide) (by decide) (by decide)⟩
  exact ⟨by rw [sO_nj (by omega), hs.1 3 _ (by omega)]; exact h.2.2.2.2.2.1, by rw [sO_at]; exact hR, by rw [sO_nj (by omega), hs.1 3 _ (by omega)]; exact h.2.2.2.2.2.2.2.1, by rw [sO_nj (by omega), hs.1 3 _ (by omega)]; exact h.2.2.2.2.2.2.2.2⟩
theorem x_g2 {o2 : Ob} {P : Pk} {t : Tt} {p3 : Nat} (h : PX w q X D T t) (hs : S4 w w2) (ht : XT w2 (tk X p3)) (hR : RP o2 P) : XG w (sO w2 3 (4 * q + 2) o2) q X D (T.1, T.2.1, P, T.2.2.2) p3 := by
  have e4 : sO w2 3 (4 * q + 2) o2 4 0 = w2 4 0 := sO_nc (by decide)
  have e5 : sO w2 3 (4 * q + 2) o2 5 q = w2 5 q := sO_nc (by decide)
  have e9 : sO w2 3 (4 * q + 2) o2 9 0 = w2 9 0 := sO_nc (by decide)
  have h2 := h.s4 hs ht
  refine ⟨hs.xf.tr (XF.s3 (i := 2) (by omega)), ⟨⟨by rw [e4]; exact h2.1.1, by rw [e9]; exact h2.1.2⟩, by unfold XT; rw [e4]; exact ht, by rw [e4]; exact h2.2.2.1, by rw [e4]; exact h2.2.2.2.1, by rw [e5]; exact h2.2.2.2.2.1, ?_⟩, by rw [e4]; exact hs.2.2 8 (by decide) (by decide) (by decide) (by decide), by rw [e4]; exact hs.2.2 9 (by decide) (by decide) (by decide) (by decide)⟩
  exact ⟨by rw [sO_nj (by omega), hs.1 3 _ (by omega)]; exact h.2.2.2.2.2.1, by rw [sO_nj (by omega), hs.1 3 _ (by omega)]; exact h.2.2.2.2.2.2.1, by rw [sO_at]; exact hR, by rw [sO_nj (by omega), hs.1 3 _ (by omega)]; exact h.2.2.2.2.2.2.2.2⟩
theorem x_g3 {o2 : Ob} {P : Pk} {t : Tt} {p3 : Nat} (h : PX w q X D T t) (hs : S4 w w2) (ht : XT w2 (tk X p3)) (hR : RP o2 P) : XG w (sO w2 3 (4 * q + 3) o2) q X D (T.1, T.2.1, T.2.2.1, P) p3 := by
  have e4 : sO w2 3 (4 * q + 3) o2 4 0 = w2 4 0 := sO_nc (by decide)
  have e5 : sO w2 3 (4 * q + 3) o2 5 q = w2 5 q := sO_nc (by decide)
  have e9 : sO w2 3 (4 * q + 3) o2 9 0 = w2 9 0 := sO_nc (by decide)
  have h2 := h.s4 hs ht
  refine ⟨hs.xf.tr (XF.s3 (i := 3) (by omega)), ⟨⟨by rw [e4]; exact h2.1.1, by rw [e9]; exact h2.1.2⟩, by unfold XT; rw [e4]; exact ht, by rw [e4]; exact h2.2.2.1, by rw [e4]; exact h2.2.2.2.1, by rw [e5]; exact h2.2.2.2.2.1, ?_⟩, by rw [e4]; exact hs.2.2 8 (by decide) (by decide) (by decide) (by decide), by rw [e4]; exact hs.2.2 9 (by decide) (by decide) (by decide) (by decide)⟩
  exact ⟨by rw [sO_nj (by omega), hs.1 3 _ (by omega)]; exact h.2.2.2.2.2.1, by rw [sO_nj (by omega), hs.1 3 _ (by omega)]; exact h.2.2.2.2.2.2.1, by rw [sO_nj (by omega), hs.1 3 _ (by omega)]; exact h.2.2.2.2.2.2.2.1, by rw [sO_at]; exact hR⟩
theorem x_gb {o2 : Ob} {D2 : Dk} {t : Tt} {p3 : Nat} (h : PX w q X D T t) (hs : S4 w w2) (ht : XT w2 (tk X p3)) (hR : RSh o2 D2) (ho : D2.2.2.1 = D.2.2.1) : XG w (sO w2 5 q o2) q X D2 T p3 := by
  have e4 : sO w2 5 q o2 4 0 = w2 4 0 := sO_nc (by decide)
  have e9 : sO w2 5 q o2 9 0 = w2 9 0 := sO_nc (by decide)
  have e3 : ∀ k, sO w2 5 q o2 3 k = w2 3 k := fun k => sO_nc (by decide)
  have h2 := h.s4 hs ht
  refine ⟨hs.xf.tr XF.s5, ⟨⟨by rw [e4]; exact h2.1.1, by rw [e9]; exact h2.1.2⟩, by unfold XT; rw [e4]; exact ht, by rw [e4]; exact h2.2.2.1, by rw [e4, ho]; exact h2.2.2.2.1, by rw [sO_at]; exact hR, ?_⟩, by rw [e4]; exact hs.2.2 8 (by decide) (by decide) (by decide) (by decide), by rw [e4]; exact hs.2.2 9 (by decide) (by decide) (by decide) (by decide)⟩
  unfold RT
  rw [e3, e3, e3, e3]
  exact h2.2.2.2.2.2
theorem nbt {b : Bool} (h : ¬ b = true) : b = false := by cases b with
  | false => rfl
  | true => exact absurd rfl h
theorem x_line (hX : TxO X) (hp : p ≤ X.1) (hq : q < 2) (hW : WP D T) (h : PX w q X D T (tk X p)) : match lnS X D T p with
    | .inl (f, pl) => ∃ w2 : Wd, fX4_takeLine w = some (nI 0, w2) ∧ XB w w2 q f pl
    | .inr (D2, T2, p2) => ∃ w2 : Wd, fX4_takeLine w = some (nI 1, w2) ∧ XG w w2 q X D2 T2 p2 := by
  have hd := hW.d
  obtain ⟨k1, k2, k3, k4, k5, k6⟩ := hW
  have hptr := h.2.2.1
  have htr := h.2.2.2.2.1.2.2.2.1
  have hwc := h.2.2.2.2.2.2.1.1
  have i0 := x_isWord (i := 0) hX h.1 hp (by omega) h.2.1
  have i1 := x_isWord (i := 1) hX h.1 hp (by omega) h.2.1
  have i2 := x_isWord (i := 2) hX h.1 hp (by omega) h.2.1
  have i3 := x_isWord (i := 3) hX h.1 hp (by omega) h.2.1
  have i4 := x_isWord (i := 4) hX h.1 hp (by omega) h.2.1
  have i5 := x_isWord (i := 5) hX h.1 hp (by omega) h.2.1
  unfold lnS
  by_cases c0 : iwS X (tk X p) 0 = true
  · rw [if_pos c0]
    rw [c0, b2i_t] at i0
    have g := x_disk hX hp hq h
    cases e : dkS X D.2.2.1 p with
    | inl z =>
      obtain ⟨f, pl⟩ := z
      rw [e] at g
      obtain ⟨w2, g1, g2⟩ := g
      refine ⟨w2, ?_, g2⟩
      unfold fX4_takeLine
      simp (disch := omega) only [↓mo_1, ↓mo_2, ad_m1, ite_m1_lt, ite_m2_lt, ite_le_m1, ite_eq_m1, ite_eq_m2, ite_m1_m1, ite_m2_m2, ite_T, ite_F, ite_nz, ite_zz, ite_m1_le, ite_m1_eq, oi_none, oi_some, ob_some, lw_def, ck_true, ckp_su, ite_lt_t, ite_lt_f, ite_le_t, ite_le_f, ite_eq_t, ite_eq_f, ck_inb, nI_add, sb_nI, mu_nI, nI_clamp, sO_at, sO_sO, Nat.add_sub_cancel, Nat.zero_add, Nat.add_zero, li_0, li_1, li_2, li_3, li_4, li_5, li_6, li_7, li_8, li_9, li_10, li_11, li_12, li_16, li_20, li_24, li_31, li_32, li_48, li_49, li_73, li_74, li_75, li_97, li_98, li_99, li_100, li_101, li_109, li_110, li_255, li_680, li_700, li_9999, li_65536, li_65537, hptr, i0, g1, isb_0]
    | inr z =>
      obtain ⟨v2, v4, b, p6⟩ := z
      rw [e] at g
      obtain ⟨w2, g1, g2⟩ := g
      refine ⟨w2, ?_, g2⟩
      unfold fX4_takeLine
      simp (disch := omega) only [↓mo_1, ↓mo_2, ad_m1, ite_m1_lt, ite_m2_lt, ite_le_m1, ite_eq_m1, ite_eq_m2, ite_m1_m1, ite_m2_m2, ite_T, ite_F, ite_nz, ite_zz, ite_m1_le, ite_m1_eq, oi_none, oi_some, ob_some, lw_def, ck_true, ckp_su, ite_lt_t, ite_lt_f, ite_le_t, ite_le_f, ite_eq_t, ite_eq_f, ck_inb, nI_add, sb_nI, mu_nI, nI_clamp, sO_at, sO_sO, Nat.add_sub_cancel, Nat.zero_add, Nat.add_zero, li_0, li_1, li_2, li_3, li_4, li_5, li_6, li_7, li_8, li_9, li_10, li_11, li_12, li_16, li_20, li_24, li_31, li_32, li_48, li_49, li_73, li_74, li_75, li_97, li_98, li_99, li_100, li_101, li_109, li_110, li_255, li_680, li_700, li_9999, li_65536, li_65537, hptr, i0, g1, isb_1]
  rw [if_neg c0]
  rw [nbt c0, b2i_f] at i0
  by_cases c1 : iwS X (tk X p) 1 = true
  · rw [if_pos c1]
    rw [c1, b2i_t] at i1
    have g := x_band hX hp hq h k1 (fun z => by omega)
    cases e : bnS X D.2.2.1 D.1 p with
    | inl z =>
      obtain ⟨f, pl⟩ := z
      rw [e] at g
      obtain ⟨w2, g1, g2, g3, g4⟩ := g
      refine ⟨w2, ?_, g2.xf, g3, g4⟩
      unfold fX4_takeLine
      simp (disch := omega) only [↓mo_1, ↓mo_2, ad_m1, ite_m1_lt, ite_m2_lt, ite_le_m1, ite_eq_m1, ite_eq_m2, ite_m1_m1, ite_m2_m2, ite_T, ite_F, ite_nz, ite_zz, ite_m1_le, ite_m1_eq, oi_none, oi_some, ob_some, lw_def, ck_true, ckp_su, ite_lt_t, ite_lt_f, ite_le_t, ite_le_f, ite_eq_t, ite_eq_f, ck_inb, nI_add, sb_nI, mu_nI, nI_clamp, sO_at, sO_sO, Nat.add_sub_cancel, Nat.zero_add, Nat.add_zero, li_0, li_1, li_2, li_3, li_4, li_5, li_6, li_7, li_8, li_9, li_10, li_11, li_12, li_16, li_20, li_24, li_31, li_32, li_48, li_49, li_73, li_74, li_75, li_97, li_98, li_99, li_100, li_101, li_109, li_110, li_255, li_680, li_700, li_9999, li_65536, li_65537, hptr, i0, i1, g1, isb_0]
    | inr z =>
      obtain ⟨v, p2⟩ := z
      rw [e] at g
      obtain ⟨w2, o2, g1, g2, g3, g4⟩ := g
      refine ⟨_, ?_, x_gb h g2 g3 g4 rfl⟩
      unfold fX4_takeLine
      simp (disch := omega) only [↓mo_1, ↓mo_2, ad_m1, ite_m1_lt, ite_m2_lt, ite_le_m1, ite_eq_m1, ite_eq_m2, ite_m1_m1, ite_m2_m2, ite_T, ite_F, ite_nz, ite_zz, ite_m1_le, ite_m1_eq, oi_none, oi_some, ob_some, lw_def, ck_true, ckp_su, ite_lt_t, ite_lt_f, ite_le_t, ite_le_f, ite_eq_t, ite_eq_f, ck_inb, nI_add, sb_nI, mu_nI, nI_clamp, sO_at, sO_sO, Nat.add_sub_cancel, Nat.zero_add, Nat.add_zero, li_0, li_1, li_2, li_3, li_4, li_5, li_6, li_7, li_8, li_9, li_10, li_11, li_12, li_16, li_20, li_24, li_31, li_32, li_48, li_49, li_73, li_74, li_75, li_97, li_98, li_99, li_100, li_101, li_109, li_110, li_255, li_680, li_700, li_9999, li_65536, li_65537, hptr, i0, i1, g1, isb_1]
  rw [if_neg c1]
  rw [nbt c1, b2i_f] at i1
  by_cases c2 : iwS X (tk X p) 2 = true
  · rw [if_pos c2]
    rw [c2, b2i_t] at i2
    have g := x_pair (j := 4 * q) (P := T.1) (N := 12) (a := dnt D) (on := 1) hX hp h h.2.2.2.2.2.1 (pl_0 (by omega)) (pl_0 (by omega)) (by omega) k6.1.1 (fun i hi => by have := k6.1.2 i hi; omega) (by have := k6.2.1.1; omega) (by omega)
    cases e : prS X D.2.2.1 T.1 12 (dnt D) 1 p with
    | inl z =>
      obtain ⟨f, pl⟩ := z
      rw [e] at g
      obtain ⟨w2, g1, g2, g3, g4⟩ := g
      refine ⟨w2, ?_, g2.xf, g3, g4⟩
      unfold fX4_takeLine
      simp (disch := omega) only [↓mo_1, ↓mo_2, ad_m1, ite_m1_lt, ite_m2_lt, ite_le_m1, ite_eq_m1, ite_eq_m2, ite_m1_m1, ite_m2_m2, ite_T, ite_F, ite_nz, ite_zz, ite_m1_le, ite_m1_eq, oi_none, oi_some, ob_some, lw_def, ck_true, ckp_su, ite_lt_t, ite_lt_f, ite_le_t, ite_le_f, ite_eq_t, ite_eq_f, ck_inb, nI_add, sb_nI, mu_nI, nI_clamp, sO_at, sO_sO, Nat.add_sub_cancel, Nat.zero_add, Nat.add_zero, li_0, li_1, li_2, li_3, li_4, li_5, li_6, li_7, li_8, li_9, li_10, li_11, li_12, li_16, li_20, li_24, li_31, li_32, li_48, li_49, li_73, li_74, li_75, li_97, li_98, li_99, li_100, li_101, li_109, li_110, li_255, li_680, li_700, li_9999, li_65536, li_65537, hptr, htr, hwc, i0, i1, i2, g1, isb_0]
    | inr z =>
      obtain ⟨v1, v2, p3⟩ := z
      rw [e] at g
      obtain ⟨w2, o2, g1, g2, g3, g4⟩ := g
      refine ⟨_, ?_, x_g0 h g2 g3 g4⟩
      unfold fX4_takeLine
      simp (disch := omega) only [↓mo_1, ↓mo_2, ad_m1, ite_m1_lt, ite_m2_lt, ite_le_m1, ite_eq_m1, ite_eq_m2, ite_m1_m1, ite_m2_m2, ite_T, ite_F, ite_nz, ite_zz, ite_m1_le, ite_m1_eq, oi_none, oi_some, ob_some, lw_def, ck_true, ckp_su, ite_lt_t, ite_lt_f, ite_le_t, ite_le_f, ite_eq_t, ite_eq_f, ck_inb, nI_add, sb_nI, mu_nI, nI_clamp, sO_at, sO_sO, Nat.add_sub_cancel, Nat.zero_add, Nat.add_zero, li_0, li_1, li_2, li_3, li_4, li_5, li_6, li_7, li_8, li_9, li_10, li_11, li_12, li_16, li_20, li_24, li_31, li_32, li_48, li_49, li_73, li_74, li_75, li_97, li_98, li_99, li_100, li_101, li_109, li_110, li_255, li_680, li_700, li_9999, li_65536, li_65537, hptr, htr, hwc, i0, i1, i2, g1, isb_1]
  rw [if_neg c2]
  rw [nbt c2, b2i_f] at i2
  by_cases c3 : iwS X (tk X p) 3 = true
  · rw [if_pos c3]
    rw [c3, b2i_t] at i3
    have g := x_pair (j := 4 * q + 1) (P := T.2.1) (N := 16) (a := dnt D) (on := 0) hX hp h h.2.2.2.2.2.2.1 (pl_1 (by omega)) (pl_1 (by omega)) (by omega) k6.2.1.1 (fun i hi => by have := k6.2.1.2 i hi; omega) (by have := k6.2.1.1; omega) (by omega)
    cases e : prS X D.2.2.1 T.2.1 16 (dnt D) 0 p with
    | inl z =>
      obtain ⟨f, pl⟩ := z
      rw [e] at g
      obtain ⟨w2, g1, g2, g3, g4⟩ := g
      refine ⟨w2, ?_, g2.xf, g3, g4⟩
      unfold fX4_takeLine
      simp (disch := omega) only [↓mo_1, ↓mo_2, ad_m1, ite_m1_lt, ite_m2_lt, ite_le_m1, ite_eq_m1, ite_eq_m2, ite_m1_m1, ite_m2_m2, ite_T, ite_F, ite_nz, ite_zz, ite_m1_le, ite_m1_eq, oi_none, oi_some, ob_some, lw_def, ck_true, ckp_su, ite_lt_t, ite_lt_f, ite_le_t, ite_le_f, ite_eq_t, ite_eq_f, ck_inb, nI_add, sb_nI, mu_nI, nI_clamp, sO_at, sO_sO, Nat.add_sub_cancel, Nat.zero_add, Nat.add_zero, li_0, li_1, li_2, li_3, li_4, li_5, li_6, li_7, li_8, li_9, li_10, li_11, li_12, li_16, li_20, li_24, li_31, li_32, li_48, li_49, li_73, li_74, li_75, li_97, li_98, li_99, li_100, li_101, li_109, li_110, li_255, li_680, li_700, li_9999, li_65536, li_65537, hptr, htr, hwc, i0, i1, i2, i3, g1, isb_0]
    | inr z =>
      obtain ⟨v1, v2, p3⟩ := z
      rw [e] at g
      obtain ⟨w2, o2, g1, g2, g3, g4⟩ := g
      refine ⟨_, ?_, x_g1 h g2 g3 g4⟩
      unfold fX4_takeLine
      simp (disch := omega) only [↓mo_1, ↓mo_2, ad_m1, ite_m1_lt, ite_m2_lt, ite_le_m1, ite_eq_m1, ite_eq_m2, ite_m1_m1, ite_m2_m2, ite_T, ite_F, ite_nz, ite_zz, ite_m1_le, ite_m1_eq, oi_none, oi_some, ob_some, lw_def, ck_true, ckp_su, ite_lt_t, ite_lt_f, ite_le_t, ite_le_f, ite_eq_t, ite_eq_f, ck_inb, nI_add, sb_nI, mu_nI, nI_clamp, sO_at, sO_sO, Nat.add_sub_cancel, Nat.zero_add, Nat.add_zero, li_0, li_1, li_2, li_3, li_4, li_5, li_6, li_7, li_8, li_9, li_10, li_11, li_12, li_16, li_20, li_24, li_31, li_32, li_48, li_49, li_73, li_74, li_75, li_97, li_98, li_99, li_100, li_101, li_109, li_110, li_255, li_680, li_700, li_9999, li_65536, li_65537, hptr, htr, hwc, i0, i1, i2, i3, g1, isb_1]
  rw [if_neg c3]
  rw [nbt c3, b2i_f] at i3
  by_cases c4 : iwS X (tk X p) 4 = true
  · rw [if_pos c4]
    rw [c4, b2i_t] at i4
    have g := x_pair (j := 4 * q + 2) (P := T.2.2.1) (N := 4) (a := T.2.1.1) (on := 1) hX hp h h.2.2.2.2.2.2.2.1 (pl_2 (by omega)) (pl_2 (by omega)) (by omega) k6.2.2.1.1 (fun i hi => by have := k6.2.2.1.2.1 i hi; have := k6.2.1.1; omega) (by have := k6.2.1.1; omega) (by omega)
    cases e : prS X D.2.2.1 T.2.2.1 4 (T.2.1.1) 1 p with
    | inl z =>
      obtain ⟨f, pl⟩ := z
      rw [e] at g
      obtain ⟨w2, g1, g2, g3, g4⟩ := g
      refine ⟨w2, ?_, g2.xf, g3, g4⟩
      unfold fX4_takeLine
      simp (disch := omega) only [↓mo_1, ↓mo_2, ad_m1, ite_m1_lt, ite_m2_lt, ite_le_m1, ite_eq_m1, ite_eq_m2, ite_m1_m1, ite_m2_m2, ite_T, ite_F, ite_nz, ite_zz, ite_m1_le, ite_m1_eq, oi_none, oi_some, ob_some, lw_def, ck_true, ckp_su, ite_lt_t, ite_lt_f, ite_le_t, ite_le_f, ite_eq_t, ite_eq_f, ck_inb, nI_add, sb_nI, mu_nI, nI_clamp, sO_at, sO_sO, Nat.add_sub_cancel, Nat.zero_add, Nat.add_zero, li_0, li_1, li_2, li_3, li_4, li_5, li_6, li_7, li_8, li_9, li_10, li_11, li_12, li_16, li_20, li_24, li_31, li_32, li_48, li_49, li_73, li_74, li_75, li_97, li_98, li_99, li_100, li_101, li_109, li_110, li_255, li_680, li_700, li_9999, li_65536, li_65537, hptr, htr, hwc, i0, i1, i2, i3, i4, g1, isb_0]
    | inr z =>
      obtain ⟨v1, v2, p3⟩ := z
      rw [e] at g
      obtain ⟨w2, o2, g1, g2, g3, g4⟩ := g
      refine ⟨_, ?_, x_g2 h g2 g3 g4⟩
      unfold fX4_takeLine
      simp (disch := omega) only [↓mo_1, ↓mo_2, ad_m1, ite_m1_lt, ite_m2_lt, ite_le_m1, ite_eq_m1, ite_eq_m2, ite_m1_m1, ite_m2_m2, ite_T, ite_F, ite_nz, ite_zz, ite_m1_le, ite_m1_eq, oi_none, oi_some, ob_some, lw_def, ck_true, ckp_su, ite_lt_t, ite_lt_f, ite_le_t, ite_le_f, ite_eq_t, ite_eq_f, ck_inb, nI_add, sb_nI, mu_nI, nI_clamp, sO_at, sO_sO, Nat.add_sub_cancel, Nat.zero_add, Nat.add_zero, li_0, li_1, li_2, li_3, li_4, li_5, li_6, li_7, li_8, li_9, li_10, li_11, li_12, li_16, li_20, li_24, li_31, li_32, li_48, li_49, li_73, li_74, li_75, li_97, li_98, li_99, li_100, li_101, li_109, li_110, li_255, li_680, li_700, li_9999, li_65536, li_65537, hptr, htr, hwc, i0, i1, i2, i3, i4, g1, isb_1]
  rw [if_neg c4]
  rw [nbt c4, b2i_f] at i4
  by_cases c5 : iwS X (tk X p) 5 = true
  · rw [if_pos c5]
    rw [c5, b2i_t] at i5
    have g := x_pair (j := 4 * q + 3) (P := T.2.2.2) (N := 6) (a := dnt D) (on := 1) hX hp h h.2.2.2.2.2.2.2.2 (pl_3 (by omega)) (pl_3 (by omega)) (by omega) k6.2.2.2.1 (fun i hi => by have := k6.2.2.2.2 i hi; omega) (by have := k6.2.1.1; omega) (by omega)
    cases e : prS X D.2.2.1 T.2.2.2 6 (dnt D) 1 p with
    | inl z =>
      obtain ⟨f, pl⟩ := z
      rw [e] at g
      obtain ⟨w2, g1, g2, g3, g4⟩ := g
      refine ⟨w2, ?_, g2.xf, g3, g4⟩
      unfold fX4_takeLine
      simp (disch := omega) only [↓mo_1, ↓mo_2, ad_m1, ite_m1_lt, ite_m2_lt, ite_le_m1, ite_eq_m1, ite_eq_m2, ite_m1_m1, ite_m2_m2, ite_T, ite_F, ite_nz, ite_zz, ite_m1_le, ite_m1_eq, oi_none, oi_some, ob_some, lw_def, ck_true, ckp_su, ite_lt_t, ite_lt_f, ite_le_t, ite_le_f, ite_eq_t, ite_eq_f, ck_inb, nI_add, sb_nI, mu_nI, nI_clamp, sO_at, sO_sO, Nat.add_sub_cancel, Nat.zero_add, Nat.add_zero, li_0, li_1, li_2, li_3, li_4, li_5, li_6, li_7, li_8, li_9, li_10, li_11, li_12, li_16, li_20, li_24, li_31, li_32, li_48, li_49, li_73, li_74, li_75, li_97, li_98, li_99, li_100, li_101, li_109, li_110, li_255, li_680, li_700, li_9999, li_65536, li_65537, hptr, htr, hwc, i0, i1, i2, i3, i4, i5, g1, isb_0]
    | inr z =>
      obtain ⟨v1, v2, p3⟩ := z
      rw [e] at g
      obtain ⟨w2, o2, g1, g2, g3, g4⟩ := g
      refine ⟨_, ?_, x_g3 h g2 g3 g4⟩
      unfold fX4_takeLine
      simp (disch := omega) only [↓mo_1, ↓mo_2, ad_m1, ite_m1_lt, ite_m2_lt, ite_le_m1, ite_eq_m1, ite_eq_m2, ite_m1_m1, ite_m2_m2, ite_T, ite_F, ite_nz, ite_zz, ite_m1_le, ite_m1_eq, oi_none, oi_some, ob_some, lw_def, ck_true, ckp_su, ite_lt_t, ite_lt_f, ite_le_t, ite_le_f, ite_eq_t, ite_eq_f, ck_inb, nI_add, sb_nI, mu_nI, nI_clamp, sO_at, sO_sO, Nat.add_sub_cancel, Nat.zero_add, Nat.add_zero, li_0, li_1, li_2, li_3, li_4, li_5, li_6, li_7, li_8, li_9, li_10, li_11, li_12, li_16, li_20, li_24, li_31, li_32, li_48, li_49, li_73, li_74, li_75, li_97, li_98, li_99, li_100, li_101, li_109, li_110, li_255, li_680, li_700, li_9999, li_65536, li_65537, hptr, htr, hwc, i0, i1, i2, i3, i4, i5, g1, isb_1]
  rw [if_neg c5]
  rw [nbt c5, b2i_f] at i5
  obtain ⟨w2, g1, g2, g3, g4⟩ := x_stopAt (w := w) (f := nI 1) (pl := nI (tk X p).2.1)
  refine ⟨w2, ?_, g2.xf, g3, g4⟩
  have hst := h.2.1.2.1
  unfold fX4_takeLine
  simp (disch := omega) only [↓mo_1, ↓mo_2, ad_m1, ite_m1_lt, ite_m2_lt, ite_le_m1, ite_eq_m1, ite_eq_m2, ite_m1_m1, ite_m2_m2, ite_T, ite_F, ite_nz, ite_zz, ite_m1_le, ite_m1_eq, oi_none, oi_some, ob_some, lw_def, ck_true, ckp_su, ite_lt_t, ite_lt_f, ite_le_t, ite_le_f, ite_eq_t, ite_eq_f, ck_inb, nI_add, sb_nI, mu_nI, nI_clamp, sO_at, sO_sO, Nat.add_sub_cancel, Nat.zero_add, Nat.add_zero, li_0, li_1, li_2, li_3, li_4, li_5, li_6, li_7, li_8, li_9, li_10, li_11, li_12, li_16, li_20, li_24, li_31, li_32, li_48, li_49, li_73, li_74, li_75, li_97, li_98, li_99, li_100, li_101, li_109, li_110, li_255, li_680, li_700, li_9999, li_65536, li_65537, hptr, i0, i1, i2, i3, i4, i5, hst, g1, isb_0]
theorem m_line (hX : TxO X) (hp : p ≤ X.1) (hdn : d < nd) (hW : WP D T) (h : PM w d X D T (tk X p)) : match lnS X D T p with
    | .inl (f, pl) => ∃ w2 : Wd, fX11_readLine nd w = some ((), w2) ∧ OV w w2 f pl
    | .inr (D2, T2, p2) => ∃ w2 : Wd, fX11_readLine nd w = some ((), w2) ∧ MG w w2 d X D2 T2 p2 := by
  have hd := hW.d
  obtain ⟨k1, k2, k3, k4, k5, k6⟩ := hW
  have i0 := m_isWord (nd := nd) (i := 0) hp (by omega) h.2.1
  have i1 := m_isWord (nd := nd) (i := 1) hp (by omega) h.2.1
  have i2 := m_isWord (nd := nd) (i := 2) hp (by omega) h.2.1
  have i3 := m_isWord (nd := nd) (i := 3) hp (by omega) h.2.1
  have i4 := m_isWord (nd := nd) (i := 4) hp (by omega) h.2.1
  have i5 := m_isWord (nd := nd) (i := 5) hp (by omega) h.2.1
  unfold lnS
  by_cases c0 : iwS X (tk X p) 0 = true
  · rw [if_pos c0]
    rw [c0, b2i_t] at i0
    have g := m_disk hX hp hdn h (iw_4 c0) k3
    cases e : dkS X D.2.2.1 p with
    | inl z =>
      obtain ⟨f, pl⟩ := z
      rw [e] at g
      obtain ⟨w2, g1, g2⟩ := g
      refine ⟨w2, ?_, g2⟩
      unfold fX11_readLine
      simp (disch := omega) only [↓mo_1, ↓mo_2, ad_m1, ite_m1_lt, ite_m2_lt, ite_le_m1, ite_eq_m1, ite_eq_m2, ite_m1_m1, ite_m2_m2, ite_T, ite_F, ite_nz, ite_zz, ite_m1_le, ite_m1_eq, oi_none, oi_some, ob_some, lw_def, ck_true, ckp_su, ite_lt_t, ite_lt_f, ite_le_t, ite_le_f, ite_eq_t, ite_eq_f, ck_inb, nI_add, sb_nI, mu_nI, nI_clamp, sO_at, sO_sO, Nat.add_sub_cancel, Nat.zero_add, Nat.add_zero, li_0, li_1, li_2, li_3, li_4, li_5, li_6, li_7, li_8, li_9, li_10, li_11, li_12, li_16, li_20, li_24, li_31, li_32, li_48, li_49, li_73, li_74, li_75, li_97, li_98, li_99, li_100, li_101, li_109, li_110, li_255, li_680, li_700, li_9999, li_65536, li_65537, i0, g1]
    | inr z =>
      obtain ⟨v2, v4, b, p6⟩ := z
      rw [e] at g
      obtain ⟨w2, g1, g2⟩ := g
      refine ⟨w2, ?_, g2⟩
      unfold fX11_readLine
      simp (disch := omega) only [↓mo_1, ↓mo_2, ad_m1, ite_m1_lt, ite_m2_lt, ite_le_m1, ite_eq_m1, ite_eq_m2, ite_m1_m1, ite_m2_m2, ite_T, ite_F, ite_nz, ite_zz, ite_m1_le, ite_m1_eq, oi_none, oi_some, ob_some, lw_def, ck_true, ckp_su, ite_lt_t, ite_lt_f, ite_le_t, ite_le_f, ite_eq_t, ite_eq_f, ck_inb, nI_add, sb_nI, mu_nI, nI_clamp, sO_at, sO_sO, Nat.add_sub_cancel, Nat.zero_add, Nat.add_zero, li_0, li_1, li_2, li_3, li_4, li_5, li_6, li_7, li_8, li_9, li_10, li_11, li_12, li_16, li_20, li_24, li_31, li_32, li_48, li_49, li_73, li_74, li_75, li_97, li_98, li_99, li_100, li_101, li_109, li_110, li_255, li_680, li_700, li_9999, li_65536, li_65537, i0, g1]
  rw [if_neg c0]
  rw [nbt c0, b2i_f] at i0
  by_cases c1 : iwS X (tk X p) 1 = true
  · rw [if_pos c1]
    rw [c1, b2i_t] at i1
    have g := m_band hX hp hdn h (iw_4 c1) k3 k1 (fun z => (k5 z).1)
    cases e : bnS X D.2.2.1 D.1 p with
    | inl z =>
      obtain ⟨f, pl⟩ := z
      rw [e] at g
      obtain ⟨w2, g1, g2⟩ := g
      refine ⟨w2, ?_, g2⟩
      unfold fX11_readLine
      simp (disch := omega) only [↓mo_1, ↓mo_2, ad_m1, ite_m1_lt, ite_m2_lt, ite_le_m1, ite_eq_m1, ite_eq_m2, ite_m1_m1, ite_m2_m2, ite_T, ite_F, ite_nz, ite_zz, ite_m1_le, ite_m1_eq, oi_none, oi_some, ob_some, lw_def, ck_true, ckp_su, ite_lt_t, ite_lt_f, ite_le_t, ite_le_f, ite_eq_t, ite_eq_f, ck_inb, nI_add, sb_nI, mu_nI, nI_clamp, sO_at, sO_sO, Nat.add_sub_cancel, Nat.zero_add, Nat.add_zero, li_0, li_1, li_2, li_3, li_4, li_5, li_6, li_7, li_8, li_9, li_10, li_11, li_12, li_16, li_20, li_24, li_31, li_32, li_48, li_49, li_73, li_74, li_75, li_97, li_98, li_99, li_100, li_101, li_109, li_110, li_255, li_680, li_700, li_9999, li_65536, li_65537, i0, i1, g1]
    | inr z =>
      obtain ⟨v, p2⟩ := z
      rw [e] at g
      obtain ⟨w2, g1, g2⟩ := g
      refine ⟨w2, ?_, g2⟩
      unfold fX11_readLine
      simp (disch := omega) only [↓mo_1, ↓mo_2, ad_m1, ite_m1_lt, ite_m2_lt, ite_le_m1, ite_eq_m1, ite_eq_m2, ite_m1_m1, ite_m2_m2, ite_T, ite_F, ite_nz, ite_zz, ite_m1_le, ite_m1_eq, oi_none, oi_some, ob_some, lw_def, ck_true, ckp_su, ite_lt_t, ite_lt_f, ite_le_t, ite_le_f, ite_eq_t, ite_eq_f, ck_inb, nI_add, sb_nI, mu_nI, nI_clamp, sO_at, sO_sO, Nat.add_sub_cancel, Nat.zero_add, Nat.add_zero, li_0, li_1, li_2, li_3, li_4, li_5, li_6, li_7, li_8, li_9, li_10, li_11, li_12, li_16, li_20, li_24, li_31, li_32, li_48, li_49, li_73, li_74, li_75, li_97, li_98, li_99, li_100, li_101, li_109, li_110, li_255, li_680, li_700, li_9999, li_65536, li_65537, i0, i1, g1]
  rw [if_neg c1]
  rw [nbt c1, b2i_f] at i1
  by_cases c2 : iwS X (tk X p) 2 = true
  · rw [if_pos c2]
    rw [c2, b2i_t] at i2
    have g := m_readHas hX hp hdn h (iw_4 c2) k3 (by omega) k6 (fun z => (k5 z).2.1)
    cases e : prS X D.2.2.1 T.1 12 (dnt D) 1 p with
    | inl z =>
      obtain ⟨f, pl⟩ := z
      rw [e] at g
      obtain ⟨w2, g1, g2⟩ := g
      refine ⟨w2, ?_, g2⟩
      unfold fX11_readLine
      simp (disch := omega) only [↓mo_1, ↓mo_2, ad_m1, ite_m1_lt, ite_m2_lt, ite_le_m1, ite_eq_m1, ite_eq_m2, ite_m1_m1, ite_m2_m2, ite_T, ite_F, ite_nz, ite_zz, ite_m1_le, ite_m1_eq, oi_none, oi_some, ob_some, lw_def, ck_true, ckp_su, ite_lt_t, ite_lt_f, ite_le_t, ite_le_f, ite_eq_t, ite_eq_f, ck_inb, nI_add, sb_nI, mu_nI, nI_clamp, sO_at, sO_sO, Nat.add_sub_cancel, Nat.zero_add, Nat.add_zero, li_0, li_1, li_2, li_3, li_4, li_5, li_6, li_7, li_8, li_9, li_10, li_11, li_12, li_16, li_20, li_24, li_31, li_32, li_48, li_49, li_73, li_74, li_75, li_97, li_98, li_99, li_100, li_101, li_109, li_110, li_255, li_680, li_700, li_9999, li_65536, li_65537, i0, i1, i2, g1]
    | inr z =>
      obtain ⟨v1, v2, p3⟩ := z
      rw [e] at g
      obtain ⟨w2, g1, g2⟩ := g
      refine ⟨w2, ?_, g2⟩
      unfold fX11_readLine
      simp (disch := omega) only [↓mo_1, ↓mo_2, ad_m1, ite_m1_lt, ite_m2_lt, ite_le_m1, ite_eq_m1, ite_eq_m2, ite_m1_m1, ite_m2_m2, ite_T, ite_F, ite_nz, ite_zz, ite_m1_le, ite_m1_eq, oi_none, oi_some, ob_some, lw_def, ck_true, ckp_su, ite_lt_t, ite_lt_f, ite_le_t, ite_le_f, ite_eq_t, ite_eq_f, ck_inb, nI_add, sb_nI, mu_nI, nI_clamp, sO_at, sO_sO, Nat.add_sub_cancel, Nat.zero_add, Nat.add_zero, li_0, li_1, li_2, li_3, li_4, li_5, li_6, li_7, li_8, li_9, li_10, li_11, li_12, li_16, li_20, li_24, li_31, li_32, li_48, li_49, li_73, li_74, li_75, li_97, li_98, li_99, li_100, li_101, li_109, li_110, li_255, li_680, li_700, li_9999, li_65536, li_65537, i0, i1, i2, g1]
  rw [if_neg c2]
  rw [nbt c2, b2i_f] at i2
  by_cases c3 : iwS X (tk X p) 3 = true
  · rw [if_pos c3]
    rw [c3, b2i_t] at i3
    have g := m_readWrite hX hp hdn h (iw_4 c3) k3 (by omega) k6 (fun z => (k5 z).2.2.1)
    cases e : prS X D.2.2.1 T.2.1 16 (dnt D) 0 p with
    | inl z =>
      obtain ⟨f, pl⟩ := z
      rw [e] at g
      obtain ⟨w2, g1, g2⟩ := g
      refine ⟨w2, ?_, g2⟩
      unfold fX11_readLine
      simp (disch := omega) only [↓mo_1, ↓mo_2, ad_m1, ite_m1_lt, ite_m2_lt, ite_le_m1, ite_eq_m1, ite_eq_m2, ite_m1_m1, ite_m2_m2, ite_T, ite_F, ite_nz, ite_zz, ite_m1_le, ite_m1_eq, oi_none, oi_some, ob_some, lw_def, ck_true, ckp_su, ite_lt_t, ite_lt_f, ite_le_t, ite_le_f, ite_eq_t, ite_eq_f, ck_inb, nI_add, sb_nI, mu_nI, nI_clamp, sO_at, sO_sO, Nat.add_sub_cancel, Nat.zero_add, Nat.add_zero, li_0, li_1, li_2, li_3, li_4, li_5, li_6, li_7, li_8, li_9, li_10, li_11, li_12, li_16, li_20, li_24, li_31, li_32, li_48, li_49, li_73, li_74, li_75, li_97, li_98, li_99, li_100, li_101, li_109, li_110, li_255, li_680, li_700, li_9999, li_65536, li_65537, i0, i1, i2, i3, g1]
    | inr z =>
      obtain ⟨v1, v2, p3⟩ := z
      rw [e] at g
      obtain ⟨w2, g1, g2⟩ := g
      refine ⟨w2, ?_, g2⟩
      unfold fX11_readLine
      simp (disch := omega) only [↓mo_1, ↓mo_2, ad_m1, ite_m1_lt, ite_m2_lt, ite_le_m1, ite_eq_m1, ite_eq_m2, ite_m1_m1, ite_m2_m2, ite_T, ite_F, ite_nz, ite_zz, ite_m1_le, ite_m1_eq, oi_none, oi_some, ob_some, lw_def, ck_true, ckp_su, ite_lt_t, ite_lt_f, ite_le_t, ite_le_f, ite_eq_t, ite_eq_f, ck_inb, nI_add, sb_nI, mu_nI, nI_clamp, sO_at, sO_sO, Nat.add_sub_cancel, Nat.zero_add, Nat.add_zero, li_0, li_1, li_2, li_3, li_4, li_5, li_6, li_7, li_8, li_9, li_10, li_11, li_12, li_16, li_20, li_24, li_31, li_32, li_48, li_49, li_73, li_74, li_75, li_97, li_98, li_99, li_100, li_101, li_109, li_110, li_255, li_680, li_700, li_9999, li_65536, li_65537, i0, i1, i2, i3, g1]
  rw [if_neg c3]
  rw [nbt c3, b2i_f] at i3
  by_cases c4 : iwS X (tk X p) 4 = true
  · rw [if_pos c4]
    rw [c4, b2i_t] at i4
    have g := m_readUnsure hX hp hdn h (iw_4 c4) k3 (by omega) k6 (fun z => (k5 z).2.2.2.1)
    cases e : prS X D.2.2.1 T.2.2.1 4 T.2.1.1 1 p with
    | inl z =>
      obtain ⟨f, pl⟩ := z
      rw [e] at g
      obtain ⟨w2, g1, g2⟩ := g
      refine ⟨w2, ?_, g2⟩
      unfold fX11_readLine
      simp (disch := omega) only [↓mo_1, ↓mo_2, ad_m1, ite_m1_lt, ite_m2_lt, ite_le_m1, ite_eq_m1, ite_eq_m2, ite_m1_m1, ite_m2_m2, ite_T, ite_F, ite_nz, ite_zz, ite_m1_le, ite_m1_eq, oi_none, oi_some, ob_some, lw_def, ck_true, ckp_su, ite_lt_t, ite_lt_f, ite_le_t, ite_le_f, ite_eq_t, ite_eq_f, ck_inb, nI_add, sb_nI, mu_nI, nI_clamp, sO_at, sO_sO, Nat.add_sub_cancel, Nat.zero_add, Nat.add_zero, li_0, li_1, li_2, li_3, li_4, li_5, li_6, li_7, li_8, li_9, li_10, li_11, li_12, li_16, li_20, li_24, li_31, li_32, li_48, li_49, li_73, li_74, li_75, li_97, li_98, li_99, li_100, li_101, li_109, li_110, li_255, li_680, li_700, li_9999, li_65536, li_65537, i0, i1, i2, i3, i4, g1]
    | inr z =>
      obtain ⟨v1, v2, p3⟩ := z
      rw [e] at g
      obtain ⟨w2, g1, g2⟩ := g
      refine ⟨w2, ?_, g2⟩
      unfold fX11_readLine
      simp (disch := omega) only [↓mo_1, ↓mo_2, ad_m1, ite_m1_lt, ite_m2_lt, ite_le_m1, ite_eq_m1, ite_eq_m2, ite_m1_m1, ite_m2_m2, ite_T, ite_F, ite_nz, ite_zz, ite_m1_le, ite_m1_eq, oi_none, oi_some, ob_some, lw_def, ck_true, ckp_su, ite_lt_t, ite_lt_f, ite_le_t, ite_le_f, ite_eq_t, ite_eq_f, ck_inb, nI_add, sb_nI, mu_nI, nI_clamp, sO_at, sO_sO, Nat.add_sub_cancel, Nat.zero_add, Nat.add_zero, li_0, li_1, li_2, li_3, li_4, li_5, li_6, li_7, li_8, li_9, li_10, li_11, li_12, li_16, li_20, li_24, li_31, li_32, li_48, li_49, li_73, li_74, li_75, li_97, li_98, li_99, li_100, li_101, li_109, li_110, li_255, li_680, li_700, li_9999, li_65536, li_65537, i0, i1, i2, i3, i4, g1]
  rw [if_neg c4]
  rw [nbt c4, b2i_f] at i4
  by_cases c5 : iwS X (tk X p) 5 = true
  · rw [if_pos c5]
    rw [c5, b2i_t] at i5
    have g := m_readRead hX hp hdn h (iw_4 c5) k3 (by omega) k6 (fun z => (k5 z).2.2.2.2)
    cases e : prS X D.2.2.1 T.2.2.2 6 (dnt D) 1 p with
    | inl z =>
      obtain ⟨f, pl⟩ := z
      rw [e] at g
      obtain ⟨w2, g1, g2⟩ := g
      refine ⟨w2, ?_, g2⟩
      unfold fX11_readLine
      simp (disch := omega) only [↓mo_1, ↓mo_2, ad_m1, ite_m1_lt, ite_m2_lt, ite_le_m1, ite_eq_m1, ite_eq_m2, ite_m1_m1, ite_m2_m2, ite_T, ite_F, ite_nz, ite_zz, ite_m1_le, ite_m1_eq, oi_none, oi_some, ob_some, lw_def, ck_true, ckp_su, ite_lt_t, ite_lt_f, ite_le_t, ite_le_f, ite_eq_t, ite_eq_f, ck_inb, nI_add, sb_nI, mu_nI, nI_clamp, sO_at, sO_sO, Nat.add_sub_cancel, Nat.zero_add, Nat.add_zero, li_0, li_1, li_2, li_3, li_4, li_5, li_6, li_7, li_8, li_9, li_10, li_11, li_12, li_16, li_20, li_24, li_31, li_32, li_48, li_49, li_73, li_74, li_75, li_97, li_98, li_99, li_100, li_101, li_109, li_110, li_255, li_680, li_700, li_9999, li_65536, li_65537, i0, i1, i2, i3, i4, i5, g1]
    | inr z =>
      obtain ⟨v1, v2, p3⟩ := z
      rw [e] at g
      obtain ⟨w2, g1, g2⟩ := g
      refine ⟨w2, ?_, g2⟩
      unfold fX11_readLine
      simp (disch := omega) only [↓mo_1, ↓mo_2, ad_m1, ite_m1_lt, ite_m2_lt, ite_le_m1, ite_eq_m1, ite_eq_m2, ite_m1_m1, ite_m2_m2, ite_T, ite_F, ite_nz, ite_zz, ite_m1_le, ite_m1_eq, oi_none, oi_some, ob_some, lw_def, ck_true, ckp_su, ite_lt_t, ite_lt_f, ite_le_t, ite_le_f, ite_eq_t, ite_eq_f, ck_inb, nI_add, sb_nI, mu_nI, nI_clamp, sO_at, sO_sO, Nat.add_sub_cancel, Nat.zero_add, Nat.add_zero, li_0, li_1, li_2, li_3, li_4, li_5, li_6, li_7, li_8, li_9, li_10, li_11, li_12, li_16, li_20, li_24, li_31, li_32, li_48, li_49, li_73, li_74, li_75, li_97, li_98, li_99, li_100, li_101, li_109, li_110, li_255, li_680, li_700, li_9999, li_65536, li_65537, i0, i1, i2, i3, i4, i5, g1]
  rw [if_neg c5]
  rw [nbt c5, b2i_f] at i5
  obtain ⟨w2, g1, g2⟩ := m_fl (nd := nd) (f := 1) h.2.1
  refine ⟨w2, ?_, g2⟩
  unfold fX11_readLine
  simp (disch := omega) only [↓mo_1, ↓mo_2, ad_m1, ite_m1_lt, ite_m2_lt, ite_le_m1, ite_eq_m1, ite_eq_m2, ite_m1_m1, ite_m2_m2, ite_T, ite_F, ite_nz, ite_zz, ite_m1_le, ite_m1_eq, oi_none, oi_some, ob_some, lw_def, ck_true, ckp_su, ite_lt_t, ite_lt_f, ite_le_t, ite_le_f, ite_eq_t, ite_eq_f, ck_inb, nI_add, sb_nI, mu_nI, nI_clamp, sO_at, sO_sO, Nat.add_sub_cancel, Nat.zero_add, Nat.add_zero, li_0, li_1, li_2, li_3, li_4, li_5, li_6, li_7, li_8, li_9, li_10, li_11, li_12, li_16, li_20, li_24, li_31, li_32, li_48, li_49, li_73, li_74, li_75, li_97, li_98, li_99, li_100, li_101, li_109, li_110, li_255, li_680, li_700, li_9999, li_65536, li_65537, i0, i1, i2, i3, i4, i5, g1]
end LN
