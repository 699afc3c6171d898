/-! ===== a track written in its band; the journal emptied ===== -/
def lyT (D : Dk) (tr : Nat → Int32) (b p : Nat) (x : Int32) : Nat → Int32 := fun t => if t = p then x else if p < t ∧ t ≤ p + D.2.2.1 ∧ t < dfst D.2.1 b + D.2.1 b then m2 else tr t
/-- the i-th track of a band is written -/
def lyS (D : Dk) (s : Sd) (b i : Nat) (x : Int32) : Sd := (lyT D s.1 b (dfst D.2.1 b + i) x, s.2.1, s.2.2.1, s.2.2.2.1, s.2.2.2.2 + nI 1)
def emS (s : Sd) : Sd := (s.1, s.2.1, (0, s.2.2.1.2.1, false, s.2.2.1.2.2.2), s.2.2.2)
theorem ly_wf {D : Dk} {s : Sd} {b i : Nat} {x : Int32} (hW : WFS D s) : WFS D (lyS D s b i x) := hW
theorem em_wf {D : Dk} {s : Sd} (hW : WFS D s) : WFS D (emS s) := ⟨hW.1, hW.2.1, fun h => absurd h (Nat.not_lt_zero _), (fun h => by cases h)⟩
section LAY
variable {w : Wd} {j a : Nat} {o : Ob} {D : Dk} {s : Sd} {nd : Nat} {f : Nat → Int32}
theorem oI_s {o : Ob} {k : Nat} {v : Int32} : (oI o k v).2 = o.2 := rfl
theorem x_emptyJournal (hR : RX o s) : fX7_emptyJournal j (sO w 7 j o) = some ((), sO w 7 j (oI (oI (oI o 5 (nI 0)) 6 m1) 7 (nI 0))) ∧ RX (oI (oI (oI o 5 (nI 0)) 6 m1) 7 (nI 0)) (emS s) := by
  refine ⟨?_, ?_⟩
  · unfold fX7_emptyJournal
    simp (disch := omega) only [↓mo_1, ↓mo_2, ad_m1, ite_m1_lt, ite_m2_lt, ite_le_m1, ite_eq_m1, ite_eq_m2, ite_m1_m1, ite_m2_m2, ite_T, ite_F, ite_nz, ite_zz, ite_m1_le, ite_m1_eq, oi_none, oi_some, ob_some, lw_def, ck_true, ckp_su, ite_lt_t, ite_lt_f, ite_le_t, ite_le_f, ite_eq_t, ite_eq_f, ck_inb, nI_add, sb_nI, mu_nI, nI_clamp, sO_at, sO_sO, Nat.add_sub_cancel, Nat.zero_add, Nat.add_zero, li_0, li_1, li_2, li_3, li_4, li_5, li_6, li_7, li_8, li_9, li_10, li_11, li_12, li_16, li_20, li_24, li_31, li_32, li_48, li_49, li_73, li_74, li_75, li_97, li_98, li_99, li_100, li_101, li_109, li_110, li_255, li_680, li_700, li_9999, li_65536, li_65537, sI_s]
  · refine ⟨hR.1, ?_, hR.2.2.1, hR.2.2.2.1, ?_, fun h => absurd h (Nat.not_lt_zero _), oI_a, fun p hp => absurd hp (Nat.not_lt_zero _), ?_, ?_⟩
    · simp (disch := decide) only [oI_n]; exact hR.2.1
    · simp (disch := decide) only [oI_n, oI_a]; rfl
    · simp (disch := decide) only [oI_n]; exact hR.2.2.2.2.2.2.2.2.1
    · simp (disch := decide) only [oI_n]; exact hR.2.2.2.2.2.2.2.2.2
theorem m_em : ∀ k i, i + k = 8 → ∀ (m : Nat) (f : Nat → Int32), k < m → ∃ g : Nat → Int32, fX11_emptied_26 nd m (mX w f) (nI i) = some ((), mX w g) ∧ ∀ t, (t < 101 ∨ 109 ≤ t) → g t = f t := by
  intro k
  induction k with
  | zero =>
    intro i hi m f hm
    obtain ⟨m, rfl⟩ : ∃ q, m = q + 1 := ⟨m - 1, by omega⟩
    refine ⟨f, ?_, fun _ _ => rfl⟩
    rw [fX11_emptied_26.eq_2]
    simp (disch := omega) only [↓mo_1, ↓mo_2, ad_m1, ite_m1_lt, ite_m2_lt, ite_le_m1, ite_eq_m1, ite_eq_m2, ite_m1_m1, ite_m2_m2, ite_T, ite_F, ite_nz, ite_zz, ite_m1_le, ite_m1_eq, oi_none, oi_some, ob_some, lw_def, ck_true, ckp_su, ite_lt_t, ite_lt_f, ite_le_t, ite_le_f, ite_eq_t, ite_eq_f, ck_inb, nI_add, sb_nI, mu_nI, nI_clamp, sO_at, sO_sO, Nat.add_sub_cancel, Nat.zero_add, Nat.add_zero, li_0, li_1, li_2, li_3, li_4, li_5, li_6, li_7, li_8, li_9, li_10, li_11, li_12, li_16, li_20, li_24, li_31, li_32, li_48, li_49, li_73, li_74, li_75, li_97, li_98, li_99, li_100, li_101, li_109, li_110, li_255, li_680, li_700, li_9999, li_65536, li_65537]
  | succ k ih =>
    intro i hi m f hm
    obtain ⟨m, rfl⟩ : ∃ q, m = q + 1 := ⟨m - 1, by omega⟩
    obtain ⟨g, e1, e2⟩ := ih (i + 1) (by omega) m (upd f (101 + i) (nI 0)) (by omega)
    refine ⟨g, ?_, fun t ht => by rw [e2 t ht, upd_ne (by omega)]⟩
    rw [fX11_emptied_26.eq_2]
    simp (disch := omega) only [↓mo_1, ↓mo_2, ad_m1, ite_m1_lt, ite_m2_lt, ite_le_m1, ite_eq_m1, ite_eq_m2, ite_m1_m1, ite_m2_m2, ite_T, ite_F, ite_nz, ite_zz, ite_m1_le, ite_m1_eq, oi_none, oi_some, ob_some, lw_def, ck_true, ckp_su, ite_lt_t, ite_lt_f, ite_le_t, ite_le_f, ite_eq_t, ite_eq_f, ck_inb, nI_add, sb_nI, mu_nI, nI_clamp, sO_at, sO_sO, Nat.add_sub_cancel, Nat.zero_add, Nat.add_zero, li_0, li_1, li_2, li_3, li_4, li_5, li_6, li_7, li_8, li_9, li_10, li_11, li_12, li_16, li_20, li_24, li_31, li_32, li_48, li_49, li_73, li_74, li_75, li_97, li_98, li_99, li_100, li_101, li_109, li_110, li_255, li_680, li_700, li_9999, li_65536, li_65537, mX_s]
    exact e1
theorem m_emptied (hD : WFD D) (hW : WFS D s) (hR : RM f s) : ∃ g : Nat → Int32, fX11_emptied nd (mX w f) = some ((), mX w g) ∧ RM g (emS s) := by
  have hn := hW.n24 hD
  obtain ⟨g, e1, e2⟩ := m_em (nd := nd) (w := w) 8 0 (by omega) fuel0 (upd (upd (upd f 98 (nI 0)) 99 (nI 0)) 100 (nI 0)) (by unfold fuel0; omega)
  refine ⟨g, ?_, ?_⟩
  · unfold fX11_emptied
    simp (disch := omega) only [↓mo_1, ↓mo_2, ad_m1, ite_m1_lt, ite_m2_lt, ite_le_m1, ite_eq_m1, ite_eq_m2, ite_m1_m1, ite_m2_m2, ite_T, ite_F, ite_nz, ite_zz, ite_m1_le, ite_m1_eq, oi_none, oi_some, ob_some, lw_def, ck_true, ckp_su, ite_lt_t, ite_lt_f, ite_le_t, ite_le_f, ite_eq_t, ite_eq_f, ck_inb, nI_add, sb_nI, mu_nI, nI_clamp, sO_at, sO_sO, Nat.add_sub_cancel, Nat.zero_add, Nat.add_zero, li_0, li_1, li_2, li_3, li_4, li_5, li_6, li_7, li_8, li_9, li_10, li_11, li_12, li_16, li_20, li_24, li_31, li_32, li_48, li_49, li_73, li_74, li_75, li_97, li_98, li_99, li_100, li_101, li_109, li_110, li_255, li_680, li_700, li_9999, li_65536, li_65537, mX_s]
    exact e1
  · refine ⟨fun t ht => ?_, ?_, fun p hp => ?_, fun p hp => ?_, ?_, fun h => absurd h (Nat.not_lt_zero _), ?_, fun p hp => absurd hp (Nat.not_lt_zero _), ?_, ?_⟩
    · simp (disch := omega) only [e2, upd_ne]; exact hR.1 t ht
    · simp (disch := omega) only [e2, upd_ne]; exact hR.2.1
    · have : p < sn s := hp
      simp (disch := omega) only [e2, upd_ne]; exact hR.2.2.1 p hp
    · have : p < sn s := hp
      simp (disch := omega) only [e2, upd_ne]; exact hR.2.2.2.1 p hp
    · simp (disch := omega) only [e2, upd_ne, upd_at]; rfl
    · simp (disch := omega) only [e2, upd_at]; rfl
    · simp (disch := omega) only [e2, upd_ne]; exact hR.2.2.2.2.2.2.2.2.1
    · simp (disch := omega) only [e2, upd_ne]; exact hR.2.2.2.2.2.2.2.2.2
/-- the row of tracks, as far as it is damaged -/
def lyP (tr : Nat → Int32) (p q : Nat) (x : Int32) : Nat → Int32 := fun t => if t = p then x else if p < t ∧ t < q then m2 else tr t
theorem lyP_end {D : Dk} {tr : Nat → Int32} {b p q : Nat} {x : Int32} (h1 : p < q) (h : q = p + D.2.2.1 + 1 ∨ q = dfst D.2.1 b + D.2.1 b) (h2 : q ≤ p + D.2.2.1 + 1) (h3 : q ≤ dfst D.2.1 b + D.2.1 b) : lyP tr p q x = lyT D tr b p x := by
  funext t
  unfold lyP lyT
  by_cases c : t = p
  · rw [if_pos c, if_pos c]
  · rw [if_neg c, if_neg c]
    by_cases c2 : p < t ∧ t < q
    · rw [if_pos c2, if_pos (by omega)]
    · rw [if_neg c2, if_neg (by omega)]
theorem x_wl (hD : WFD D) (hS : RSh (w 5 a) D) {b p : Nat} {x : Int32} {tr : Nat → Int32} (hb : b < D.1) : ∀ k q, q + k = 100 → p < q → q ≤ p + D.2.2.1 + 1 → q ≤ dfst D.2.1 b + D.2.1 b → ∀ (m : Nat) (o : Ob), k < m → (∀ t, t < 48 → o.2.1 0 t = lyP tr p q x t) →
    ∃ o2 : Ob, fX7_writeFromJournal_63 j a m (sO w 7 j o) (nI p) (nI (dfst D.2.1 b + D.2.1 b)) (nI q) = some ((), sO w 7 j (oI o2 9 (o.1 9 + nI 1))) ∧ o2.1 = o.1 ∧ (∀ t, t < 48 → o2.2.1 0 t = lyT D tr b p x t) ∧ ∀ r, r ≠ 0 → o2.2.1 r = o.2.1 r := by
  have h3 := dfst_le hb
  have h4 := hD.2.2.2.1
  have hov := hD.2.2.2.2.1
  intro k
  induction k with
  | zero => intro q h1 h2 h5 h6; omega
  | succ k ih =>
    intro q h1 h2 h5 h6 m o hm hr
    obtain ⟨m, rfl⟩ : ∃ z, m = z + 1 := ⟨m - 1, by omega⟩
    rw [fX7_writeFromJournal_63.eq_2]
    rw [sO_nc (by decide), hS.2.2.2.2.1]
    by_cases c1 : p + D.2.2.1 < q
    · refine ⟨o, ?_, rfl, fun t ht => by rw [hr t ht, lyP_end (D := D) (b := b) h2 (by omega) h5 h6], fun _ _ => rfl⟩
      simp (disch := omega) only [↓mo_1, ↓mo_2, ad_m1, ite_m1_lt, ite_m2_lt, ite_le_m1, ite_eq_m1, ite_eq_m2, ite_m1_m1, ite_m2_m2, ite_T, ite_F, ite_nz, ite_zz, ite_m1_le, ite_m1_eq, oi_none, oi_some, ob_some, lw_def, ck_true, ckp_su, ite_lt_t, ite_lt_f, ite_le_t, ite_le_f, ite_eq_t, ite_eq_f, ck_inb, nI_add, sb_nI, mu_nI, nI_clamp, sO_at, sO_sO, Nat.add_sub_cancel, Nat.zero_add, Nat.add_zero, li_0, li_1, li_2, li_3, li_4, li_5, li_6, li_7, li_8, li_9, li_10, li_11, li_12, li_16, li_20, li_24, li_31, li_32, li_48, li_49, li_73, li_74, li_75, li_97, li_98, li_99, li_100, li_101, li_109, li_110, li_255, li_680, li_700, li_9999, li_65536, li_65537, sI_s]
    · by_cases c2 : dfst D.2.1 b + D.2.1 b ≤ q
      · refine ⟨o, ?_, rfl, fun t ht => by rw [hr t ht, lyP_end (D := D) (b := b) h2 (by omega) h5 h6], fun _ _ => rfl⟩
        simp (disch := omega) only [↓mo_1, ↓mo_2, ad_m1, ite_m1_lt, ite_m2_lt, ite_le_m1, ite_eq_m1, ite_eq_m2, ite_m1_m1, ite_m2_m2, ite_T, ite_F, ite_nz, ite_zz, ite_m1_le, ite_m1_eq, oi_none, oi_some, ob_some, lw_def, ck_true, ckp_su, ite_lt_t, ite_lt_f, ite_le_t, ite_le_f, ite_eq_t, ite_eq_f, ck_inb, nI_add, sb_nI, mu_nI, nI_clamp, sO_at, sO_sO, Nat.add_sub_cancel, Nat.zero_add, Nat.add_zero, li_0, li_1, li_2, li_3, li_4, li_5, li_6, li_7, li_8, li_9, li_10, li_11, li_12, li_16, li_20, li_24, li_31, li_32, li_48, li_49, li_73, li_74, li_75, li_97, li_98, li_99, li_100, li_101, li_109, li_110, li_255, li_680, li_700, li_9999, li_65536, li_65537, sI_s]
      · simp (disch := omega) only [↓mo_1, ↓mo_2, ad_m1, ite_m1_lt, ite_m2_lt, ite_le_m1, ite_eq_m1, ite_eq_m2, ite_m1_m1, ite_m2_m2, ite_T, ite_F, ite_nz, ite_zz, ite_m1_le, ite_m1_eq, oi_none, oi_some, ob_some, lw_def, ck_true, ckp_su, ite_lt_t, ite_lt_f, ite_le_t, ite_le_f, ite_eq_t, ite_eq_f, ck_inb, nI_add, sb_nI, mu_nI, nI_clamp, sO_at, sO_sO, Nat.add_sub_cancel, Nat.zero_add, Nat.add_zero, li_0, li_1, li_2, li_3, li_4, li_5, li_6, li_7, li_8, li_9, li_10, li_11, li_12, li_16, li_20, li_24, li_31, li_32, li_48, li_49, li_73, li_74, li_75, li_97, li_98, li_99, li_100, li_101, li_109, li_110, li_255, li_680, li_700, li_9999, li_65536, li_65537, sA_s]
        obtain ⟨o2, e1, e2, e3, e4⟩ := ih (q + 1) (by omega) (by omega) (by omega) (by omega) m (oA o 0 q m2) (by omega) (fun t ht => by
          rw [oA_a]
          unfold lyP
          by_cases z : t = q
          · rw [z, upd_at, if_neg (by omega), if_pos (by omega)]
          · rw [upd_ne z, hr t ht]
            unfold lyP
            by_cases z1 : t = p
            · rw [if_pos z1, if_pos z1]
            · rw [if_neg z1, if_neg z1]
              by_cases z2 : p < t ∧ t < q
              · rw [if_pos z2, if_pos (by omega)]
              · rw [if_neg z2, if_neg (by omega)])
        refine ⟨o2, e1, e2, e3, fun r hr2 => by rw [e4 r hr2, oA_n hr2]⟩
theorem x_wfj (hD : WFD D) (hS : RSh (w 5 a) D) (hR : RX o s) {b i : Nat} (hb : b < D.1) (hi : i < D.2.1 b) (h6 : o.1 6 = nI b) : ∃ o2 : Ob, fX7_writeFromJournal j a (sO w 7 j o) (nI i) = some ((), sO w 7 j o2) ∧ RX o2 (lyS D s b i (o.2.1 3 i)) ∧ o2.1 6 = o.1 6 ∧ o2.1 10 = o.1 10 ∧ o2.2.1 3 = o.2.1 3 := by
  have h3 := dfst_le hb
  have h4 := hD.2.2.2.1
  have h8 := (hD.2.2.1 b hb).2
  have hov := hD.2.2.2.2.2.1
  have hS2 : RSh ((sO w 7 j o) 5 a) D := by rw [sO_nc (by decide)]; exact hS
  have hl : aln 7 j 3 = 8 := rfl
  obtain ⟨o2, e1, e2, e3, e4⟩ := x_wl (j := j) hD hS (p := dfst D.2.1 b + i) (x := o.2.1 3 i) (tr := s.1) hb (100 - (dfst D.2.1 b + i + 1)) (dfst D.2.1 b + i + 1) (by omega) (by omega) (by omega) (by omega) fuel0 (oA o 0 (dfst D.2.1 b + i) (o.2.1 3 i)) (by unfold fuel0; omega) (fun t ht => by
    rw [oA_a]
    unfold lyP
    by_cases z : t = dfst D.2.1 b + i
    · rw [z, upd_at, if_pos rfl]
    · rw [upd_ne z, if_neg z, if_neg (by omega)]
      exact hR.1 t ht)
  refine ⟨oI o2 9 ((oA o 0 (dfst D.2.1 b + i) (o.2.1 3 i)).1 9 + nI 1), ?_, ?_, by rw [oI_n (by decide), e2]; rfl, by rw [oI_n (by decide), e2]; rfl, by rw [oI_2, e4 3 (by decide), oA_n (by decide)]⟩
  · unfold fX7_writeFromJournal
    simp (disch := omega) only [↓mo_1, ↓mo_2, ad_m1, ite_m1_lt, ite_m2_lt, ite_le_m1, ite_eq_m1, ite_eq_m2, ite_m1_m1, ite_m2_m2, ite_T, ite_F, ite_nz, ite_zz, ite_m1_le, ite_m1_eq, oi_none, oi_some, ob_some, lw_def, ck_true, ckp_su, ite_lt_t, ite_lt_f, ite_le_t, ite_le_f, ite_eq_t, ite_eq_f, ck_inb, nI_add, sb_nI, mu_nI, nI_clamp, sO_at, sO_sO, Nat.add_sub_cancel, Nat.zero_add, Nat.add_zero, li_0, li_1, li_2, li_3, li_4, li_5, li_6, li_7, li_8, li_9, li_10, li_11, li_12, li_16, li_20, li_24, li_31, li_32, li_48, li_49, li_73, li_74, li_75, li_97, li_98, li_99, li_100, li_101, li_109, li_110, li_255, li_680, li_700, li_9999, li_65536, li_65537, h6, x_firstOf hS2 hD hb, x_tracksOf hS2 hD hb, at_in, sA_s]
    exact e1
  · have e5 : ∀ k, k ≠ 9 → (oI o2 9 ((oA o 0 (dfst D.2.1 b + i) (o.2.1 3 i)).1 9 + nI 1)).1 k = o.1 k := fun k hk => by rw [oI_n hk, e2]; rfl
    refine ⟨fun t ht => e3 t ht, ?_, fun p hp => ?_, fun p hp => ?_, ?_, fun h => ?_, ?_, fun p hp => ?_, ?_, ?_⟩
    · rw [e5 4 (by decide)]; exact hR.2.1
    · rw [oI_2, e4 1 (by decide), oA_n (by decide)]; exact hR.2.2.1 p hp
    · rw [oI_2, e4 2 (by decide), oA_n (by decide)]; exact hR.2.2.2.1 p hp
    · rw [e5 5 (by decide)]; exact hR.2.2.2.2.1
    · rw [e5 6 (by decide)]; exact hR.2.2.2.2.2.1 h
    · rw [e5 7 (by decide)]; exact hR.2.2.2.2.2.2.1
    · rw [oI_2, e4 3 (by decide), oA_n (by decide)]; exact hR.2.2.2.2.2.2.2.1 p hp
    · rw [e5 8 (by decide)]; exact hR.2.2.2.2.2.2.2.2.1
    · rw [oI_a, oA_1, hR.2.2.2.2.2.2.2.2.2]; rfl
theorem m_ll (hD : WFD D) (hS : RMs nd w D) {b p : Nat} {x : Int32} {tr : Nat → Int32} (hb : b < D.1) (hp : dfst D.2.1 b ≤ p) : ∀ k d, d + k = 100 → 1 ≤ d → d ≤ D.2.2.1 + 1 → p + d ≤ dfst D.2.1 b + D.2.1 b → ∀ (m : Nat) (f : Nat → Int32), k < m → (∀ t, t < 48 → f t = lyP tr p (p + d) x t) →
    ∃ g : Nat → Int32, fX11_laid_21 nd m (mX w f) (nI b) (nI p) (nI d) = some ((), mX w (upd g 109 (f 109 + nI 1))) ∧ (∀ t, t < 48 → g t = lyT D tr b p x t) ∧ ∀ t, 48 ≤ t → g t = f t := by
  have h3 := dfst_le hb
  have h4 := hD.2.2.2.1
  have hov := hD.2.2.2.2.1
  obtain ⟨dd, hd, hdn, hdo, -⟩ := hS.2.2.2
  intro k
  induction k with
  | zero => intro q h1 h2 h5 h6; omega
  | succ k ih =>
    intro d h1 h2 h5 h6 m f hm hr
    obtain ⟨m, rfl⟩ : ∃ z, m = z + 1 := ⟨m - 1, by omega⟩
    rw [fX11_laid_21.eq_2, mX_p, hd]
    unfold fX11_laid_64
    by_cases c1 : D.2.2.1 < d
    · refine ⟨f, ?_, fun t ht => by rw [hr t ht, lyP_end (D := D) (b := b) (by omega) (by omega) (by omega) (by omega)], fun _ _ => rfl⟩
      simp (disch := omega) only [↓mo_1, ↓mo_2, ad_m1, ite_m1_lt, ite_m2_lt, ite_le_m1, ite_eq_m1, ite_eq_m2, ite_m1_m1, ite_m2_m2, ite_T, ite_F, ite_nz, ite_zz, ite_m1_le, ite_m1_eq, oi_none, oi_some, ob_some, lw_def, ck_true, ckp_su, ite_lt_t, ite_lt_f, ite_le_t, ite_le_f, ite_eq_t, ite_eq_f, ck_inb, nI_add, sb_nI, mu_nI, nI_clamp, sO_at, sO_sO, Nat.add_sub_cancel, Nat.zero_add, Nat.add_zero, li_0, li_1, li_2, li_3, li_4, li_5, li_6, li_7, li_8, li_9, li_10, li_11, li_12, li_16, li_20, li_24, li_31, li_32, li_48, li_49, li_73, li_74, li_75, li_97, li_98, li_99, li_100, li_101, li_109, li_110, li_255, li_680, li_700, li_9999, li_65536, li_65537, mX_10, hdo, mX_x, mX_s]
    · by_cases c2 : dfst D.2.1 b + D.2.1 b ≤ p + d
      · refine ⟨f, ?_, fun t ht => by rw [hr t ht, lyP_end (D := D) (b := b) (by omega) (by omega) (by omega) (by omega)], fun _ _ => rfl⟩
        have hin := m_isIn (f := f) hD hS (t := p + d) hb (by omega)
        rw [decide_eq_false (by omega)] at hin
        simp (disch := omega) only [↓mo_1, ↓mo_2, ad_m1, ite_m1_lt, ite_m2_lt, ite_le_m1, ite_eq_m1, ite_eq_m2, ite_m1_m1, ite_m2_m2, ite_T, ite_F, ite_nz, ite_zz, ite_m1_le, ite_m1_eq, oi_none, oi_some, ob_some, lw_def, ck_true, ckp_su, ite_lt_t, ite_lt_f, ite_le_t, ite_le_f, ite_eq_t, ite_eq_f, ck_inb, nI_add, sb_nI, mu_nI, nI_clamp, sO_at, sO_sO, Nat.add_sub_cancel, Nat.zero_add, Nat.add_zero, li_0, li_1, li_2, li_3, li_4, li_5, li_6, li_7, li_8, li_9, li_10, li_11, li_12, li_16, li_20, li_24, li_31, li_32, li_48, li_49, li_73, li_74, li_75, li_97, li_98, li_99, li_100, li_101, li_109, li_110, li_255, li_680, li_700, li_9999, li_65536, li_65537, mX_10, hdo, mX_x, mX_s, hin, b2i_f]
      · have hin := m_isIn (f := f) hD hS (t := p + d) hb (by omega)
        rw [decide_eq_true (by omega)] at hin
        simp (disch := omega) only [↓mo_1, ↓mo_2, ad_m1, ite_m1_lt, ite_m2_lt, ite_le_m1, ite_eq_m1, ite_eq_m2, ite_m1_m1, ite_m2_m2, ite_T, ite_F, ite_nz, ite_zz, ite_m1_le, ite_m1_eq, oi_none, oi_some, ob_some, lw_def, ck_true, ckp_su, ite_lt_t, ite_lt_f, ite_le_t, ite_le_f, ite_eq_t, ite_eq_f, ck_inb, nI_add, sb_nI, mu_nI, nI_clamp, sO_at, sO_sO, Nat.add_sub_cancel, Nat.zero_add, Nat.add_zero, li_0, li_1, li_2, li_3, li_4, li_5, li_6, li_7, li_8, li_9, li_10, li_11, li_12, li_16, li_20, li_24, li_31, li_32, li_48, li_49, li_73, li_74, li_75, li_97, li_98, li_99, li_100, li_101, li_109, li_110, li_255, li_680, li_700, li_9999, li_65536, li_65537, mX_10, hdo, mX_x, mX_s, hin, b2i_t]
        obtain ⟨g, e1, e2, e3⟩ := ih (d + 1) (by omega) (by omega) (by omega) (by omega) m (upd f (p + d) m2) (by omega) (fun t ht => by
          unfold lyP
          by_cases z : t = p + d
          · rw [z, upd_at, if_neg (by omega), if_pos (by omega)]
          · rw [upd_ne z, hr t ht]
            unfold lyP
            by_cases z1 : t = p
            · rw [if_pos z1, if_pos z1]
            · rw [if_neg z1, if_neg z1]
              by_cases z2 : p < t ∧ t < p + d
              · rw [if_pos z2, if_pos (by omega)]
              · rw [if_neg z2, if_neg (by omega)])
        rw [upd_ne (by omega)] at e1
        exact ⟨g, e1, e2, fun t ht => by rw [e3 t ht, upd_ne (by omega)]⟩
theorem m_laid (hD : WFD D) (hS : RMs nd w D) (hW : WFS D s) (hR : RM f s) {b i : Nat} {x : Int32} (hb : b < D.1) (hi : i < D.2.1 b) : ∃ g : Nat → Int32, fX11_laid nd (mX w f) (nI b) (nI i) x = some ((), mX w g) ∧ RM g (lyS D s b i x) ∧ ∀ t, 98 ≤ t → t ≠ 109 → g t = f t := by
  have h3 := dfst_le hb
  have h4 := hD.2.2.2.1
  have h24 := hD.2.1
  have hov := hD.2.2.2.2.2.1
  have hn := hW.n24 hD
  have hj : 0 < jn s → jn s ≤ 8 := fun h => Nat.le_trans (hW.2.2.1 h).2 (hD.2.2.1 _ (hW.2.2.1 h).1).2
  have h1 := hS.2.2.1 b hb
  obtain ⟨g, e1, e2, e3⟩ := m_ll hD hS (p := dfst D.2.1 b + i) (x := x) (tr := s.1) hb (by omega) 99 1 (by omega) (by omega) (by omega) (by omega) fuel0 (upd f (dfst D.2.1 b + i) x) (by unfold fuel0; omega) (fun t ht => by
    unfold lyP
    by_cases z : t = dfst D.2.1 b + i
    · rw [z, upd_at, if_pos rfl]
    · rw [upd_ne z, if_neg z, if_neg (by omega)]
      exact hR.1 t ht)
  rw [upd_ne (by omega)] at e1
  refine ⟨upd g 109 (f 109 + nI 1), ?_, ?_, fun t h1 h2 => by rw [upd_ne (by omega), e3 _ (by omega), upd_ne (by omega)]⟩
  · unfold fX11_laid
    simp (disch := first | omega | decide) only [↓mo_1, ↓mo_2, ad_m1, ite_m1_lt, ite_m2_lt, ite_le_m1, ite_eq_m1, ite_eq_m2, ite_m1_m1, ite_m2_m2, ite_T, ite_F, ite_nz, ite_zz, ite_m1_le, ite_m1_eq, oi_none, oi_some, ob_some, lw_def, ck_true, ckp_su, ite_lt_t, ite_lt_f, ite_le_t, ite_le_f, ite_eq_t, ite_eq_f, ck_inb, nI_add, sb_nI, mu_nI, nI_clamp, sO_at, sO_sO, Nat.add_sub_cancel, Nat.zero_add, Nat.add_zero, li_0, li_1, li_2, li_3, li_4, li_5, li_6, li_7, li_8, li_9, li_10, li_11, li_12, li_16, li_20, li_24, li_31, li_32, li_48, li_49, li_73, li_74, li_75, li_97, li_98, li_99, li_100, li_101, li_109, li_110, li_255, li_680, li_700, li_9999, li_65536, li_65537, mX_r, h1.1, mX_s]
    exact e1
  · have e5 : ∀ t, 48 ≤ t → t ≠ 109 → (upd g 109 (f 109 + nI 1)) t = f t := fun t z1 z2 => by rw [upd_ne z2, e3 t z1, upd_ne (by omega)]
    refine ⟨fun t ht => by rw [upd_ne (by omega)]; exact e2 t ht, ?_, fun p hp => ?_, fun p hp => ?_, ?_, fun h => ?_, ?_, fun p hp => ?_, ?_, ?_⟩
    · rw [e5 _ (by omega) (by omega)]; exact hR.2.1
    · have : p < sn s := hp
      rw [e5 _ (by omega) (by omega)]; exact hR.2.2.1 p hp
    · have : p < sn s := hp
      rw [e5 _ (by omega) (by omega)]; exact hR.2.2.2.1 p hp
    · rw [e5 _ (by omega) (by omega)]; exact hR.2.2.2.2.1
    · rw [e5 _ (by omega) (by omega)]; exact hR.2.2.2.2.2.1 h
    · rw [e5 _ (by omega) (by omega)]; exact hR.2.2.2.2.2.2.1
    · have : p < jn s := hp
      rw [e5 _ (by omega) (by omega)]; exact hR.2.2.2.2.2.2.2.1 p hp
    · rw [e5 _ (by omega) (by omega)]; exact hR.2.2.2.2.2.2.2.2.1
    · rw [upd_at, hR.2.2.2.2.2.2.2.2.2]; rfl
end LAY
