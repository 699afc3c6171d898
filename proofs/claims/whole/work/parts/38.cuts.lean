/-! ===== damaged tracks, cuts, recovery ===== -/
def dmB (D : Dk) (tr : Nat → Int32) (b : Nat) : Nat := ctp (fun i => decide (tr (dfst D.2.1 b + i) = m2)) (D.2.1 b)
def dmA (D : Dk) (tr : Nat → Int32) : Nat → Nat
  | 0 => 0
  | b + 1 => dmA D tr b + dmB D tr b
theorem dmA_le {D : Dk} {tr : Nat → Int32} : ∀ b, dmA D tr b ≤ dfst D.2.1 b
  | 0 => Nat.le_refl _
  | b + 1 => by
    have h1 := dmA_le (D := D) (tr := tr) b
    have h2 : dmB D tr b ≤ D.2.1 b := ctp_le _ _
    show dmA D tr b + dmB D tr b ≤ dfst D.2.1 b + D.2.1 b
    omega
def dnS (s : Sd) (d : Bool) : Sd := (s.1, s.2.1, s.2.2.1, d, s.2.2.2.2)
def ctS (D : Dk) (s : Sd) (b k : Nat) : Sd := dnS (spS D s b k) true
def lyN (D : Dk) (s : Sd) (b : Nat) (v : Nat → Int32) : Nat → Sd
  | 0 => s
  | k + 1 => lyS D (lyN D s b v k) b k (v k)
def rvS (D : Dk) (s : Sd) : Sd := if jf s = true then enS D (lyN D (dnS s false) (jb s) (jv s) (D.2.1 (jb s))) (jb s) else emS (dnS s false)
def rvB (s : Sd) : Option Nat := if jf s = true then some (jb s) else none
theorem dn_wf {D : Dk} {s : Sd} {d : Bool} (hW : WFS D s) : WFS D (dnS s d) := hW
theorem lyN_p {D : Dk} {s : Sd} {b : Nat} {v : Nat → Int32} : ∀ k, (lyN D s b v k).2.1 = s.2.1 ∧ (lyN D s b v k).2.2.1 = s.2.2.1 ∧ (lyN D s b v k).2.2.2.1 = s.2.2.2.1
  | 0 => ⟨rfl, rfl, rfl⟩
  | k + 1 => lyN_p k
theorem lyN_wf {D : Dk} {s : Sd} {b : Nat} {v : Nat → Int32} (hW : WFS D s) : ∀ k, WFS D (lyN D s b v k)
  | 0 => hW
  | k + 1 => ly_wf (lyN_wf hW k)
theorem lyN_dn {D : Dk} {s : Sd} {b : Nat} {v : Nat → Int32} {d : Bool} : ∀ k, lyN D (dnS s d) b v k = dnS (lyN D s b v k) d
  | 0 => rfl
  | k + 1 => by
    show lyS D (lyN D (dnS s d) b v k) b k (v k) = dnS (lyS D (lyN D s b v k) b k (v k)) d
    rw [lyN_dn k]
    rfl
theorem rv_wf {D : Dk} {s : Sd} (hW : WFS D s) : WFS D (rvS D s) ∧ jn (rvS D s) = 0 ∧ jf (rvS D s) = false ∧ sdn (rvS D s) = false := by
  unfold rvS
  by_cases h : jf s = true
  · rw [if_pos h]
    refine ⟨en_wf (lyN_wf (dn_wf hW) _), rfl, rfl, ?_⟩
    exact (lyN_p (D := D) (s := dnS s false) (b := jb s) (v := jv s) (D.2.1 (jb s))).2.2
  · rw [if_neg h]
    exact ⟨em_wf (dn_wf hW), rfl, rfl, rfl⟩
section CUTS
variable {w : Wd} {j a : Nat} {o : Ob} {D : Dk} {s : Sd} {nd : Nat} {f : Nat → Int32}
theorem x_dm (hD : WFD D) (hS : RSh (w 5 a) D) (hR : RX o s) {b : Nat} (hb : b < D.1) : ∀ k i, i + k = D.2.1 b → ∀ m, k < m → fX7_damagedOf_5 j a m (sO w 7 j o) (nI b) (nI (ctp (fun i => decide (sTr s (dfst D.2.1 b + i) = m2)) i)) (nI i) = some (nI (dmB D (sTr s) b), sO w 7 j o) := by
  have h3 := dfst_le hb
  have h4 := hD.2.2.2.1
  have hl : aln 7 j 0 = 48 := rfl
  have hS2 : RSh ((sO w 7 j o) 5 a) D := by rw [sO_nc (by decide)]; exact hS
  intro k
  induction k with
  | zero =>
    intro i hi m hm
    obtain ⟨m, rfl⟩ : ∃ q, m = q + 1 := ⟨m - 1, by omega⟩
    have e : i = D.2.1 b := by omega
    subst e
    rw [fX7_damagedOf_5.eq_2]
    simp (disch := omega) only [↓mo_1, ↓mo_2, ad_m1, ite_m1_lt, ite_m2_lt, ite_le_m1, ite_eq_m1, ite_eq_m2, ite_m1_m1, ite_m2_m2, ite_T, ite_F, ite_nz, ite_zz, ite_m1_le, ite_m1_eq, oi_none, oi_some, ob_some, lw_def, ck_true, ckp_su, ite_lt_t, ite_lt_f, ite_le_t, ite_le_f, ite_eq_t, ite_eq_f, ck_inb, nI_add, sb_nI, mu_nI, nI_clamp, sO_at, sO_sO, Nat.add_sub_cancel, Nat.zero_add, Nat.add_zero, li_0, li_1, li_2, li_3, li_4, li_5, li_6, li_7, li_8, li_9, li_10, li_11, li_12, li_16, li_20, li_24, li_31, li_32, li_48, li_49, li_73, li_74, li_75, li_97, li_98, li_99, li_100, li_101, li_109, li_110, li_255, li_680, li_700, li_9999, li_65536, li_65537, x_tracksOf hS2 hD hb]
    rfl
  | succ k ih =>
    intro i hi m hm
    obtain ⟨m, rfl⟩ : ∃ q, m = q + 1 := ⟨m - 1, by omega⟩
    have h1 := hR.1 (dfst D.2.1 b + i) (by omega)
    have hc := ctp_le (fun i => decide (sTr s (dfst D.2.1 b + i) = m2)) i
    have := ih (i + 1) (by omega) m (by omega)
    rw [fX7_damagedOf_5.eq_2]
    simp (disch := omega) only [↓mo_1, ↓mo_2, ad_m1, ite_m1_lt, ite_m2_lt, ite_le_m1, ite_eq_m1, ite_eq_m2, ite_m1_m1, ite_m2_m2, ite_T, ite_F, ite_nz, ite_zz, ite_m1_le, ite_m1_eq, oi_none, oi_some, ob_some, lw_def, ck_true, ckp_su, ite_lt_t, ite_lt_f, ite_le_t, ite_le_f, ite_eq_t, ite_eq_f, ck_inb, nI_add, sb_nI, mu_nI, nI_clamp, sO_at, sO_sO, Nat.add_sub_cancel, Nat.zero_add, Nat.add_zero, li_0, li_1, li_2, li_3, li_4, li_5, li_6, li_7, li_8, li_9, li_10, li_11, li_12, li_16, li_20, li_24, li_31, li_32, li_48, li_49, li_73, li_74, li_75, li_97, li_98, li_99, li_100, li_101, li_109, li_110, li_255, li_680, li_700, li_9999, li_65536, li_65537, x_tracksOf hS2 hD hb, x_firstOf hS2 hD hb, at_in, h1]
    by_cases q : sTr s (dfst D.2.1 b + i) = m2
    · rw [if_pos q]
      rw [ctp_t (by simp [q])] at this
      exact this
    · rw [if_neg q]
      rw [ctp_f (by simp [q])] at this
      exact this
theorem x_damagedOf (hD : WFD D) (hS : RSh (w 5 a) D) (hR : RX o s) {b : Nat} (hb : b < D.1) : fX7_damagedOf j a (sO w 7 j o) (nI b) = some (nI (dmB D (sTr s) b), sO w 7 j o) := by
  have h8 := hD.2.2.1 b hb
  exact x_dm hD hS hR hb (D.2.1 b) 0 (by omega) fuel0 (by unfold fuel0; omega)
theorem x_da (hD : WFD D) (hS : RSh (w 5 a) D) (hR : RX o s) : ∀ k b, b + k = D.1 → ∀ m, k < m → fX7_damagedInAll_4 j a m (sO w 7 j o) (nI (dmA D (sTr s) b)) (nI b) = some (nI (dmA D (sTr s) D.1), sO w 7 j o) := by
  have h24 := hD.2.1
  intro k
  induction k with
  | zero =>
    intro b hb m hm
    obtain ⟨m, rfl⟩ : ∃ q, m = q + 1 := ⟨m - 1, by omega⟩
    have e : b = D.1 := by omega
    subst e
    rw [fX7_damagedInAll_4.eq_2, sO_nc (by decide), hS.2.2.1]
    simp (disch := omega) only [↓mo_1, ↓mo_2, ad_m1, ite_m1_lt, ite_m2_lt, ite_le_m1, ite_eq_m1, ite_eq_m2, ite_m1_m1, ite_m2_m2, ite_T, ite_F, ite_nz, ite_zz, ite_m1_le, ite_m1_eq, oi_none, oi_some, ob_some, lw_def, ck_true, ckp_su, ite_lt_t, ite_lt_f, ite_le_t, ite_le_f, ite_eq_t, ite_eq_f, ck_inb, nI_add, sb_nI, mu_nI, nI_clamp, sO_at, sO_sO, Nat.add_sub_cancel, Nat.zero_add, Nat.add_zero, li_0, li_1, li_2, li_3, li_4, li_5, li_6, li_7, li_8, li_9, li_10, li_11, li_12, li_16, li_20, li_24, li_31, li_32, li_48, li_49, li_73, li_74, li_75, li_97, li_98, li_99, li_100, li_101, li_109, li_110, li_255, li_680, li_700, li_9999, li_65536, li_65537]
  | succ k ih =>
    intro b hb m hm
    obtain ⟨m, rfl⟩ : ∃ q, m = q + 1 := ⟨m - 1, by omega⟩
    rw [fX7_damagedInAll_4.eq_2, sO_nc (by decide), hS.2.2.1, x_damagedOf hD hS hR (by omega)]
    simp (disch := omega) only [↓mo_1, ↓mo_2, ad_m1, ite_m1_lt, ite_m2_lt, ite_le_m1, ite_eq_m1, ite_eq_m2, ite_m1_m1, ite_m2_m2, ite_T, ite_F, ite_nz, ite_zz, ite_m1_le, ite_m1_eq, oi_none, oi_some, ob_some, lw_def, ck_true, ckp_su, ite_lt_t, ite_lt_f, ite_le_t, ite_le_f, ite_eq_t, ite_eq_f, ck_inb, nI_add, sb_nI, mu_nI, nI_clamp, sO_at, sO_sO, Nat.add_sub_cancel, Nat.zero_add, Nat.add_zero, li_0, li_1, li_2, li_3, li_4, li_5, li_6, li_7, li_8, li_9, li_10, li_11, li_12, li_16, li_20, li_24, li_31, li_32, li_48, li_49, li_73, li_74, li_75, li_97, li_98, li_99, li_100, li_101, li_109, li_110, li_255, li_680, li_700, li_9999, li_65536, li_65537]
    exact ih (b + 1) (by omega) m (by omega)
theorem x_damagedInAll (hD : WFD D) (hS : RSh (w 5 a) D) (hR : RX o s) : fX7_damagedInAll j a (sO w 7 j o) = some (nI (dmA D (sTr s) D.1), sO w 7 j o) := by
  have h24 := hD.2.1
  exact x_da hD hS hR D.1 0 (by omega) fuel0 (by unfold fuel0; omega)
theorem m_dm (hD : WFD D) (hS : RMs nd w D) (hR : ∀ t, t < 48 → f t = sTr s t) {b : Nat} (hb : b < D.1) : ∀ k i, i + k = D.2.1 b → ∀ m, k < m → fX11_damagedIn_9 nd m (mX w f) (nI b) (nI (ctp (fun i => decide (sTr s (dfst D.2.1 b + i) = m2)) i)) (nI (dfst D.2.1 b + i)) = some (nI (dmB D (sTr s) b), mX w f) := by
  have h3 := dfst_le hb
  have h4 := hD.2.2.2.1
  have h24 := hD.2.1
  have h1 := hS.2.2.1 b hb
  intro k
  induction k with
  | zero =>
    intro i hi m hm
    obtain ⟨m, rfl⟩ : ∃ q, m = q + 1 := ⟨m - 1, by omega⟩
    have e : i = D.2.1 b := by omega
    subst e
    rw [fX11_damagedIn_9.eq_2]
    simp (disch := first | omega | decide) only [↓mo_1, ↓mo_2, ad_m1, ite_m1_lt, ite_m2_lt, ite_le_m1, ite_eq_m1, ite_eq_m2, ite_m1_m1, ite_m2_m2, ite_T, ite_F, ite_nz, ite_zz, ite_m1_le, ite_m1_eq, oi_none, oi_some, ob_some, lw_def, ck_true, ckp_su, ite_lt_t, ite_lt_f, ite_le_t, ite_le_f, ite_eq_t, ite_eq_f, ck_inb, nI_add, sb_nI, mu_nI, nI_clamp, sO_at, sO_sO, Nat.add_sub_cancel, Nat.zero_add, Nat.add_zero, li_0, li_1, li_2, li_3, li_4, li_5, li_6, li_7, li_8, li_9, li_10, li_11, li_12, li_16, li_20, li_24, li_31, li_32, li_48, li_49, li_73, li_74, li_75, li_97, li_98, li_99, li_100, li_101, li_109, li_110, li_255, li_680, li_700, li_9999, li_65536, li_65537, mX_r, h1.1, h1.2]
    rfl
  | succ k ih =>
    intro i hi m hm
    obtain ⟨m, rfl⟩ : ∃ q, m = q + 1 := ⟨m - 1, by omega⟩
    have h5 := hR (dfst D.2.1 b + i) (by omega)
    have hc := ctp_le (fun i => decide (sTr s (dfst D.2.1 b + i) = m2)) i
    have := ih (i + 1) (by omega) m (by omega)
    rw [fX11_damagedIn_9.eq_2]
    simp (disch := first | omega | decide) only [↓mo_1, ↓mo_2, ad_m1, ite_m1_lt, ite_m2_lt, ite_le_m1, ite_eq_m1, ite_eq_m2, ite_m1_m1, ite_m2_m2, ite_T, ite_F, ite_nz, ite_zz, ite_m1_le, ite_m1_eq, oi_none, oi_some, ob_some, lw_def, ck_true, ckp_su, ite_lt_t, ite_lt_f, ite_le_t, ite_le_f, ite_eq_t, ite_eq_f, ck_inb, nI_add, sb_nI, mu_nI, nI_clamp, sO_at, sO_sO, Nat.add_sub_cancel, Nat.zero_add, Nat.add_zero, li_0, li_1, li_2, li_3, li_4, li_5, li_6, li_7, li_8, li_9, li_10, li_11, li_12, li_16, li_20, li_24, li_31, li_32, li_48, li_49, li_73, li_74, li_75, li_97, li_98, li_99, li_100, li_101, li_109, li_110, li_255, li_680, li_700, li_9999, li_65536, li_65537, mX_r, mX_x, h1.1, h1.2, h5]
    by_cases q : sTr s (dfst D.2.1 b + i) = m2
    · rw [if_pos q]
      rw [ctp_t (by simp [q])] at this
      exact this
    · rw [if_neg q]
      rw [ctp_f (by simp [q])] at this
      exact this
theorem m_damagedIn (hD : WFD D) (hS : RMs nd w D) (hR : RM f s) {b : Nat} (hb : b < D.1) : fX11_damagedIn nd (mX w f) (nI b) = some (nI (dmB D (sTr s) b), mX w f) := by
  have h8 := hD.2.2.1 b hb
  have h24 := hD.2.1
  have h1 := hS.2.2.1 b hb
  unfold fX11_damagedIn
  simp (disch := first | omega | decide) only [↓mo_1, ↓mo_2, ad_m1, ite_m1_lt, ite_m2_lt, ite_le_m1, ite_eq_m1, ite_eq_m2, ite_m1_m1, ite_m2_m2, ite_T, ite_F, ite_nz, ite_zz, ite_m1_le, ite_m1_eq, oi_none, oi_some, ob_some, lw_def, ck_true, ckp_su, ite_lt_t, ite_lt_f, ite_le_t, ite_le_f, ite_eq_t, ite_eq_f, ck_inb, nI_add, sb_nI, mu_nI, nI_clamp, sO_at, sO_sO, Nat.add_sub_cancel, Nat.zero_add, Nat.add_zero, li_0, li_1, li_2, li_3, li_4, li_5, li_6, li_7, li_8, li_9, li_10, li_11, li_12, li_16, li_20, li_24, li_31, li_32, li_48, li_49, li_73, li_74, li_75, li_97, li_98, li_99, li_100, li_101, li_109, li_110, li_255, li_680, li_700, li_9999, li_65536, li_65537, mX_r, h1.1]
  exact m_dm hD hS hR.1 hb (D.2.1 b) 0 (by omega) fuel0 (by unfold fuel0; omega)
theorem m_da (hD : WFD D) (hS : RMs nd w D) (hR : RM f s) : ∀ k b, b + k = D.1 → ∀ m, k < m → fX11_damagedNow_4 nd m (mX w f) (nI (dmA D (sTr s) b)) (nI b) = some (nI (dmA D (sTr s) D.1), mX w f) := by
  have h24 := hD.2.1
  intro k
  induction k with
  | zero =>
    intro b hb m hm
    obtain ⟨m, rfl⟩ : ∃ q, m = q + 1 := ⟨m - 1, by omega⟩
    have e : b = D.1 := by omega
    subst e
    rw [fX11_damagedNow_4.eq_2, mX_i, hS.1]
    simp (disch := omega) only [↓mo_1, ↓mo_2, ad_m1, ite_m1_lt, ite_m2_lt, ite_le_m1, ite_eq_m1, ite_eq_m2, ite_m1_m1, ite_m2_m2, ite_T, ite_F, ite_nz, ite_zz, ite_m1_le, ite_m1_eq, oi_none, oi_some, ob_some, lw_def, ck_true, ckp_su, ite_lt_t, ite_lt_f, ite_le_t, ite_le_f, ite_eq_t, ite_eq_f, ck_inb, nI_add, sb_nI, mu_nI, nI_clamp, sO_at, sO_sO, Nat.add_sub_cancel, Nat.zero_add, Nat.add_zero, li_0, li_1, li_2, li_3, li_4, li_5, li_6, li_7, li_8, li_9, li_10, li_11, li_12, li_16, li_20, li_24, li_31, li_32, li_48, li_49, li_73, li_74, li_75, li_97, li_98, li_99, li_100, li_101, li_109, li_110, li_255, li_680, li_700, li_9999, li_65536, li_65537]
  | succ k ih =>
    intro b hb m hm
    obtain ⟨m, rfl⟩ : ∃ q, m = q + 1 := ⟨m - 1, by omega⟩
    rw [fX11_damagedNow_4.eq_2, mX_i, hS.1, m_damagedIn hD hS hR (by omega)]
    simp (disch := omega) only [↓mo_1, ↓mo_2, ad_m1, ite_m1_lt, ite_m2_lt, ite_le_m1, ite_eq_m1, ite_eq_m2, ite_m1_m1, ite_m2_m2, ite_T, ite_F, ite_nz, ite_zz, ite_m1_le, ite_m1_eq, oi_none, oi_some, ob_some, lw_def, ck_true, ckp_su, ite_lt_t, ite_lt_f, ite_le_t, ite_le_f, ite_eq_t, ite_eq_f, ck_inb, nI_add, sb_nI, mu_nI, nI_clamp, sO_at, sO_sO, Nat.add_sub_cancel, Nat.zero_add, Nat.add_zero, li_0, li_1, li_2, li_3, li_4, li_5, li_6, li_7, li_8, li_9, li_10, li_11, li_12, li_16, li_20, li_24, li_31, li_32, li_48, li_49, li_73, li_74, li_75, li_97, li_98, li_99, li_100, li_101, li_109, li_110, li_255, li_680, li_700, li_9999, li_65536, li_65537]
    exact ih (b + 1) (by omega) m (by omega)
theorem m_damagedNow (hD : WFD D) (hS : RMs nd w D) (hR : RM f s) : fX11_damagedNow nd (mX w f) = some (nI (dmA D (sTr s) D.1), mX w f) := by
  have h24 := hD.2.1
  exact m_da hD hS hR D.1 0 (by omega) fuel0 (by unfold fuel0; omega)
theorem x_dn (hR : RX o s) {d : Bool} : RX (oI o 8 (b2i d)) (dnS s d) := by
  refine ⟨hR.1, ?_, hR.2.2.1, hR.2.2.2.1, ?_, fun z => ?_, ?_, hR.2.2.2.2.2.2.2.1, oI_a, ?_⟩
  · rw [oI_n (by decide)]; exact hR.2.1
  · rw [oI_n (by decide)]; exact hR.2.2.2.2.1
  · rw [oI_n (by decide)]; exact hR.2.2.2.2.2.1 z
  · rw [oI_n (by decide)]; exact hR.2.2.2.2.2.2.1
  · rw [oI_n (by decide)]; exact hR.2.2.2.2.2.2.2.2.2
theorem m_dn (hD : WFD D) (hW : WFS D s) (hR : RM f s) {d : Bool} : RM (upd f 97 (b2i d)) (dnS s d) := by
  have hn := hW.n24 hD
  refine ⟨fun t ht => ?_, ?_, fun p hp => ?_, fun p hp => ?_, ?_, fun h => ?_, ?_, fun p hp => ?_, upd_at, ?_⟩
  · rw [upd_ne (by omega)]; exact hR.1 t ht
  · rw [upd_ne (by omega)]; exact hR.2.1
  · have : p < sn s := hp
    rw [upd_ne (by omega)]; exact hR.2.2.1 p hp
  · have : p < sn s := hp
    rw [upd_ne (by omega)]; exact hR.2.2.2.1 p hp
  · rw [upd_ne (by omega)]; exact hR.2.2.2.2.1
  · rw [upd_ne (by omega)]; exact hR.2.2.2.2.2.1 h
  · rw [upd_ne (by omega)]; exact hR.2.2.2.2.2.2.1
  · rw [upd_ne (by omega)]; exact hR.2.2.2.2.2.2.2.1 p hp
  · rw [upd_ne (by omega)]; exact hR.2.2.2.2.2.2.2.2.2
theorem x_cutPower (hD : WFD D) (hS : RSh (w 5 a) D) (hW : WFS D s) (hR : RX o s) {b k : Nat} (hb : b < D.1) (hk : k ≤ 2 * D.2.1 b + 2) (h0 : jn s = 0) (hf : jf s = false) : ∃ o2 : Ob, fX7_cutPower j a (sO w 7 j o) (nI b) (nI k) = some ((), sO w 7 j o2) ∧ RX o2 (ctS D s b k) := by
  obtain ⟨o2, e1, e2, -⟩ := x_doSteps (w := w) (j := j) hD hS hW hR hb hk h0 hf
  refine ⟨_, ?_, x_dn (d := true) e2⟩
  unfold fX7_cutPower
  simp (disch := omega) only [↓mo_1, ↓mo_2, ad_m1, ite_m1_lt, ite_m2_lt, ite_le_m1, ite_eq_m1, ite_eq_m2, ite_m1_m1, ite_m2_m2, ite_T, ite_F, ite_nz, ite_zz, ite_m1_le, ite_m1_eq, oi_none, oi_some, ob_some, lw_def, ck_true, ckp_su, ite_lt_t, ite_lt_f, ite_le_t, ite_le_f, ite_eq_t, ite_eq_f, ck_inb, nI_add, sb_nI, mu_nI, nI_clamp, sO_at, sO_sO, Nat.add_sub_cancel, Nat.zero_add, Nat.add_zero, li_0, li_1, li_2, li_3, li_4, li_5, li_6, li_7, li_8, li_9, li_10, li_11, li_12, li_16, li_20, li_24, li_31, li_32, li_48, li_49, li_73, li_74, li_75, li_97, li_98, li_99, li_100, li_101, li_109, li_110, li_255, li_680, li_700, li_9999, li_65536, li_65537, e1, sI_s]
  rfl
theorem m_cuts (hD : WFD D) (hS : RMs nd w D) (hW : WFS D s) (hR : RM f s) {b k : Nat} (hb : b < D.1) (hk : k ≤ 2 * D.2.1 b + 2) (h0 : jn s = 0) (hf : jf s = false) : ∃ g : Nat → Int32, fX11_cuts nd (mX w f) (nI b) (nI k) = some (nI (dmA D (sTr (ctS D s b k)) D.1), mX w g) ∧ RM g (ctS D s b k) := by
  obtain ⟨g, e1, e2⟩ := m_stepsTo hD hS hW hR hb hk h0 hf
  have e3 := m_dn (d := true) hD (sp_wf hD hW hb h0 hf hk) e2
  refine ⟨_, ?_, e3⟩
  have e4 := m_damagedNow hD hS e3
  unfold fX11_cuts
  simp (disch := omega) only [↓mo_1, ↓mo_2, ad_m1, ite_m1_lt, ite_m2_lt, ite_le_m1, ite_eq_m1, ite_eq_m2, ite_m1_m1, ite_m2_m2, ite_T, ite_F, ite_nz, ite_zz, ite_m1_le, ite_m1_eq, oi_none, oi_some, ob_some, lw_def, ck_true, ckp_su, ite_lt_t, ite_lt_f, ite_le_t, ite_le_f, ite_eq_t, ite_eq_f, ck_inb, nI_add, sb_nI, mu_nI, nI_clamp, sO_at, sO_sO, Nat.add_sub_cancel, Nat.zero_add, Nat.add_zero, li_0, li_1, li_2, li_3, li_4, li_5, li_6, li_7, li_8, li_9, li_10, li_11, li_12, li_16, li_20, li_24, li_31, li_32, li_48, li_49, li_73, li_74, li_75, li_97, li_98, li_99, li_100, li_101, li_109, li_110, li_255, li_680, li_700, li_9999, li_65536, li_65537, e1, mX_s]
  rw [show upd g 97 (nI 1) = upd g 97 (b2i true) from rfl, e4]
  rfl
theorem x_rv (hD : WFD D) (hS : RSh (w 5 a) D) {b : Nat} {v : Nat → Int32} (hb : b < D.1) (hW : WFS D s) : ∀ k i, i + k = D.2.1 b → ∀ (m : Nat) (o : Ob), k < m → RX o (lyN D s b v i) → o.1 6 = nI b → (∀ p, p < D.2.1 b → o.2.1 3 p = v p) →
    ∃ o2 : Ob, fX7_comeBack_17 j a m (sO w 7 j o) (nI b) (nI i) = some (nI b, sO w 7 j o2) ∧ RX o2 (dnS (enS D (lyN D s b v (D.2.1 b)) b) false) := by
  have h8 := hD.2.2.1 b hb
  intro k
  induction k with
  | zero =>
    intro i hi m o hm hR h6 hv
    obtain ⟨m, rfl⟩ : ∃ q, m = q + 1 := ⟨m - 1, by omega⟩
    have e : i = D.2.1 b := by omega
    subst e
    have hS2 : RSh ((sO w 7 j o) 5 a) D := by rw [sO_nc (by decide)]; exact hS
    obtain ⟨o3, f1, f2, -⟩ := x_drop (w := w) (a := a) (j := j) hD hS (lyN_wf hW _) hR hb
    obtain ⟨f5, f6⟩ := x_emptyJournal (w := w) (j := j) f2
    refine ⟨_, ?_, x_dn (d := false) f6⟩
    rw [fX7_comeBack_17.eq_2]
    simp (disch := omega) only [↓mo_1, ↓mo_2, ad_m1, ite_m1_lt, ite_m2_lt, ite_le_m1, ite_eq_m1, ite_eq_m2, ite_m1_m1, ite_m2_m2, ite_T, ite_F, ite_nz, ite_zz, ite_m1_le, ite_m1_eq, oi_none, oi_some, ob_some, lw_def, ck_true, ckp_su, ite_lt_t, ite_lt_f, ite_le_t, ite_le_f, ite_eq_t, ite_eq_f, ck_inb, nI_add, sb_nI, mu_nI, nI_clamp, sO_at, sO_sO, Nat.add_sub_cancel, Nat.zero_add, Nat.add_zero, li_0, li_1, li_2, li_3, li_4, li_5, li_6, li_7, li_8, li_9, li_10, li_11, li_12, li_16, li_20, li_24, li_31, li_32, li_48, li_49, li_73, li_74, li_75, li_97, li_98, li_99, li_100, li_101, li_109, li_110, li_255, li_680, li_700, li_9999, li_65536, li_65537, x_tracksOf hS2 hD hb, f1, f5, sI_s]
    rfl
  | succ k ih =>
    intro i hi m o hm hR h6 hv
    obtain ⟨m, rfl⟩ : ∃ q, m = q + 1 := ⟨m - 1, by omega⟩
    have hS2 : RSh ((sO w 7 j o) 5 a) D := by rw [sO_nc (by decide)]; exact hS
    obtain ⟨o3, f1, f2, f3, -, f5⟩ := x_wfj (w := w) (a := a) (j := j) hD hS hR (i := i) hb (by omega) h6
    rw [hv i (by omega)] at f2
    obtain ⟨o2, e1, e2⟩ := ih (i + 1) (by omega) m o3 (by omega) f2 (by rw [f3]; exact h6) (fun p hp => by rw [f5]; exact hv p hp)
    refine ⟨o2, ?_, e2⟩
    rw [fX7_comeBack_17.eq_2]
    simp (disch := omega) only [↓mo_1, ↓mo_2, ad_m1, ite_m1_lt, ite_m2_lt, ite_le_m1, ite_eq_m1, ite_eq_m2, ite_m1_m1, ite_m2_m2, ite_T, ite_F, ite_nz, ite_zz, ite_m1_le, ite_m1_eq, oi_none, oi_some, ob_some, lw_def, ck_true, ckp_su, ite_lt_t, ite_lt_f, ite_le_t, ite_le_f, ite_eq_t, ite_eq_f, ck_inb, nI_add, sb_nI, mu_nI, nI_clamp, sO_at, sO_sO, Nat.add_sub_cancel, Nat.zero_add, Nat.add_zero, li_0, li_1, li_2, li_3, li_4, li_5, li_6, li_7, li_8, li_9, li_10, li_11, li_12, li_16, li_20, li_24, li_31, li_32, li_48, li_49, li_73, li_74, li_75, li_97, li_98, li_99, li_100, li_101, li_109, li_110, li_255, li_680, li_700, li_9999, li_65536, li_65537, x_tracksOf hS2 hD hb, f1]
    exact e1
theorem x_comeBack (hD : WFD D) (hS : RSh (w 5 a) D) (hW : WFS D s) (hR : RX o s) : ∃ o2 : Ob, fX7_comeBack j a (sO w 7 j o) = some (oi2 (rvB s), sO w 7 j o2) ∧ RX o2 (rvS D s) := by
  unfold fX7_comeBack rvB rvS
  rw [sO_at, hR.2.2.2.2.2.2.1]
  cases h : jf s with
  | true =>
    have hj := hW.2.2.2 h
    have hb := (hW.2.2.1 hj.1).1
    have h8 := hD.2.2.1 _ hb
    obtain ⟨o2, e1, e2⟩ := x_rv (j := j) hD hS (v := jv s) hb hW (D.2.1 (jb s)) 0 (by omega) fuel0 o (by unfold fuel0; omega) hR (hR.2.2.2.2.2.1 hj.1) (fun p hp => hR.2.2.2.2.2.2.2.1 p (by omega))
    refine ⟨o2, ?_, ?_⟩
    · simp (disch := omega) only [↓mo_1, ↓mo_2, ad_m1, ite_m1_lt, ite_m2_lt, ite_le_m1, ite_eq_m1, ite_eq_m2, ite_m1_m1, ite_m2_m2, ite_T, ite_F, ite_nz, ite_zz, ite_m1_le, ite_m1_eq, oi_none, oi_some, ob_some, lw_def, ck_true, ckp_su, ite_lt_t, ite_lt_f, ite_le_t, ite_le_f, ite_eq_t, ite_eq_f, ck_inb, nI_add, sb_nI, mu_nI, nI_clamp, sO_at, sO_sO, Nat.add_sub_cancel, Nat.zero_add, Nat.add_zero, li_0, li_1, li_2, li_3, li_4, li_5, li_6, li_7, li_8, li_9, li_10, li_11, li_12, li_16, li_20, li_24, li_31, li_32, li_48, li_49, li_73, li_74, li_75, li_97, li_98, li_99, li_100, li_101, li_109, li_110, li_255, li_680, li_700, li_9999, li_65536, li_65537, b2i_t, hR.2.2.2.2.2.1 hj.1]
      exact e1
    · rw [if_pos rfl, lyN_dn]
      exact e2
  | false =>
    obtain ⟨f5, f6⟩ := x_emptyJournal (w := w) (j := j) hR
    refine ⟨oI (oI (oI (oI o 5 (nI 0)) 6 m1) 7 (nI 0)) 8 (b2i false), ?_, ?_⟩
    · simp (disch := omega) only [↓mo_1, ↓mo_2, ad_m1, ite_m1_lt, ite_m2_lt, ite_le_m1, ite_eq_m1, ite_eq_m2, ite_m1_m1, ite_m2_m2, ite_T, ite_F, ite_nz, ite_zz, ite_m1_le, ite_m1_eq, oi_none, oi_some, ob_some, lw_def, ck_true, ckp_su, ite_lt_t, ite_lt_f, ite_le_t, ite_le_f, ite_eq_t, ite_eq_f, ck_inb, nI_add, sb_nI, mu_nI, nI_clamp, sO_at, sO_sO, Nat.add_sub_cancel, Nat.zero_add, Nat.add_zero, li_0, li_1, li_2, li_3, li_4, li_5, li_6, li_7, li_8, li_9, li_10, li_11, li_12, li_16, li_20, li_24, li_31, li_32, li_48, li_49, li_73, li_74, li_75, li_97, li_98, li_99, li_100, li_101, li_109, li_110, li_255, li_680, li_700, li_9999, li_65536, li_65537, b2i_f, f5, sI_s]
      rfl
    · rw [if_neg (by decide)]
      exact x_dn (d := false) f6
theorem m_rv (hD : WFD D) (hS : RMs nd w D) {b : Nat} {v : Nat → Int32} (hb : b < D.1) (hW : WFS D s) : ∀ k i, i + k = D.2.1 b → ∀ (m : Nat) (f : Nat → Int32), k < m → RM f (lyN D s b v i) → (∀ p, p < D.2.1 b → f (101 + p) = v p) →
    ∃ g : Nat → Int32, fX11_recovers_35 nd m (mX w f) (nI b) (nI i) = some (nI b, mX w g) ∧ RM g (enS D (lyN D s b v (D.2.1 b)) b) := by
  have h8 := hD.2.2.1 b hb
  have h24 := hD.2.1
  have h1 := hS.2.2.1 b hb
  intro k
  induction k with
  | zero =>
    intro i hi m f hm hR hv
    obtain ⟨m, rfl⟩ : ∃ q, m = q + 1 := ⟨m - 1, by omega⟩
    have e : i = D.2.1 b := by omega
    subst e
    obtain ⟨g, e1, e2⟩ := m_ended hD hS (lyN_wf hW _) hR hb
    refine ⟨g, ?_, e2⟩
    rw [fX11_recovers_35.eq_2]
    simp (disch := first | omega | decide) only [↓mo_1, ↓mo_2, ad_m1, ite_m1_lt, ite_m2_lt, ite_le_m1, ite_eq_m1, ite_eq_m2, ite_m1_m1, ite_m2_m2, ite_T, ite_F, ite_nz, ite_zz, ite_m1_le, ite_m1_eq, oi_none, oi_some, ob_some, lw_def, ck_true, ckp_su, ite_lt_t, ite_lt_f, ite_le_t, ite_le_f, ite_eq_t, ite_eq_f, ck_inb, nI_add, sb_nI, mu_nI, nI_clamp, sO_at, sO_sO, Nat.add_sub_cancel, Nat.zero_add, Nat.add_zero, li_0, li_1, li_2, li_3, li_4, li_5, li_6, li_7, li_8, li_9, li_10, li_11, li_12, li_16, li_20, li_24, li_31, li_32, li_48, li_49, li_73, li_74, li_75, li_97, li_98, li_99, li_100, li_101, li_109, li_110, li_255, li_680, li_700, li_9999, li_65536, li_65537, mX_r, h1.2, e1]
  | succ k ih =>
    intro i hi m f hm hR hv
    obtain ⟨m, rfl⟩ : ∃ q, m = q + 1 := ⟨m - 1, by omega⟩
    obtain ⟨g, f1, f2, f3⟩ := m_laid (x := v i) hD hS (lyN_wf hW _) hR (i := i) hb (by omega)
    obtain ⟨g2, e1, e2⟩ := ih (i + 1) (by omega) m g (by omega) f2 (fun p hp => by rw [f3 _ (by omega) (by omega)]; exact hv p hp)
    refine ⟨g2, ?_, e2⟩
    rw [fX11_recovers_35.eq_2]
    simp (disch := first | omega | decide) only [↓mo_1, ↓mo_2, ad_m1, ite_m1_lt, ite_m2_lt, ite_le_m1, ite_eq_m1, ite_eq_m2, ite_m1_m1, ite_m2_m2, ite_T, ite_F, ite_nz, ite_zz, ite_m1_le, ite_m1_eq, oi_none, oi_some, ob_some, lw_def, ck_true, ckp_su, ite_lt_t, ite_lt_f, ite_le_t, ite_le_f, ite_eq_t, ite_eq_f, ck_inb, nI_add, sb_nI, mu_nI, nI_clamp, sO_at, sO_sO, Nat.add_sub_cancel, Nat.zero_add, Nat.add_zero, li_0, li_1, li_2, li_3, li_4, li_5, li_6, li_7, li_8, li_9, li_10, li_11, li_12, li_16, li_20, li_24, li_31, li_32, li_48, li_49, li_73, li_74, li_75, li_97, li_98, li_99, li_100, li_101, li_109, li_110, li_255, li_680, li_700, li_9999, li_65536, li_65537, mX_r, mX_x, h1.2, hv i (by omega), f1]
    exact e1
theorem m_recovers (hD : WFD D) (hS : RMs nd w D) (hW : WFS D s) (hR : RM f s) : ∃ g : Nat → Int32, fX11_recovers nd (mX w f) = some (oi2 (rvB s), mX w g) ∧ RM g (rvS D s) := by
  have hR2 := m_dn (d := false) hD hW hR
  have hW2 : WFS D (dnS s false) := dn_wf hW
  unfold fX11_recovers rvB rvS
  cases h : jf s with
  | true =>
    have hj := hW.2.2.2 h
    have hb := (hW.2.2.1 hj.1).1
    have h8 := hD.2.2.1 _ hb
    obtain ⟨g, e1, e2⟩ := m_rv hD hS (v := jv s) hb hW2 (D.2.1 (jb s)) 0 (by omega) fuel0 _ (by unfold fuel0; omega) hR2 (fun p hp => by rw [upd_ne (by omega)]; exact hR.2.2.2.2.2.2.2.1 p (by omega))
    refine ⟨g, ?_, by rw [if_pos rfl]; exact e2⟩
    have e7 := hR.2.2.2.2.2.2.1
    rw [h] at e7
    simp (disch := omega) only [↓mo_1, ↓mo_2, ad_m1, ite_m1_lt, ite_m2_lt, ite_le_m1, ite_eq_m1, ite_eq_m2, ite_m1_m1, ite_m2_m2, ite_T, ite_F, ite_nz, ite_zz, ite_m1_le, ite_m1_eq, oi_none, oi_some, ob_some, lw_def, ck_true, ckp_su, ite_lt_t, ite_lt_f, ite_le_t, ite_le_f, ite_eq_t, ite_eq_f, ck_inb, nI_add, sb_nI, mu_nI, nI_clamp, sO_at, sO_sO, Nat.add_sub_cancel, Nat.zero_add, Nat.add_zero, li_0, li_1, li_2, li_3, li_4, li_5, li_6, li_7, li_8, li_9, li_10, li_11, li_12, li_16, li_20, li_24, li_31, li_32, li_48, li_49, li_73, li_74, li_75, li_97, li_98, li_99, li_100, li_101, li_109, li_110, li_255, li_680, li_700, li_9999, li_65536, li_65537, mX_s, mX_x, upd_ne, e7, b2i_t, hR.2.2.2.2.2.1 hj.1]
    exact e1
  | false =>
    obtain ⟨g, e1, e2⟩ := m_emptied (nd := nd) (w := w) hD hW2 hR2
    refine ⟨g, ?_, by rw [if_neg (by decide)]; exact e2⟩
    have e7 := hR.2.2.2.2.2.2.1
    rw [h] at e7
    simp (disch := omega) only [↓mo_1, ↓mo_2, ad_m1, ite_m1_lt, ite_m2_lt, ite_le_m1, ite_eq_m1, ite_eq_m2, ite_m1_m1, ite_m2_m2, ite_T, ite_F, ite_nz, ite_zz, ite_m1_le, ite_m1_eq, oi_none, oi_some, ob_some, lw_def, ck_true, ckp_su, ite_lt_t, ite_lt_f, ite_le_t, ite_le_f, ite_eq_t, ite_eq_f, ck_inb, nI_add, sb_nI, mu_nI, nI_clamp, sO_at, sO_sO, Nat.add_sub_cancel, Nat.zero_add, Nat.add_zero, li_0, li_1, li_2, li_3, li_4, li_5, li_6, li_7, li_8, li_9, li_10, li_11, li_12, li_16, li_20, li_24, li_31, li_32, li_48, li_49, li_73, li_74, li_75, li_97, li_98, li_99, li_100, li_101, li_109, li_110, li_255, li_680, li_700, li_9999, li_65536, li_65537, mX_s, mX_x, upd_ne, e7, b2i_f]
    rw [show upd f 97 (nI 0) = upd f 97 (b2i false) from rfl, e1]
    rfl
end CUTS
