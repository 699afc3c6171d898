/-! ===== entries counted, the band that is cleaned next ===== -/
def ctp (p : Nat → Bool) : Nat → Nat
  | 0 => 0
  | k + 1 => if p k = true then ctp p k + 1 else ctp p k
theorem ctp_le (p : Nat → Bool) : ∀ k, ctp p k ≤ k
  | 0 => Nat.le_refl _
  | k + 1 => by
    have := ctp_le p k
    unfold ctp
    split <;> omega
theorem ctp_congr {p q : Nat → Bool} : ∀ {k : Nat}, (∀ i, i < k → p i = q i) → ctp p k = ctp q k
  | 0, _ => rfl
  | k + 1, h => by
    unfold ctp
    rw [h k (Nat.lt_succ_self k), ctp_congr (fun i hi => h i (Nat.lt_succ_of_lt hi))]
theorem ctp_t {p : Nat → Bool} {k : Nat} (h : p k = true) : ctp p (k + 1) = ctp p k + 1 := by
  show (if p k = true then ctp p k + 1 else ctp p k) = _
  rw [if_pos h]
theorem ctp_f {p : Nat → Bool} {k : Nat} (h : ¬ p k = true) : ctp p (k + 1) = ctp p k := by
  show (if p k = true then ctp p k + 1 else ctp p k) = _
  rw [if_neg h]
def pB (D : Dk) (s : Sd) (b i : Nat) : Bool := decide (bo D (se s i) = b)
/-- how many entries of a band -/
def cB (D : Dk) (s : Sd) (b : Nat) : Nat := ctp (pB D s b) (sn s)
def bst (g : Nat → Nat) : Nat → Nat × Nat
  | 0 => (0, 0)
  | b + 1 => if (bst g b).2 < g b then (b, g b) else bst g b
theorem bst_1 {g : Nat → Nat} {n : Nat} (h : 1 ≤ n) : ∀ b, b ≤ n → (bst g b).1 < n
  | 0, _ => h
  | b + 1, hb => by
    have := bst_1 (g := g) h b (by omega)
    unfold bst
    split
    · show b < n; omega
    · exact this
theorem bst_2 {g : Nat → Nat} {m : Nat} (h : ∀ b, g b ≤ m) : ∀ b, (bst g b).2 ≤ m
  | 0 => Nat.zero_le _
  | b + 1 => by
    have := bst_2 h b
    unfold bst
    split
    · exact h b
    · exact this
/-- the band that is cleaned next -/
def nbS (D : Dk) (s : Sd) : Option Nat := if sn s = 0 then none else if D.2.2.2.2 = true then some (bo D (se s 0)) else some (bst (cB D s) D.1).1
def oi2 (o : Option Nat) : Int32 := match o with
  | none => m2
  | some i => nI i
theorem mX_10 {w : Wd} {f : Nat → Int32} {q : Nat} : mX w f 10 q = w 10 q := mX_c (by decide)
section OPS
variable {w : Wd} {j a : Nat} {o : Ob} {D : Dk} {s : Sd} {nd : Nat} {f : Nat → Int32}
theorem cB_le (hD : WFD D) (hW : WFS D s) {b : Nat} : cB D s b ≤ 24 := Nat.le_trans (ctp_le _ _) (hW.n24 hD)
theorem nbS_lt (hD : WFD D) (hW : WFS D s) {b : Nat} (h : nbS D s = some b) : b < D.1 ∧ 0 < sn s := by
  unfold nbS at h
  split at h
  · cases h
  · rename_i h0
    refine ⟨?_, by omega⟩
    split at h
    · cases h
      exact (bo_spec (hW.2.1 0 (by omega))).1
    · cases h
      exact bst_1 hD.1 _ (Nat.le_refl _)
theorem x_en (hD : WFD D) (hS : RSh (w 5 a) D) (hW : WFS D s) (hR : RX o s) {b : Nat} (hb : b < D.1) : ∀ k i, i + k = sn s → ∀ m, k < m → fX7_entriesOf_5 j a m (sO w 7 j o) (nI b) (nI (ctp (pB D s b) i)) (nI i) = some (nI (cB D s b), sO w 7 j o) := by
  have hn := hW.n24 hD
  have hl : aln 7 j 1 = 24 := rfl
  have hS2 : RSh ((sO w 7 j o) 5 a) D := by rw [sO_nc (by decide)]; exact hS
  have hb2 := hD.2.1
  intro k
  induction k with
  | zero =>
    intro i hi m hm
    obtain ⟨m, rfl⟩ : ∃ q, m = q + 1 := ⟨m - 1, by omega⟩
    have e : i = sn s := by omega
    subst e
    rw [fX7_entriesOf_5.eq_2]
    simp (disch := omega) only [↓mo_1, ↓mo_2, ad_m1, ite_m1_lt, ite_m2_lt, ite_le_m1, ite_eq_m1, ite_eq_m2, ite_m1_m1, ite_m2_m2, ite_T, ite_F, ite_nz, ite_zz, ite_m1_le, ite_m1_eq, oi_none, oi_some, ob_some, lw_def, ck_true, ckp_su, ite_lt_t, ite_lt_f, ite_le_t, ite_le_f, ite_eq_t, ite_eq_f, ck_inb, nI_add, sb_nI, mu_nI, nI_clamp, sO_at, sO_sO, Nat.add_sub_cancel, Nat.zero_add, Nat.add_zero, li_0, li_1, li_2, li_3, li_4, li_5, li_6, li_7, li_8, li_9, li_10, li_11, li_12, li_16, li_20, li_24, li_31, li_32, li_48, li_49, li_73, li_74, li_75, li_97, li_98, li_99, li_100, li_101, li_109, li_110, li_255, li_680, li_700, li_9999, li_65536, li_65537, hR.2.1]
    rfl
  | succ k ih =>
    intro i hi m hm
    obtain ⟨m, rfl⟩ : ∃ q, m = q + 1 := ⟨m - 1, by omega⟩
    have h1 := hR.2.2.1 i (by omega)
    have h2 := hW.2.1 i (by omega)
    have hc := bo_spec h2
    have ht := ctp_le (pB D s b) i
    rw [fX7_entriesOf_5.eq_2]
    simp (disch := omega) only [↓mo_1, ↓mo_2, ad_m1, ite_m1_lt, ite_m2_lt, ite_le_m1, ite_eq_m1, ite_eq_m2, ite_m1_m1, ite_m2_m2, ite_T, ite_F, ite_nz, ite_zz, ite_m1_le, ite_m1_eq, oi_none, oi_some, ob_some, lw_def, ck_true, ckp_su, ite_lt_t, ite_lt_f, ite_le_t, ite_le_f, ite_eq_t, ite_eq_f, ck_inb, nI_add, sb_nI, mu_nI, nI_clamp, sO_at, sO_sO, Nat.add_sub_cancel, Nat.zero_add, Nat.add_zero, li_0, li_1, li_2, li_3, li_4, li_5, li_6, li_7, li_8, li_9, li_10, li_11, li_12, li_16, li_20, li_24, li_31, li_32, li_48, li_49, li_73, li_74, li_75, li_97, li_98, li_99, li_100, li_101, li_109, li_110, li_255, li_680, li_700, li_9999, li_65536, li_65537, hR.2.1, at_in, h1, x_bandHolding hS2 hD h2]
    by_cases hq : bo D (se s i) = b
    · rw [if_pos (by rw [hq])]
      have := ih (i + 1) (by omega) m (by omega)
      rw [ctp_t (by simp [pB, hq])] at this
      exact this
    · rw [if_neg (fun z => hq ((nI_eq (by omega) (by omega)).mp z))]
      have := ih (i + 1) (by omega) m (by omega)
      rw [ctp_f (by simp [pB, hq])] at this
      exact this
theorem x_entriesOf (hD : WFD D) (hS : RSh (w 5 a) D) (hW : WFS D s) (hR : RX o s) {b : Nat} (hb : b < D.1) : fX7_entriesOf j a (sO w 7 j o) (nI b) = some (nI (cB D s b), sO w 7 j o) := by
  have hn := hW.n24 hD
  exact x_en hD hS hW hR hb (sn s) 0 (by omega) fuel0 (by unfold fuel0; omega)
theorem m_isIn (hD : WFD D) (hS : RMs nd w D) {t b : Nat} (hb : b < D.1) (ht : t < 2 ^ 30) : fX11_isIn nd (mX w f) (nI t) (nI b) = some (b2i (decide (dfst D.2.1 b ≤ t ∧ t < dfst D.2.1 b + D.2.1 b)), mX w f) := by
  have h1 := hS.2.2.1 b hb
  have h2 := hD.2.1
  have h3 := dfst_le hb
  have h4 := hD.2.2.2.1
  unfold fX11_isIn
  simp (disch := first | omega | decide) only [↓mo_1, ↓mo_2, ad_m1, ite_m1_lt, ite_m2_lt, ite_le_m1, ite_eq_m1, ite_eq_m2, ite_m1_m1, ite_m2_m2, ite_T, ite_F, ite_nz, ite_zz, ite_m1_le, ite_m1_eq, oi_none, oi_some, ob_some, lw_def, ck_true, ckp_su, ite_lt_t, ite_lt_f, ite_le_t, ite_le_f, ite_eq_t, ite_eq_f, ck_inb, nI_add, sb_nI, mu_nI, nI_clamp, sO_at, sO_sO, Nat.add_sub_cancel, Nat.zero_add, Nat.add_zero, li_0, li_1, li_2, li_3, li_4, li_5, li_6, li_7, li_8, li_9, li_10, li_11, li_12, li_16, li_20, li_24, li_31, li_32, li_48, li_49, li_73, li_74, li_75, li_97, li_98, li_99, li_100, li_101, li_109, li_110, li_255, li_680, li_700, li_9999, li_65536, li_65537, mX_r, h1.1, h1.2]
  by_cases c1 : t < dfst D.2.1 b
  · rw [if_pos (nI_lt c1 (by omega)), show decide (dfst D.2.1 b ≤ t ∧ t < dfst D.2.1 b + D.2.1 b) = false from decide_eq_false (by omega)]
    rfl
  · rw [if_neg (nI_nlt (by omega) (by omega))]
    by_cases c2 : dfst D.2.1 b + D.2.1 b ≤ t
    · rw [if_pos (nI_le c2 (by omega)), show decide (dfst D.2.1 b ≤ t ∧ t < dfst D.2.1 b + D.2.1 b) = false from decide_eq_false (by omega)]
      rfl
    · rw [if_neg (nI_ge (by omega) (by omega)), show decide (dfst D.2.1 b ≤ t ∧ t < dfst D.2.1 b + D.2.1 b) = true from decide_eq_true (by omega)]
      rfl
theorem m_isInE (hD : WFD D) (hS : RMs nd w D) {t b : Nat} (hb : b < D.1) (ht : t < dnt D) : fX11_isIn nd (mX w f) (nI t) (nI b) = some (b2i (decide (bo D t = b)), mX w f) := by
  have h4 := hD.2.2.2.1
  rw [m_isIn hD hS hb (by omega)]
  have : (dfst D.2.1 b ≤ t ∧ t < dfst D.2.1 b + D.2.1 b) ↔ bo D t = b := ⟨fun h => bo_uniq ht h.1 h.2, fun h => by subst h; exact (bo_spec ht).2⟩
  rw [show decide (dfst D.2.1 b ≤ t ∧ t < dfst D.2.1 b + D.2.1 b) = decide (bo D t = b) from decide_eq_decide.mpr this]
theorem m_en (hD : WFD D) (hS : RMs nd w D) (hW : WFS D s) (hR : RM f s) {b : Nat} (hb : b < D.1) : ∀ k i, i + k = sn s → ∀ m, k < m → fX11_entriesOf_5 nd m (mX w f) (nI b) (nI 0) (nI (ctp (pB D s b) i)) (nI i) = some (nI (cB D s b), mX w f) := by
  have hn := hW.n24 hD
  intro k
  induction k with
  | zero =>
    intro i hi m hm
    obtain ⟨m, rfl⟩ : ∃ q, m = q + 1 := ⟨m - 1, by omega⟩
    have e : i = sn s := by omega
    subst e
    rw [fX11_entriesOf_5.eq_2]
    simp (disch := omega) only [↓mo_1, ↓mo_2, ad_m1, ite_m1_lt, ite_m2_lt, ite_le_m1, ite_eq_m1, ite_eq_m2, ite_m1_m1, ite_m2_m2, ite_T, ite_F, ite_nz, ite_zz, ite_m1_le, ite_m1_eq, oi_none, oi_some, ob_some, lw_def, ck_true, ckp_su, ite_lt_t, ite_lt_f, ite_le_t, ite_le_f, ite_eq_t, ite_eq_f, ck_inb, nI_add, sb_nI, mu_nI, nI_clamp, sO_at, sO_sO, Nat.add_sub_cancel, Nat.zero_add, Nat.add_zero, li_0, li_1, li_2, li_3, li_4, li_5, li_6, li_7, li_8, li_9, li_10, li_11, li_12, li_16, li_20, li_24, li_31, li_32, li_48, li_49, li_73, li_74, li_75, li_97, li_98, li_99, li_100, li_101, li_109, li_110, li_255, li_680, li_700, li_9999, li_65536, li_65537, mX_x, hR.2.1]
    rfl
  | succ k ih =>
    intro i hi m hm
    obtain ⟨m, rfl⟩ : ∃ q, m = q + 1 := ⟨m - 1, by omega⟩
    have h1 := hR.2.2.1 i (by omega)
    have h2 := hW.2.1 i (by omega)
    have ht := ctp_le (pB D s b) i
    rw [fX11_entriesOf_5.eq_2]
    simp (disch := omega) only [↓mo_1, ↓mo_2, ad_m1, ite_m1_lt, ite_m2_lt, ite_le_m1, ite_eq_m1, ite_eq_m2, ite_m1_m1, ite_m2_m2, ite_T, ite_F, ite_nz, ite_zz, ite_m1_le, ite_m1_eq, oi_none, oi_some, ob_some, lw_def, ck_true, ckp_su, ite_lt_t, ite_lt_f, ite_le_t, ite_le_f, ite_eq_t, ite_eq_f, ck_inb, nI_add, sb_nI, mu_nI, nI_clamp, sO_at, sO_sO, Nat.add_sub_cancel, Nat.zero_add, Nat.add_zero, li_0, li_1, li_2, li_3, li_4, li_5, li_6, li_7, li_8, li_9, li_10, li_11, li_12, li_16, li_20, li_24, li_31, li_32, li_48, li_49, li_73, li_74, li_75, li_97, li_98, li_99, li_100, li_101, li_109, li_110, li_255, li_680, li_700, li_9999, li_65536, li_65537, mX_x, hR.2.1, h1, m_isInE hD hS hb h2]
    by_cases hq : bo D (se s i) = b
    · rw [decide_eq_true hq]
      have := ih (i + 1) (by omega) m (by omega)
      rw [ctp_t (by simp [pB, hq])] at this
      exact this
    · rw [decide_eq_false hq]
      have := ih (i + 1) (by omega) m (by omega)
      rw [ctp_f (by simp [pB, hq])] at this
      exact this
theorem m_entriesOf (hD : WFD D) (hS : RMs nd w D) (hW : WFS D s) (hR : RM f s) {b : Nat} (hb : b < D.1) : fX11_entriesOf nd (mX w f) (nI b) 0 = some (nI (cB D s b), mX w f) := by
  have hn := hW.n24 hD
  exact m_en hD hS hW hR hb (sn s) 0 (by omega) fuel0 (by unfold fuel0; omega)
theorem x_nb (hD : WFD D) (hS : RSh (w 5 a) D) (hW : WFS D s) (hR : RX o s) : ∀ k b, b + k = D.1 → ∀ m, k < m → fX7_nextBand_37 j a m (sO w 7 j o) (nI (bst (cB D s) b).1) (nI (bst (cB D s) b).2) (nI b) = some (nI (bst (cB D s) D.1).1, sO w 7 j o) := by
  have hb2 := hD.2.1
  intro k
  induction k with
  | zero =>
    intro b hb m hm
    obtain ⟨m, rfl⟩ : ∃ q, m = q + 1 := ⟨m - 1, by omega⟩
    have e : b = D.1 := by omega
    subst e
    rw [fX7_nextBand_37.eq_2, sO_nc (by decide), hS.2.2.1]
    simp (disch := omega) only [↓mo_1, ↓mo_2, ad_m1, ite_m1_lt, ite_m2_lt, ite_le_m1, ite_eq_m1, ite_eq_m2, ite_m1_m1, ite_m2_m2, ite_T, ite_F, ite_nz, ite_zz, ite_m1_le, ite_m1_eq, oi_none, oi_some, ob_some, lw_def, ck_true, ckp_su, ite_lt_t, ite_lt_f, ite_le_t, ite_le_f, ite_eq_t, ite_eq_f, ck_inb, nI_add, sb_nI, mu_nI, nI_clamp, sO_at, sO_sO, Nat.add_sub_cancel, Nat.zero_add, Nat.add_zero, li_0, li_1, li_2, li_3, li_4, li_5, li_6, li_7, li_8, li_9, li_10, li_11, li_12, li_16, li_20, li_24, li_31, li_32, li_48, li_49, li_73, li_74, li_75, li_97, li_98, li_99, li_100, li_101, li_109, li_110, li_255, li_680, li_700, li_9999, li_65536, li_65537]
  | succ k ih =>
    intro b hb m hm
    obtain ⟨m, rfl⟩ : ∃ q, m = q + 1 := ⟨m - 1, by omega⟩
    have h1 := cB_le hD hW (b := b)
    have h2 := bst_2 (g := cB D s) (m := 24) (fun b => cB_le hD hW) b
    rw [fX7_nextBand_37.eq_2, sO_nc (by decide), hS.2.2.1, x_entriesOf hD hS hW hR (by omega)]
    simp (disch := omega) only [↓mo_1, ↓mo_2, ad_m1, ite_m1_lt, ite_m2_lt, ite_le_m1, ite_eq_m1, ite_eq_m2, ite_m1_m1, ite_m2_m2, ite_T, ite_F, ite_nz, ite_zz, ite_m1_le, ite_m1_eq, oi_none, oi_some, ob_some, lw_def, ck_true, ckp_su, ite_lt_t, ite_lt_f, ite_le_t, ite_le_f, ite_eq_t, ite_eq_f, ck_inb, nI_add, sb_nI, mu_nI, nI_clamp, sO_at, sO_sO, Nat.add_sub_cancel, Nat.zero_add, Nat.add_zero, li_0, li_1, li_2, li_3, li_4, li_5, li_6, li_7, li_8, li_9, li_10, li_11, li_12, li_16, li_20, li_24, li_31, li_32, li_48, li_49, li_73, li_74, li_75, li_97, li_98, li_99, li_100, li_101, li_109, li_110, li_255, li_680, li_700, li_9999, li_65536, li_65537]
    have := ih (b + 1) (by omega) m (by omega)
    have e : bst (cB D s) (b + 1) = if (bst (cB D s) b).2 < cB D s b then (b, cB D s b) else bst (cB D s) b := rfl
    by_cases hc : cB D s b ≤ (bst (cB D s) b).2
    · rw [if_pos (nI_le hc (by omega))]
      rw [if_neg (by omega)] at e
      rw [e] at this
      exact this
    · rw [if_neg (nI_ge (by omega) (by omega))]
      rw [if_pos (by omega)] at e
      rw [e] at this
      exact this
theorem b2i_t : b2i true = nI 1 := id rfl
theorem b2i_f : b2i false = nI 0 := id rfl
theorem x_nextBand (hD : WFD D) (hS : RSh (w 5 a) D) (hW : WFS D s) (hR : RX o s) : fX7_nextBand j a (sO w 7 j o) = some (oi2 (nbS D s), sO w 7 j o) := by
  have hn := hW.n24 hD
  have hl : aln 7 j 1 = 24 := rfl
  have hS2 : RSh ((sO w 7 j o) 5 a) D := by rw [sO_nc (by decide)]; exact hS
  unfold fX7_nextBand nbS
  rw [hS2.2.2.2.2.2.2, sO_at, hR.2.1]
  by_cases h0 : sn s = 0
  · rw [h0]
    rfl
  · rw [if_neg h0]
    have h1 := hR.2.2.1 0 (by omega)
    have h2 := hW.2.1 0 (by omega)
    cases hd : D.2.2.2.2 with
    | true =>
      simp (disch := omega) only [↓mo_1, ↓mo_2, ad_m1, ite_m1_lt, ite_m2_lt, ite_le_m1, ite_eq_m1, ite_eq_m2, ite_m1_m1, ite_m2_m2, ite_T, ite_F, ite_nz, ite_zz, ite_m1_le, ite_m1_eq, oi_none, oi_some, ob_some, lw_def, ck_true, ckp_su, ite_lt_t, ite_lt_f, ite_le_t, ite_le_f, ite_eq_t, ite_eq_f, ck_inb, nI_add, sb_nI, mu_nI, nI_clamp, sO_at, sO_sO, Nat.add_sub_cancel, Nat.zero_add, Nat.add_zero, li_0, li_1, li_2, li_3, li_4, li_5, li_6, li_7, li_8, li_9, li_10, li_11, li_12, li_16, li_20, li_24, li_31, li_32, li_48, li_49, li_73, li_74, li_75, li_97, li_98, li_99, li_100, li_101, li_109, li_110, li_255, li_680, li_700, li_9999, li_65536, li_65537, b2i_t, at_in, h1, x_bandHolding hS2 hD h2]
      rfl
    | false =>
      simp (disch := omega) only [↓mo_1, ↓mo_2, ad_m1, ite_m1_lt, ite_m2_lt, ite_le_m1, ite_eq_m1, ite_eq_m2, ite_m1_m1, ite_m2_m2, ite_T, ite_F, ite_nz, ite_zz, ite_m1_le, ite_m1_eq, oi_none, oi_some, ob_some, lw_def, ck_true, ckp_su, ite_lt_t, ite_lt_f, ite_le_t, ite_le_f, ite_eq_t, ite_eq_f, ck_inb, nI_add, sb_nI, mu_nI, nI_clamp, sO_at, sO_sO, Nat.add_sub_cancel, Nat.zero_add, Nat.add_zero, li_0, li_1, li_2, li_3, li_4, li_5, li_6, li_7, li_8, li_9, li_10, li_11, li_12, li_16, li_20, li_24, li_31, li_32, li_48, li_49, li_73, li_74, li_75, li_97, li_98, li_99, li_100, li_101, li_109, li_110, li_255, li_680, li_700, li_9999, li_65536, li_65537, b2i_f]
      exact x_nb hD hS hW hR D.1 0 (by omega) fuel0 (by have := hD.2.1; unfold fuel0; omega)
theorem m_fu (hD : WFD D) (hS : RMs nd w D) (hW : WFS D s) (hR : RM f s) : ∀ k b, b + k = D.1 → ∀ m, k < m → fX11_fullest_11 nd m (mX w f) (nI (bst (cB D s) b).1) (nI (bst (cB D s) b).2) (nI b) = some (nI (bst (cB D s) D.1).1, mX w f) := by
  have hb2 := hD.2.1
  intro k
  induction k with
  | zero =>
    intro b hb m hm
    obtain ⟨m, rfl⟩ : ∃ q, m = q + 1 := ⟨m - 1, by omega⟩
    have e : b = D.1 := by omega
    subst e
    rw [fX11_fullest_11.eq_2, mX_i, hS.1]
    simp (disch := omega) only [↓mo_1, ↓mo_2, ad_m1, ite_m1_lt, ite_m2_lt, ite_le_m1, ite_eq_m1, ite_eq_m2, ite_m1_m1, ite_m2_m2, ite_T, ite_F, ite_nz, ite_zz, ite_m1_le, ite_m1_eq, oi_none, oi_some, ob_some, lw_def, ck_true, ckp_su, ite_lt_t, ite_lt_f, ite_le_t, ite_le_f, ite_eq_t, ite_eq_f, ck_inb, nI_add, sb_nI, mu_nI, nI_clamp, sO_at, sO_sO, Nat.add_sub_cancel, Nat.zero_add, Nat.add_zero, li_0, li_1, li_2, li_3, li_4, li_5, li_6, li_7, li_8, li_9, li_10, li_11, li_12, li_16, li_20, li_24, li_31, li_32, li_48, li_49, li_73, li_74, li_75, li_97, li_98, li_99, li_100, li_101, li_109, li_110, li_255, li_680, li_700, li_9999, li_65536, li_65537]
  | succ k ih =>
    intro b hb m hm
    obtain ⟨m, rfl⟩ : ∃ q, m = q + 1 := ⟨m - 1, by omega⟩
    have h1 := cB_le hD hW (b := b)
    have h2 := bst_2 (g := cB D s) (m := 24) (fun b => cB_le hD hW) b
    rw [fX11_fullest_11.eq_2, mX_i, hS.1, m_entriesOf hD hS hW hR (by omega)]
    simp (disch := omega) only [↓mo_1, ↓mo_2, ad_m1, ite_m1_lt, ite_m2_lt, ite_le_m1, ite_eq_m1, ite_eq_m2, ite_m1_m1, ite_m2_m2, ite_T, ite_F, ite_nz, ite_zz, ite_m1_le, ite_m1_eq, oi_none, oi_some, ob_some, lw_def, ck_true, ckp_su, ite_lt_t, ite_lt_f, ite_le_t, ite_le_f, ite_eq_t, ite_eq_f, ck_inb, nI_add, sb_nI, mu_nI, nI_clamp, sO_at, sO_sO, Nat.add_sub_cancel, Nat.zero_add, Nat.add_zero, li_0, li_1, li_2, li_3, li_4, li_5, li_6, li_7, li_8, li_9, li_10, li_11, li_12, li_16, li_20, li_24, li_31, li_32, li_48, li_49, li_73, li_74, li_75, li_97, li_98, li_99, li_100, li_101, li_109, li_110, li_255, li_680, li_700, li_9999, li_65536, li_65537]
    have := ih (b + 1) (by omega) m (by omega)
    have e : bst (cB D s) (b + 1) = if (bst (cB D s) b).2 < cB D s b then (b, cB D s b) else bst (cB D s) b := rfl
    by_cases hc : (bst (cB D s) b).2 < cB D s b
    · rw [if_pos (nI_lt hc (by omega))]
      rw [if_pos hc] at e
      rw [e] at this
      exact this
    · rw [if_neg (nI_nlt (by omega) (by omega))]
      rw [if_neg hc] at e
      rw [e] at this
      exact this
theorem m_fullest (hD : WFD D) (hS : RMs nd w D) (hW : WFS D s) (hR : RM f s) : fX11_fullest nd (mX w f) = some (nI (bst (cB D s) D.1).1, mX w f) := by
  unfold fX11_fullest
  have h1 := hD.1
  have h2 := hD.2.1
  have h0 := m_entriesOf hD hS hW hR (b := 0) (by omega)
  rw [li_0] at h0
  simp (disch := omega) only [↓mo_1, ↓mo_2, ad_m1, ite_m1_lt, ite_m2_lt, ite_le_m1, ite_eq_m1, ite_eq_m2, ite_m1_m1, ite_m2_m2, ite_T, ite_F, ite_nz, ite_zz, ite_m1_le, ite_m1_eq, oi_none, oi_some, ob_some, lw_def, ck_true, ckp_su, ite_lt_t, ite_lt_f, ite_le_t, ite_le_f, ite_eq_t, ite_eq_f, ck_inb, nI_add, sb_nI, mu_nI, nI_clamp, sO_at, sO_sO, Nat.add_sub_cancel, Nat.zero_add, Nat.add_zero, li_0, li_1, li_2, li_3, li_4, li_5, li_6, li_7, li_8, li_9, li_10, li_11, li_12, li_16, li_20, li_24, li_31, li_32, li_48, li_49, li_73, li_74, li_75, li_97, li_98, li_99, li_100, li_101, li_109, li_110, li_255, li_680, li_700, li_9999, li_65536, li_65537, h0]
  have e : bst (cB D s) 1 = (0, cB D s 0) := by
    show (if 0 < cB D s 0 then (0, cB D s 0) else (0, 0)) = _
    by_cases q : 0 < cB D s 0
    · rw [if_pos q]
    · rw [if_neg q, show cB D s 0 = 0 by omega]
  have := m_fu hD hS hW hR (D.1 - 1) 1 (by omega) fuel0 (by unfold fuel0; omega)
  rw [e] at this
  exact this
theorem m_ba (hD : WFD D) (hS : RMs nd w D) {t : Nat} (ht : t < dnt D) : ∀ k b, b + k = bo D t → ∀ m, k < m → fX11_bandAt_2 nd m (mX w f) (nI t) (nI b) = some (nI (bo D t), mX w f) := by
  have h4 := hD.2.2.2.1
  have hb2 := hD.2.1
  have hbo := bo_spec ht
  intro k
  induction k with
  | zero =>
    intro b hb m hm
    obtain ⟨m, rfl⟩ : ∃ q, m = q + 1 := ⟨m - 1, by omega⟩
    have e : b = bo D t := by omega
    subst e
    have h1 := hS.2.2.1 _ hbo.1
    have h3 := dfst_le hbo.1
    rw [fX11_bandAt_2.eq_2]
    simp (disch := first | omega | decide) only [↓mo_1, ↓mo_2, ad_m1, ite_m1_lt, ite_m2_lt, ite_le_m1, ite_eq_m1, ite_eq_m2, ite_m1_m1, ite_m2_m2, ite_T, ite_F, ite_nz, ite_zz, ite_m1_le, ite_m1_eq, oi_none, oi_some, ob_some, lw_def, ck_true, ckp_su, ite_lt_t, ite_lt_f, ite_le_t, ite_le_f, ite_eq_t, ite_eq_f, ck_inb, nI_add, sb_nI, mu_nI, nI_clamp, sO_at, sO_sO, Nat.add_sub_cancel, Nat.zero_add, Nat.add_zero, li_0, li_1, li_2, li_3, li_4, li_5, li_6, li_7, li_8, li_9, li_10, li_11, li_12, li_16, li_20, li_24, li_31, li_32, li_48, li_49, li_73, li_74, li_75, li_97, li_98, li_99, li_100, li_101, li_109, li_110, li_255, li_680, li_700, li_9999, li_65536, li_65537, mX_r, h1.1, h1.2]
  | succ k ih =>
    intro b hb m hm
    obtain ⟨m, rfl⟩ : ∃ q, m = q + 1 := ⟨m - 1, by omega⟩
    have h1 := hS.2.2.1 b (by omega)
    have h3 := dfst_le (D := D) (b := b) (by omega)
    have h5 := dfst_mono (sz := D.2.1) (a := b + 1) (b := bo D t) (by omega)
    have h6 : dfst D.2.1 (b + 1) = dfst D.2.1 b + D.2.1 b := rfl
    rw [fX11_bandAt_2.eq_2]
    simp (disch := first | omega | decide) only [↓mo_1, ↓mo_2, ad_m1, ite_m1_lt, ite_m2_lt, ite_le_m1, ite_eq_m1, ite_eq_m2, ite_m1_m1, ite_m2_m2, ite_T, ite_F, ite_nz, ite_zz, ite_m1_le, ite_m1_eq, oi_none, oi_some, ob_some, lw_def, ck_true, ckp_su, ite_lt_t, ite_lt_f, ite_le_t, ite_le_f, ite_eq_t, ite_eq_f, ck_inb, nI_add, sb_nI, mu_nI, nI_clamp, sO_at, sO_sO, Nat.add_sub_cancel, Nat.zero_add, Nat.add_zero, li_0, li_1, li_2, li_3, li_4, li_5, li_6, li_7, li_8, li_9, li_10, li_11, li_12, li_16, li_20, li_24, li_31, li_32, li_48, li_49, li_73, li_74, li_75, li_97, li_98, li_99, li_100, li_101, li_109, li_110, li_255, li_680, li_700, li_9999, li_65536, li_65537, mX_r, h1.1, h1.2]
    exact ih (b + 1) (by omega) m (by omega)
theorem m_bandAt (hD : WFD D) (hS : RMs nd w D) {t : Nat} (ht : t < dnt D) : fX11_bandAt nd (mX w f) (nI t) = some (nI (bo D t), mX w f) := by
  have hbo := bo_spec ht
  have hb2 := hD.2.1
  exact m_ba hD hS ht (bo D t) 0 (by omega) fuel0 (by unfold fuel0; omega)
theorem m_nextBand (hD : WFD D) (hS : RMs nd w D) (hW : WFS D s) (hR : RM f s) : fX11_nextBand nd (mX w f) = some (oi2 (nbS D s), mX w f) := by
  have hn := hW.n24 hD
  obtain ⟨d, hd, hdn, -, hdo⟩ := hS.2.2.2
  unfold fX11_nextBand nbS
  simp (disch := omega) only [↓mo_1, ↓mo_2, ad_m1, ite_m1_lt, ite_m2_lt, ite_le_m1, ite_eq_m1, ite_eq_m2, ite_m1_m1, ite_m2_m2, ite_T, ite_F, ite_nz, ite_zz, ite_m1_le, ite_m1_eq, oi_none, oi_some, ob_some, lw_def, ck_true, ckp_su, ite_lt_t, ite_lt_f, ite_le_t, ite_le_f, ite_eq_t, ite_eq_f, ck_inb, nI_add, sb_nI, mu_nI, nI_clamp, sO_at, sO_sO, Nat.add_sub_cancel, Nat.zero_add, Nat.add_zero, li_0, li_1, li_2, li_3, li_4, li_5, li_6, li_7, li_8, li_9, li_10, li_11, li_12, li_16, li_20, li_24, li_31, li_32, li_48, li_49, li_73, li_74, li_75, li_97, li_98, li_99, li_100, li_101, li_109, li_110, li_255, li_680, li_700, li_9999, li_65536, li_65537, mX_x, hR.2.1]
  by_cases h0 : sn s = 0
  · rw [h0]
    rfl
  · rw [if_neg h0]
    have h1 := hR.2.2.1 0 (by omega)
    have h2 := hW.2.1 0 (by omega)
    rw [mX_p, hd]
    have h1' : f 49 = nI (se s 0) := h1
    cases hb : D.2.2.2.2 with
    | true =>
      rw [hb] at hdo
      simp (disch := omega) only [↓mo_1, ↓mo_2, ad_m1, ite_m1_lt, ite_m2_lt, ite_le_m1, ite_eq_m1, ite_eq_m2, ite_m1_m1, ite_m2_m2, ite_T, ite_F, ite_nz, ite_zz, ite_m1_le, ite_m1_eq, oi_none, oi_some, ob_some, lw_def, ck_true, ckp_su, ite_lt_t, ite_lt_f, ite_le_t, ite_le_f, ite_eq_t, ite_eq_f, ck_inb, nI_add, sb_nI, mu_nI, nI_clamp, sO_at, sO_sO, Nat.add_sub_cancel, Nat.zero_add, Nat.add_zero, li_0, li_1, li_2, li_3, li_4, li_5, li_6, li_7, li_8, li_9, li_10, li_11, li_12, li_16, li_20, li_24, li_31, li_32, li_48, li_49, li_73, li_74, li_75, li_97, li_98, li_99, li_100, li_101, li_109, li_110, li_255, li_680, li_700, li_9999, li_65536, li_65537, mX_10, hdo, b2i_t, h1', m_bandAt hD hS h2]
      rfl
    | false =>
      rw [hb] at hdo
      simp (disch := omega) only [↓mo_1, ↓mo_2, ad_m1, ite_m1_lt, ite_m2_lt, ite_le_m1, ite_eq_m1, ite_eq_m2, ite_m1_m1, ite_m2_m2, ite_T, ite_F, ite_nz, ite_zz, ite_m1_le, ite_m1_eq, oi_none, oi_some, ob_some, lw_def, ck_true, ckp_su, ite_lt_t, ite_lt_f, ite_le_t, ite_le_f, ite_eq_t, ite_eq_f, ck_inb, nI_add, sb_nI, mu_nI, nI_clamp, sO_at, sO_sO, Nat.add_sub_cancel, Nat.zero_add, Nat.add_zero, li_0, li_1, li_2, li_3, li_4, li_5, li_6, li_7, li_8, li_9, li_10, li_11, li_12, li_16, li_20, li_24, li_31, li_32, li_48, li_49, li_73, li_74, li_75, li_97, li_98, li_99, li_100, li_101, li_109, li_110, li_255, li_680, li_700, li_9999, li_65536, li_65537, mX_10, hdo, b2i_f, m_fullest hD hS hW hR]
      rfl
end OPS
