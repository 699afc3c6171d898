/-! ===== bands added to a shape ===== -/
theorem bo_old {sz : Nat → Nat} {t k : Nat} (h : t < dfst sz k) : boR sz t (k + 1) = boR sz t k := if_neg (by omega)
theorem bo_new {sz : Nat → Nat} {t k : Nat} (h : dfst sz k ≤ t) : boR sz t (k + 1) = k := if_pos h
section RESH
variable {w : Wd} {j : Nat} {o : Ob}
theorem x_ab {F z k : Nat} (h48 : F + z ≤ 48) (hk : k < 24) : ∀ r t, t + r = F + z → ∀ (m : Nat) (o : Ob), r < m → o.1 4 = nI F → o.1 3 = nI k → F ≤ t → (∀ u, F ≤ u → u < t → o.2.1 2 u = nI k) → ∃ o2 : Ob, fX5_addBand_60 j m (sO w 5 j o) (nI z) (nI t) = some ((), sO w 5 j o2) ∧ o2.1 3 = nI (k + 1) ∧ o2.1 4 = nI (F + z) ∧ (∀ u, F ≤ u → u < F + z → o2.2.1 2 u = nI k) ∧ (∀ u, u < F → o2.2.1 2 u = o.2.1 2 u) ∧ o2.2.1 0 = o.2.1 0 ∧ o2.2.1 1 = o.2.1 1 ∧ o2.1 5 = o.1 5 ∧ o2.1 6 = o.1 6 ∧ o2.1 7 = o.1 7 := by
  intro r
  induction r with
  | zero =>
    intro t ht m o hm h4 h3 hF hr
    obtain ⟨m, rfl⟩ : ∃ q, m = q + 1 := ⟨m - 1, by omega⟩
    have e : t = F + z := by omega
    subst e
    have q3 : ∀ v, (oI o 4 v).1 3 = nI k := fun v => by rw [oI_n (by decide)]; exact h3
    refine ⟨oI (oI o 4 (nI (F + z))) 3 (nI (k + 1)), ?_, oI_a, by rw [oI_n (by decide), oI_a], fun u a b => hr u a b, fun u _ => rfl, rfl, rfl, by rw [oI_n (by decide), oI_n (by decide)], by rw [oI_n (by decide), oI_n (by decide)], by rw [oI_n (by decide), oI_n (by decide)]⟩
    rw [fX5_addBand_60.eq_2]
    unfold fX5_addBand_99
    simp (disch := omega) only [↓mo_1, ↓mo_2, ad_m1, ite_m1_lt, ite_m2_lt, ite_le_m1, ite_eq_m1, ite_eq_m2, ite_m1_m1, ite_m2_m2, ite_T, ite_F, ite_nz, ite_zz, ite_m1_le, ite_m1_eq, oi_none, oi_some, ob_some, lw_def, ck_true, ckp_su, ite_lt_t, ite_lt_f, ite_le_t, ite_le_f, ite_eq_t, ite_eq_f, ck_inb, nI_add, sb_nI, mu_nI, nI_clamp, sO_at, sO_sO, Nat.add_sub_cancel, Nat.zero_add, Nat.add_zero, li_0, li_1, li_2, li_3, li_4, li_5, li_6, li_7, li_8, li_9, li_10, li_11, li_12, li_16, li_20, li_24, li_31, li_32, li_48, li_49, li_73, li_74, li_75, li_97, li_98, li_99, li_100, li_101, li_109, li_110, li_255, li_680, li_700, li_9999, li_65536, li_65537, h4, sI_s, q3]
  | succ r ih =>
    intro t ht m o hm h4 h3 hF hr
    obtain ⟨m, rfl⟩ : ∃ q, m = q + 1 := ⟨m - 1, by omega⟩
    obtain ⟨o2, e1, e2, e3, e4, e5, e6, e7, e8⟩ := ih (t + 1) (by omega) m (oA o 2 t (nI k)) (by omega) h4 h3 (by omega) (fun u a b => by
      rw [oA_a]
      by_cases c : u = t
      · rw [c, upd_at]
      · rw [upd_ne c]; exact hr u a (by omega))
    refine ⟨o2, ?_, e2, e3, e4, fun u hu => ?_, by rw [e6, oA_n (by decide)], by rw [e7, oA_n (by decide)], e8⟩
    · rw [fX5_addBand_60.eq_2]
      simp (disch := omega) only [↓mo_1, ↓mo_2, ad_m1, ite_m1_lt, ite_m2_lt, ite_le_m1, ite_eq_m1, ite_eq_m2, ite_m1_m1, ite_m2_m2, ite_T, ite_F, ite_nz, ite_zz, ite_m1_le, ite_m1_eq, oi_none, oi_some, ob_some, lw_def, ck_true, ckp_su, ite_lt_t, ite_lt_f, ite_le_t, ite_le_f, ite_eq_t, ite_eq_f, ck_inb, nI_add, sb_nI, mu_nI, nI_clamp, sO_at, sO_sO, Nat.add_sub_cancel, Nat.zero_add, Nat.add_zero, li_0, li_1, li_2, li_3, li_4, li_5, li_6, li_7, li_8, li_9, li_10, li_11, li_12, li_16, li_20, li_24, li_31, li_32, li_48, li_49, li_73, li_74, li_75, li_97, li_98, li_99, li_100, li_101, li_109, li_110, li_255, li_680, li_700, li_9999, li_65536, li_65537, h4, h3, sA_s]
      exact e1
    · rw [e5 u hu, oA_a, upd_ne (by omega)]
theorem x_addBand {k : Nat} {sz : Nat → Nat} {R : Nat × Nat × Bool} (hR : RSh o (k, sz, R)) (hk : k < 24) (h48 : dfst sz (k + 1) ≤ 48) : ∃ o2 : Ob, fX5_addBand j (sO w 5 j o) (nI (sz k)) = some ((), sO w 5 j o2) ∧ RSh o2 (k + 1, sz, R) := by
  obtain ⟨a1, a2, a3, a4, a5, a6, a7⟩ := hR
  have a3' : o.1 3 = nI k := a3
  have a4' : o.1 4 = nI (dfst sz k) := a4
  have e48 : dfst sz k + sz k ≤ 48 := h48
  obtain ⟨o2, e1, e2, e3, e4, e5, e6, e7, e8, e9, e10⟩ := x_ab (w := w) (j := j) (z := sz k) e48 hk (sz k) (dfst sz k) rfl fuel0 (oA (oA o 0 k (nI (dfst sz k))) 1 k (nI (sz k))) (by unfold fuel0; omega) a4' a3' (Nat.le_refl _) (fun u a b => absurd b (by omega))
  refine ⟨o2, ?_, ?_⟩
  · unfold fX5_addBand
    simp (disch := omega) only [↓mo_1, ↓mo_2, ad_m1, ite_m1_lt, ite_m2_lt, ite_le_m1, ite_eq_m1, ite_eq_m2, ite_m1_m1, ite_m2_m2, ite_T, ite_F, ite_nz, ite_zz, ite_m1_le, ite_m1_eq, oi_none, oi_some, ob_some, lw_def, ck_true, ckp_su, ite_lt_t, ite_lt_f, ite_le_t, ite_le_f, ite_eq_t, ite_eq_f, ck_inb, nI_add, sb_nI, mu_nI, nI_clamp, sO_at, sO_sO, Nat.add_sub_cancel, Nat.zero_add, Nat.add_zero, li_0, li_1, li_2, li_3, li_4, li_5, li_6, li_7, li_8, li_9, li_10, li_11, li_12, li_16, li_20, li_24, li_31, li_32, li_48, li_49, li_73, li_74, li_75, li_97, li_98, li_99, li_100, li_101, li_109, li_110, li_255, li_680, li_700, li_9999, li_65536, li_65537, a3', a4', sA_s, oA_1]
    exact e1
  · refine ⟨fun b hb => ?_, fun t ht => ?_, e2, e3, ?_, ?_, ?_⟩
    · rw [e6, e7, oA_n (by decide), oA_a, oA_a, oA_n (by decide)]
      by_cases c : b = k
      · subst c; rw [upd_at, upd_at]; exact ⟨rfl, rfl⟩
      · rw [upd_ne c, upd_ne c]; exact a1 b (show b < k by have : b < k + 1 := hb; omega)
    · show _ = nI (boR sz t (k + 1))
      by_cases c : dfst sz k ≤ t
      · rw [bo_new c]; exact e4 t c ht
      · rw [bo_old (by omega), e5 t (by omega), oA_n (by decide), oA_n (by decide)]; exact a2 t (show t < dfst sz k by omega)
    · rw [e8]; exact a5
    · rw [e9]; exact a6
    · rw [e10]; exact a7
theorem x_takeRules {q : Nat} {D : Dk} (hq : q ≠ j) (hR : RSh (w 5 q) D) {sz : Nat → Nat} : ∃ o2 : Ob, fX5_takeRules j q (sO w 5 j o) = some ((), sO w 5 j o2) ∧ RSh o2 (0, sz, D.2.2) := by
  obtain ⟨a1, a2, a3, a4, a5, a6, a7⟩ := hR
  have hb : isb ((w 5 q).1 7) = true := by rw [a7]; exact isb_b2i
  refine ⟨oI (oI (oI (oI (oI (oI (oI (oI o 3 (nI 0)) 4 (nI 0)) 5 (nI 0)) 6 (nI 0)) 7 (nI 0)) 5 ((w 5 q).1 5)) 6 ((w 5 q).1 6)) 7 ((w 5 q).1 7), ?_, fun b hb => absurd hb (Nat.not_lt_zero b), fun t ht => absurd ht (Nat.not_lt_zero t), ?_, ?_, ?_, ?_, ?_⟩
  · unfold fX5_takeRules fX5_empty
    simp (disch := omega) only [↓mo_1, ↓mo_2, ad_m1, ite_m1_lt, ite_m2_lt, ite_le_m1, ite_eq_m1, ite_eq_m2, ite_m1_m1, ite_m2_m2, ite_T, ite_F, ite_nz, ite_zz, ite_m1_le, ite_m1_eq, oi_none, oi_some, ob_some, lw_def, ck_true, ckp_su, ite_lt_t, ite_lt_f, ite_le_t, ite_le_f, ite_eq_t, ite_eq_f, ck_inb, nI_add, sb_nI, mu_nI, nI_clamp, sO_at, sO_sO, Nat.add_sub_cancel, Nat.zero_add, Nat.add_zero, li_0, li_1, li_2, li_3, li_4, li_5, li_6, li_7, li_8, li_9, li_10, li_11, li_12, li_16, li_20, li_24, li_31, li_32, li_48, li_49, li_73, li_74, li_75, li_97, li_98, li_99, li_100, li_101, li_109, li_110, li_255, li_680, li_700, li_9999, li_65536, li_65537, sI_s, sO_nj hq, hb]
  · simp (disch := decide) only [oI_n, oI_a]
  · simp (disch := decide) only [oI_n, oI_a]; rfl
  · simp (disch := decide) only [oI_n, oI_a]; exact a5
  · simp (disch := decide) only [oI_n, oI_a]; exact a6
  · simp (disch := decide) only [oI_n, oI_a]; exact a7
/-! by size -/
def szF (N n b : Nat) : Nat := if N ≤ n * b + n then N - n * b else n
def szN (N n : Nat) : Nat := (N + n - 1) / n
def szD (D : Dk) (n : Nat) : Dk := (szN (dnt D) n, szF (dnt D) n, D.2.2)
theorem szN_lt {N n b : Nat} (hn : 1 ≤ n) : b < szN N n ↔ n * b < N := by
  unfold szN
  rw [← Nat.succ_le_iff, Nat.le_div_iff_mul_le (by omega), Nat.succ_mul, Nat.mul_comm b n]
  omega
theorem szF_d {N n : Nat} (hN : 1 ≤ N) : ∀ b, dfst (szF N n) b = if N ≤ n * b then N else n * b
  | 0 => by rw [Nat.mul_zero, if_neg (by omega)]; rfl
  | b + 1 => by
    show dfst (szF N n) b + szF N n b = _
    rw [szF_d hN b, Nat.mul_succ]
    unfold szF
    by_cases c : N ≤ n * b
    · rw [if_pos c, if_pos (by omega), if_pos (by omega)]; omega
    · rw [if_neg c]
      by_cases d : N ≤ n * b + n
      · rw [if_pos d, if_pos d]; omega
      · rw [if_neg d, if_neg d]
theorem szD_n {D : Dk} {n : Nat} (hD : WFD D) (hn : 2 ≤ n) : dnt (szD D n) = dnt D := by
  show dfst (szF (dnt D) n) (szN (dnt D) n) = _
  rw [szF_d (dnt_pos hD), if_pos]
  have := szN_lt (N := dnt D) (n := n) (b := szN (dnt D) n) (by omega)
  omega
theorem szD_wf {D : Dk} {n : Nat} (hD : WFD D) (hn : 2 ≤ n) (h8 : n ≤ 8) : WFD (szD D n) := by
  have h1 := dnt_pos hD
  have h48 := hD.2.2.2.1
  refine ⟨?_, ?_, fun b hb => ?_, ?_, hD.2.2.2.2⟩
  · exact (szN_lt (by omega)).mpr (by rw [Nat.mul_zero]; omega)
  · show szN (dnt D) n ≤ 24
    have := szN_lt (N := dnt D) (n := n) (b := 24) (by omega)
    omega
  · have hb' := (szN_lt (N := dnt D) (n := n) (b := b) (by omega)).mp hb
    show 1 ≤ szF (dnt D) n b ∧ szF (dnt D) n b ≤ 8
    unfold szF
    by_cases c : dnt D ≤ n * b + n
    · rw [if_pos c]; omega
    · rw [if_neg c]; omega
  · rw [szD_n hD hn]; exact h48
theorem x_bs {q n : Nat} {D : Dk} (hD : WFD D) (hq : q ≠ j) (hR : RSh (w 5 q) D) (hn : 2 ≤ n) (h8 : n ≤ 8) : ∀ r b, b + r = szN (dnt D) n → ∀ (m : Nat) (o : Ob), r < m → RSh o (b, szF (dnt D) n, D.2.2) → ∃ o2 : Ob, fX5_becomeBySize_7 j q m (sO w 5 j o) (nI n) (nI (n * b)) = some ((), sO w 5 j o2) ∧ RSh o2 (szD D n) := by
  have h1 := dnt_pos hD
  have h48 := hD.2.2.2.1
  have hw2 := szD_wf hD hn h8
  have h24 : szN (dnt D) n ≤ 24 := hw2.2.1
  intro r
  induction r with
  | zero =>
    intro b hb m o hm hS
    obtain ⟨m, rfl⟩ : ∃ q, m = q + 1 := ⟨m - 1, by omega⟩
    have e : b = szN (dnt D) n := by omega
    subst e
    refine ⟨o, ?_, hS⟩
    have hge : dnt D ≤ n * szN (dnt D) n := by
      have := szN_lt (N := dnt D) (n := n) (b := szN (dnt D) n) (by omega)
      omega
    have hle : n * szN (dnt D) n ≤ 8 * 24 := Nat.mul_le_mul h8 h24
    rw [fX5_becomeBySize_7.eq_2]
    simp (disch := omega) only [↓mo_1, ↓mo_2, ad_m1, ite_m1_lt, ite_m2_lt, ite_le_m1, ite_eq_m1, ite_eq_m2, ite_m1_m1, ite_m2_m2, ite_T, ite_F, ite_nz, ite_zz, ite_m1_le, ite_m1_eq, oi_none, oi_some, ob_some, lw_def, ck_true, ckp_su, ite_lt_t, ite_lt_f, ite_le_t, ite_le_f, ite_eq_t, ite_eq_f, ck_inb, nI_add, sb_nI, mu_nI, nI_clamp, sO_at, sO_sO, Nat.add_sub_cancel, Nat.zero_add, Nat.add_zero, li_0, li_1, li_2, li_3, li_4, li_5, li_6, li_7, li_8, li_9, li_10, li_11, li_12, li_16, li_20, li_24, li_31, li_32, li_48, li_49, li_73, li_74, li_75, li_97, li_98, li_99, li_100, li_101, li_109, li_110, li_255, li_680, li_700, li_9999, li_65536, li_65537, sO_nj hq, hR.2.2.2.1]
  | succ r ih =>
    intro b hb m o hm hS
    obtain ⟨m, rfl⟩ : ∃ q, m = q + 1 := ⟨m - 1, by omega⟩
    have hlt := (szN_lt (N := dnt D) (n := n) (b := b) (by omega)).mp (by omega)
    have hd : dfst (szF (dnt D) n) (b + 1) ≤ 48 := by
      rw [szF_d h1]
      by_cases c : dnt D ≤ n * (b + 1)
      · rw [if_pos c]; exact h48
      · rw [if_neg c]; omega
    obtain ⟨o3, e1, e2⟩ := x_addBand (w := w) (j := j) hS (by omega) hd
    obtain ⟨o2, e3, e4⟩ := ih (b + 1) (by omega) m o3 (by omega) e2
    refine ⟨o2, ?_, e4⟩
    have es : (if nI (dnt D - n * b) < nI n then nI (dnt D - n * b) else nI n) = nI (szF (dnt D) n b) := by
      unfold szF
      by_cases c : dnt D ≤ n * b + n
      · rw [if_pos c]
        by_cases d : dnt D - n * b < n
        · rw [if_pos (nI_lt d (by omega))]
        · rw [if_neg (nI_nlt (by omega) (by omega))]; exact congrArg nI (by omega)
      · rw [if_neg c, if_neg (nI_nlt (by omega) (by omega))]
    rw [Nat.mul_succ] at e3
    rw [fX5_becomeBySize_7.eq_2]
    simp (disch := omega) only [↓mo_1, ↓mo_2, ad_m1, ite_m1_lt, ite_m2_lt, ite_le_m1, ite_eq_m1, ite_eq_m2, ite_m1_m1, ite_m2_m2, ite_T, ite_F, ite_nz, ite_zz, ite_m1_le, ite_m1_eq, oi_none, oi_some, ob_some, lw_def, ck_true, ckp_su, ite_lt_t, ite_lt_f, ite_le_t, ite_le_f, ite_eq_t, ite_eq_f, ck_inb, nI_add, sb_nI, mu_nI, nI_clamp, sO_at, sO_sO, Nat.add_sub_cancel, Nat.zero_add, Nat.add_zero, li_0, li_1, li_2, li_3, li_4, li_5, li_6, li_7, li_8, li_9, li_10, li_11, li_12, li_16, li_20, li_24, li_31, li_32, li_48, li_49, li_73, li_74, li_75, li_97, li_98, li_99, li_100, li_101, li_109, li_110, li_255, li_680, li_700, li_9999, li_65536, li_65537, sO_nj hq, hR.2.2.2.1]
    rw [es]
    simp (disch := omega) only [↓mo_1, ↓mo_2, ad_m1, ite_m1_lt, ite_m2_lt, ite_le_m1, ite_eq_m1, ite_eq_m2, ite_m1_m1, ite_m2_m2, ite_T, ite_F, ite_nz, ite_zz, ite_m1_le, ite_m1_eq, oi_none, oi_some, ob_some, lw_def, ck_true, ckp_su, ite_lt_t, ite_lt_f, ite_le_t, ite_le_f, ite_eq_t, ite_eq_f, ck_inb, nI_add, sb_nI, mu_nI, nI_clamp, sO_at, sO_sO, Nat.add_sub_cancel, Nat.zero_add, Nat.add_zero, li_0, li_1, li_2, li_3, li_4, li_5, li_6, li_7, li_8, li_9, li_10, li_11, li_12, li_16, li_20, li_24, li_31, li_32, li_48, li_49, li_73, li_74, li_75, li_97, li_98, li_99, li_100, li_101, li_109, li_110, li_255, li_680, li_700, li_9999, li_65536, li_65537, e1]
    exact e3
theorem x_becomeBySize {q n : Nat} {D : Dk} (hD : WFD D) (hq : q ≠ j) (hR : RSh (w 5 q) D) (hn : 2 ≤ n) (h8 : n ≤ 8) : ∃ o2 : Ob, fX5_becomeBySize j q w (nI n) = some ((), sO w 5 j o2) ∧ RSh o2 (szD D n) := by
  have hw2 := szD_wf hD hn h8
  have h24 : szN (dnt D) n ≤ 24 := hw2.2.1
  obtain ⟨o1, a1, a2⟩ := x_takeRules (w := w) (o := w 5 j) (sz := szF (dnt D) n) hq hR
  rw [sO_id] at a1
  obtain ⟨o2, e1, e2⟩ := x_bs (w := w) hD hq hR hn h8 (szN (dnt D) n) 0 (Nat.zero_add _) fuel0 o1 (by unfold fuel0; omega) a2
  refine ⟨o2, ?_, e2⟩
  unfold fX5_becomeBySize
  rw [a1, ob_some]
  exact e1
def lgD (D : Dk) (n : Nat) : Dk := (D.1, D.2.1, D.2.2.1, n, D.2.2.2.2)
theorem lgD_wf {D : Dk} {n : Nat} (hD : WFD D) (hn : 2 ≤ n) (h8 : n ≤ 24) : WFD (lgD D n) := ⟨hD.1, hD.2.1, hD.2.2.1, hD.2.2.2.1, hD.2.2.2.2.1, hD.2.2.2.2.2.1, (show 1 ≤ n by omega), h8⟩
theorem x_bl {q n : Nat} {D : Dk} (hD : WFD D) (hq : q ≠ j) (hR : RSh (w 5 q) D) : ∀ r b, b + r = D.1 → ∀ (m : Nat) (o : Ob), r < m → RSh o (b, D.2.1, D.2.2) → ∃ o2 : Ob, fX5_becomeByLog_7 j q m (sO w 5 j o) (nI n) (nI b) = some ((), sO w 5 j o2) ∧ RSh o2 (lgD D n) := by
  have h48 := hD.2.2.2.1
  have h24 := hD.2.1
  have hR2 : ∀ o, RSh ((sO w 5 j o) 5 q) D := fun o => by rw [sO_nj hq]; exact hR
  intro r
  induction r with
  | zero =>
    intro b hb m o hm hS
    obtain ⟨m, rfl⟩ : ∃ q, m = q + 1 := ⟨m - 1, by omega⟩
    have e : b = D.1 := by omega
    subst e
    obtain ⟨a1, a2, a3, a4, a5, a6, a7⟩ := hS
    refine ⟨oI o 6 (nI n), ?_, a1, a2, by rw [oI_n (by decide)]; exact a3, by rw [oI_n (by decide)]; exact a4, by rw [oI_n (by decide)]; exact a5, oI_a, by rw [oI_n (by decide)]; exact a7⟩
    rw [fX5_becomeByLog_7.eq_2, (hR2 o).2.2.1]
    simp (disch := omega) only [↓mo_1, ↓mo_2, ad_m1, ite_m1_lt, ite_m2_lt, ite_le_m1, ite_eq_m1, ite_eq_m2, ite_m1_m1, ite_m2_m2, ite_T, ite_F, ite_nz, ite_zz, ite_m1_le, ite_m1_eq, oi_none, oi_some, ob_some, lw_def, ck_true, ckp_su, ite_lt_t, ite_lt_f, ite_le_t, ite_le_f, ite_eq_t, ite_eq_f, ck_inb, nI_add, sb_nI, mu_nI, nI_clamp, sO_at, sO_sO, Nat.add_sub_cancel, Nat.zero_add, Nat.add_zero, li_0, li_1, li_2, li_3, li_4, li_5, li_6, li_7, li_8, li_9, li_10, li_11, li_12, li_16, li_20, li_24, li_31, li_32, li_48, li_49, li_73, li_74, li_75, li_97, li_98, li_99, li_100, li_101, li_109, li_110, li_255, li_680, li_700, li_9999, li_65536, li_65537, sI_s]
  | succ r ih =>
    intro b hb m o hm hS
    obtain ⟨m, rfl⟩ : ∃ q, m = q + 1 := ⟨m - 1, by omega⟩
    have hd : dfst D.2.1 (b + 1) ≤ 48 := Nat.le_trans (dfst_mono (show b + 1 ≤ D.1 by omega)) h48
    obtain ⟨o3, e1, e2⟩ := x_addBand (w := w) (j := j) hS (by omega) hd
    obtain ⟨o2, e3, e4⟩ := ih (b + 1) (by omega) m o3 (by omega) e2
    refine ⟨o2, ?_, e4⟩
    rw [fX5_becomeByLog_7.eq_2, (hR2 o).2.2.1]
    simp (disch := omega) only [↓mo_1, ↓mo_2, ad_m1, ite_m1_lt, ite_m2_lt, ite_le_m1, ite_eq_m1, ite_eq_m2, ite_m1_m1, ite_m2_m2, ite_T, ite_F, ite_nz, ite_zz, ite_m1_le, ite_m1_eq, oi_none, oi_some, ob_some, lw_def, ck_true, ckp_su, ite_lt_t, ite_lt_f, ite_le_t, ite_le_f, ite_eq_t, ite_eq_f, ck_inb, nI_add, sb_nI, mu_nI, nI_clamp, sO_at, sO_sO, Nat.add_sub_cancel, Nat.zero_add, Nat.add_zero, li_0, li_1, li_2, li_3, li_4, li_5, li_6, li_7, li_8, li_9, li_10, li_11, li_12, li_16, li_20, li_24, li_31, li_32, li_48, li_49, li_73, li_74, li_75, li_97, li_98, li_99, li_100, li_101, li_109, li_110, li_255, li_680, li_700, li_9999, li_65536, li_65537, x_tracksOf (hR2 o) hD (show b < D.1 by omega), e1]
    exact e3
theorem x_becomeByLog {q n : Nat} {D : Dk} (hD : WFD D) (hq : q ≠ j) (hR : RSh (w 5 q) D) : ∃ o2 : Ob, fX5_becomeByLog j q w (nI n) = some ((), sO w 5 j o2) ∧ RSh o2 (lgD D n) := by
  have h24 := hD.2.1
  obtain ⟨o1, a1, a2⟩ := x_takeRules (w := w) (o := w 5 j) (sz := D.2.1) hq hR
  rw [sO_id] at a1
  obtain ⟨o2, e1, e2⟩ := x_bl (w := w) (n := n) hD hq hR D.1 0 (Nat.zero_add _) fuel0 o1 (by unfold fuel0; omega) a2
  refine ⟨o2, ?_, e2⟩
  unfold fX5_becomeByLog
  rw [a1, ob_some]
  exact e1
end RESH
