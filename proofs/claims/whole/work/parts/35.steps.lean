/-! ===== the steps of a cleaning ===== -/
def jrS (D : Dk) (s : Sd) (b k : Nat) : Sd := (s.1, s.2.1, (jn s + 1, b, jf s, va_up (jv s) k (vaS s (dfst D.2.1 b + k))), sdn s, sct s + nI 1)
def fuS (s : Sd) : Sd := (s.1, s.2.1, (jn s, jb s, true, jv s), s.2.2.2)
def enS (D : Dk) (s : Sd) (b : Nat) : Sd := emS (drS D s b)
def stS (D : Dk) (s : Sd) (b k : Nat) : Sd := if k < D.2.1 b then jrS D s b k else if k = D.2.1 b then fuS s else if k ≤ 2 * D.2.1 b then lyS D s b (k - D.2.1 b - 1) (jv s (k - D.2.1 b - 1)) else enS D s b
def spS (D : Dk) (s : Sd) (b : Nat) : Nat → Sd
  | 0 => s
  | k + 1 => stS D (spS D s b k) b k
theorem st_1 {D : Dk} {s : Sd} {b k : Nat} (h : k < D.2.1 b) : stS D s b k = jrS D s b k := if_pos h
theorem st_2 {D : Dk} {s : Sd} {b k : Nat} (h : k = D.2.1 b) : stS D s b k = fuS s := by unfold stS; rw [if_neg (by omega), if_pos h]
theorem st_3 {D : Dk} {s : Sd} {b k : Nat} (h : D.2.1 b < k) (h2 : k ≤ 2 * D.2.1 b) : stS D s b k = lyS D s b (k - D.2.1 b - 1) (jv s (k - D.2.1 b - 1)) := by unfold stS; rw [if_neg (by omega), if_neg (by omega), if_pos h2]
theorem st_4 {D : Dk} {s : Sd} {b k : Nat} (h1 : 1 ≤ D.2.1 b) (h : 2 * D.2.1 b < k) : stS D s b k = enS D s b := by unfold stS; rw [if_neg (by omega), if_neg (by omega), if_neg (by omega)]
/-- what holds between the steps -/
theorem sp_inv {D : Dk} {s : Sd} {b : Nat} (hD : WFD D) (hW : WFS D s) (hb : b < D.1) (h0 : jn s = 0) (hf : jf s = false) : ∀ k, k ≤ 2 * D.2.1 b + 1 → WFS D (spS D s b k) ∧ jn (spS D s b k) = min k (D.2.1 b) ∧ jf (spS D s b k) = decide (D.2.1 b < k) ∧ (0 < k → jb (spS D s b k) = b) ∧ (spS D s b k).2.1 = s.2.1 ∧ sdn (spS D s b k) = sdn s ∧ (k ≤ D.2.1 b + 1 → (spS D s b k).1 = s.1) := by
  have h8 := hD.2.2.1 b hb
  intro k
  induction k with
  | zero => intro _; exact ⟨hW, by rw [Nat.zero_min]; exact h0, by rw [decide_eq_false (by omega)]; exact hf, fun h => absurd h (Nat.not_lt_zero 0), rfl, rfl, fun _ => rfl⟩
  | succ k ih =>
    intro hk
    obtain ⟨i1, i2, i3, i4, i5, i6, i7⟩ := ih (by omega)
    show WFS D (stS D (spS D s b k) b k) ∧ jn (stS D (spS D s b k) b k) = _ ∧ jf (stS D (spS D s b k) b k) = _ ∧ (_ → jb (stS D (spS D s b k) b k) = _) ∧ (stS D (spS D s b k) b k).2.1 = _ ∧ sdn (stS D (spS D s b k) b k) = _ ∧ (_ → (stS D (spS D s b k) b k).1 = _)
    have e1 : sn (spS D s b k) = sn s := congrArg (fun q => q.1) i5
    rcases Nat.lt_trichotomy k (D.2.1 b) with q | q | q
    · rw [st_1 q]
      have hz : jf (spS D s b k) = false := by rw [i3]; exact decide_eq_false (by omega)
      refine ⟨⟨i1.1, i1.2.1, fun _ => ⟨hb, ?_⟩, fun h => ?_⟩, ?_, ?_, fun _ => rfl, i5, i6, fun _ => i7 (by omega)⟩
      · show jn (spS D s b k) + 1 ≤ D.2.1 b
        rw [i2]; omega
      · have : jf (spS D s b k) = true := h
        rw [hz] at this; cases this
      · show jn (spS D s b k) + 1 = _
        rw [i2]; omega
      · show jf (spS D s b k) = _
        rw [hz, decide_eq_false (by omega)]
    · rw [st_2 q]
      have hj : jb (spS D s b k) = b := i4 (by omega)
      refine ⟨⟨i1.1, i1.2.1, i1.2.2.1, fun _ => ?_⟩, ?_, ?_, fun _ => hj, i5, i6, fun _ => i7 (by omega)⟩
      · show 0 < jn (spS D s b k) ∧ jn (spS D s b k) = D.2.1 (jb (spS D s b k))
        rw [hj, i2]; omega
      · show jn (spS D s b k) = _
        rw [i2]; omega
      · show true = _
        rw [decide_eq_true (by omega)]
    · rw [st_3 q (by omega)]
      refine ⟨i1, ?_, ?_, fun _ => i4 (by omega), i5, i6, fun h => absurd h (by omega)⟩
      · show jn (spS D s b k) = _
        rw [i2]; omega
      · show jf (spS D s b k) = _
        rw [i3, decide_eq_true (by omega), decide_eq_true (by omega)]
theorem sp_end {D : Dk} {s : Sd} {b : Nat} (hD : WFD D) (hb : b < D.1) : spS D s b (2 * D.2.1 b + 2) = enS D (spS D s b (2 * D.2.1 b + 1)) b := st_4 (hD.2.2.1 b hb).1 (by omega)
theorem en_wf {D : Dk} {s : Sd} {b : Nat} (hW : WFS D s) : WFS D (enS D s b) := em_wf (dr_wf hW)
theorem sp_wf {D : Dk} {s : Sd} {b : Nat} (hD : WFD D) (hW : WFS D s) (hb : b < D.1) (h0 : jn s = 0) (hf : jf s = false) {k : Nat} (hk : k ≤ 2 * D.2.1 b + 2) : WFS D (spS D s b k) := by
  rcases Nat.lt_or_ge k (2 * D.2.1 b + 2) with q | q
  · exact (sp_inv hD hW hb h0 hf k (by omega)).1
  · rw [show k = 2 * D.2.1 b + 2 by omega, sp_end hD hb]
    exact en_wf (sp_inv hD hW hb h0 hf _ (by omega)).1
section STEPS
variable {w : Wd} {j a : Nat} {o : Ob} {D : Dk} {s : Sd} {nd : Nat} {f : Nat → Int32}
theorem m_journaled (hD : WFD D) (hS : RMs nd w D) (hW : WFS D s) (hR : RM f s) {b k : Nat} (hb : b < D.1) (hk : k < D.2.1 b) (hj : jn s = k) (hf : jf s = false) : ∃ g : Nat → Int32, fX11_journaled nd (mX w f) (nI b) (nI k) = some ((), mX w g) ∧ RM g (jrS D s b k) := by
  have h3 := dfst_le hb
  have h4 := hD.2.2.2.1
  have h24 := hD.2.1
  have h8 := (hD.2.2.1 b hb).2
  have hn := hW.n24 hD
  have h1 := hS.2.2.1 b hb
  have hR2 : RM (upd f 98 (nI b)) (s.1, s.2.1, (jn s, b, jf s, jv s), s.2.2.2) := by
    refine ⟨fun t ht => ?_, ?_, fun p hp => ?_, fun p hp => ?_, ?_, fun h => upd_at, ?_, fun p hp => ?_, ?_, ?_⟩
    · rw [upd_ne (by omega)]; exact hR.1 t ht
    · rw [upd_ne (by omega)]; exact hR.2.1
    · have : p < sn s := hp
      rw [upd_ne (by omega)]; exact hR.2.2.1 p hp
    · have : p < sn s := hp
      rw [upd_ne (by omega)]; exact hR.2.2.2.1 p hp
    · rw [upd_ne (by omega)]; exact hR.2.2.2.2.1
    · rw [upd_ne (by omega)]; exact hR.2.2.2.2.2.2.1
    · have : p < jn s := hp
      rw [upd_ne (by omega)]; exact hR.2.2.2.2.2.2.2.1 p hp
    · rw [upd_ne (by omega)]; exact hR.2.2.2.2.2.2.2.2.1
    · rw [upd_ne (by omega)]; exact hR.2.2.2.2.2.2.2.2.2
  have hrd := m_readOf (w := w) (nd := nd) hD (s := (s.1, s.2.1, (jn s, b, jf s, jv s), s.2.2.2)) ⟨hW.1, hW.2.1, fun _ => ⟨hb, by show jn s ≤ D.2.1 b; omega⟩, fun h => by
    have h2 : jf s = true := h
    rw [hf] at h2; cases h2⟩ hR2 (t := dfst D.2.1 b + k) (by omega)
  have e99 : f 99 = nI k := by rw [hR.2.2.2.2.1, hj]
  refine ⟨upd (upd (upd (upd f 98 (nI b)) (101 + k) (vaS s (dfst D.2.1 b + k))) 99 (nI (k + 1))) 109 (sct s + nI 1), ?_, ?_⟩
  · unfold fX11_journaled
    simp (disch := first | omega | decide) only [↓mo_1, ↓mo_2, ad_m1, ite_m1_lt, ite_m2_lt, ite_le_m1, ite_eq_m1, ite_eq_m2, ite_m1_m1, ite_m2_m2, ite_T, ite_F, ite_nz, ite_zz, ite_m1_le, ite_m1_eq, oi_none, oi_some, ob_some, lw_def, ck_true, ckp_su, ite_lt_t, ite_lt_f, ite_le_t, ite_le_f, ite_eq_t, ite_eq_f, ck_inb, nI_add, sb_nI, mu_nI, nI_clamp, sO_at, sO_sO, Nat.add_sub_cancel, Nat.zero_add, Nat.add_zero, li_0, li_1, li_2, li_3, li_4, li_5, li_6, li_7, li_8, li_9, li_10, li_11, li_12, li_16, li_20, li_24, li_31, li_32, li_48, li_49, li_73, li_74, li_75, li_97, li_98, li_99, li_100, li_101, li_109, li_110, li_255, li_680, li_700, li_9999, li_65536, li_65537, mX_s, mX_r, h1.1, hrd, mX_x, upd_ne, e99, hR.2.2.2.2.2.2.2.2.2]
    rfl
  · refine ⟨fun t ht => ?_, ?_, fun p hp => ?_, fun p hp => ?_, ?_, fun _ => ?_, ?_, fun p hp => ?_, ?_, upd_at⟩
    · simp (disch := omega) only [upd_ne]; exact hR.1 t ht
    · simp (disch := omega) only [upd_ne]; exact hR.2.1
    · have : p < sn s := hp
      simp (disch := omega) only [upd_ne]; exact hR.2.2.1 p hp
    · have : p < sn s := hp
      simp (disch := omega) only [upd_ne]; exact hR.2.2.2.1 p hp
    · simp (disch := omega) only [upd_ne, upd_at]
      show nI (k + 1) = nI (jn s + 1)
      rw [hj]
    · simp (disch := omega) only [upd_ne, upd_at]; rfl
    · simp (disch := omega) only [upd_ne]; exact hR.2.2.2.2.2.2.1
    · have hp2 : p < jn s + 1 := hp
      show _ = va_up (jv s) k _ p
      by_cases z : p = k
      · subst z
        rw [va_up_self]
        simp (disch := omega) only [upd_ne, upd_at]
      · rw [va_up_ne _ _ z]
        simp (disch := omega) only [upd_ne]
        exact hR.2.2.2.2.2.2.2.1 p (by omega)
    · simp (disch := omega) only [upd_ne]; exact hR.2.2.2.2.2.2.2.2.1
theorem m_ended (hD : WFD D) (hS : RMs nd w D) (hW : WFS D s) (hR : RM f s) {b : Nat} (hb : b < D.1) : ∃ g : Nat → Int32, fX11_ended nd (mX w f) (nI b) = some ((), mX w g) ∧ RM g (enS D s b) := by
  obtain ⟨g, e1, e2⟩ := m_taken hD hS hW hR hb
  obtain ⟨g2, e3, e4⟩ := m_emptied (nd := nd) (w := w) hD (dr_wf (b := b) hW) e2
  refine ⟨g2, ?_, e4⟩
  unfold fX11_ended
  rw [e1, ob_some, e3]
  rfl
theorem m_step (hD : WFD D) (hS : RMs nd w D) (hW : WFS D s) (hR : RM f s) {b k : Nat} (hb : b < D.1) (hk : k ≤ 2 * D.2.1 b + 1) (hj : jn s = min k (D.2.1 b)) (hf : k ≤ D.2.1 b → jf s = false) : ∃ g : Nat → Int32, fX11_step nd (mX w f) (nI b) (nI k) = some ((), mX w g) ∧ RM g (stS D s b k) := by
  have h24 := hD.2.1
  have h8 := hD.2.2.1 b hb
  have hn := hW.n24 hD
  have h1 := hS.2.2.1 b hb
  unfold fX11_step
  rcases Nat.lt_trichotomy k (D.2.1 b) with q | q | q
  · obtain ⟨g, e1, e2⟩ := m_journaled hD hS hW hR hb q (by omega) (hf (by omega))
    rw [st_1 q]
    refine ⟨g, ?_, e2⟩
    simp (disch := first | omega | decide) only [↓mo_1, ↓mo_2, ad_m1, ite_m1_lt, ite_m2_lt, ite_le_m1, ite_eq_m1, ite_eq_m2, ite_m1_m1, ite_m2_m2, ite_T, ite_F, ite_nz, ite_zz, ite_m1_le, ite_m1_eq, oi_none, oi_some, ob_some, lw_def, ck_true, ckp_su, ite_lt_t, ite_lt_f, ite_le_t, ite_le_f, ite_eq_t, ite_eq_f, ck_inb, nI_add, sb_nI, mu_nI, nI_clamp, sO_at, sO_sO, Nat.add_sub_cancel, Nat.zero_add, Nat.add_zero, li_0, li_1, li_2, li_3, li_4, li_5, li_6, li_7, li_8, li_9, li_10, li_11, li_12, li_16, li_20, li_24, li_31, li_32, li_48, li_49, li_73, li_74, li_75, li_97, li_98, li_99, li_100, li_101, li_109, li_110, li_255, li_680, li_700, li_9999, li_65536, li_65537, mX_r, h1.2, e1]
  · rw [st_2 q]
    refine ⟨upd f 100 (nI 1), ?_, ?_⟩
    · simp (disch := first | omega | decide) only [↓mo_1, ↓mo_2, ad_m1, ite_m1_lt, ite_m2_lt, ite_le_m1, ite_eq_m1, ite_eq_m2, ite_m1_m1, ite_m2_m2, ite_T, ite_F, ite_nz, ite_zz, ite_m1_le, ite_m1_eq, oi_none, oi_some, ob_some, lw_def, ck_true, ckp_su, ite_lt_t, ite_lt_f, ite_le_t, ite_le_f, ite_eq_t, ite_eq_f, ck_inb, nI_add, sb_nI, mu_nI, nI_clamp, sO_at, sO_sO, Nat.add_sub_cancel, Nat.zero_add, Nat.add_zero, li_0, li_1, li_2, li_3, li_4, li_5, li_6, li_7, li_8, li_9, li_10, li_11, li_12, li_16, li_20, li_24, li_31, li_32, li_48, li_49, li_73, li_74, li_75, li_97, li_98, li_99, li_100, li_101, li_109, li_110, li_255, li_680, li_700, li_9999, li_65536, li_65537, mX_r, h1.2, mX_s]
    · refine ⟨fun t ht => ?_, ?_, fun p hp => ?_, fun p hp => ?_, ?_, fun h => ?_, upd_at, fun p hp => ?_, ?_, ?_⟩
      · rw [upd_ne (by omega)]; exact hR.1 t ht
      · rw [upd_ne (by omega)]; exact hR.2.1
      · have : p < sn s := hp
        rw [upd_ne (by omega)]; exact hR.2.2.1 p hp
      · have : p < sn s := hp
        rw [upd_ne (by omega)]; exact hR.2.2.2.1 p hp
      · rw [upd_ne (by omega)]; exact hR.2.2.2.2.1
      · rw [upd_ne (by omega)]; exact hR.2.2.2.2.2.1 h
      · have : p < jn s := hp
        rw [upd_ne (by omega)]; exact hR.2.2.2.2.2.2.2.1 p hp
      · rw [upd_ne (by omega)]; exact hR.2.2.2.2.2.2.2.2.1
      · rw [upd_ne (by omega)]; exact hR.2.2.2.2.2.2.2.2.2
  · rcases Nat.lt_or_ge (2 * D.2.1 b) k with q2 | q2
    · obtain ⟨g, e1, e2⟩ := m_ended hD hS hW hR hb
      rw [st_4 (by omega) q2]
      refine ⟨g, ?_, e2⟩
      simp (disch := first | omega | decide) only [↓mo_1, ↓mo_2, ad_m1, ite_m1_lt, ite_m2_lt, ite_le_m1, ite_eq_m1, ite_eq_m2, ite_m1_m1, ite_m2_m2, ite_T, ite_F, ite_nz, ite_zz, ite_m1_le, ite_m1_eq, oi_none, oi_some, ob_some, lw_def, ck_true, ckp_su, ite_lt_t, ite_lt_f, ite_le_t, ite_le_f, ite_eq_t, ite_eq_f, ck_inb, nI_add, sb_nI, mu_nI, nI_clamp, sO_at, sO_sO, Nat.add_sub_cancel, Nat.zero_add, Nat.add_zero, li_0, li_1, li_2, li_3, li_4, li_5, li_6, li_7, li_8, li_9, li_10, li_11, li_12, li_16, li_20, li_24, li_31, li_32, li_48, li_49, li_73, li_74, li_75, li_97, li_98, li_99, li_100, li_101, li_109, li_110, li_255, li_680, li_700, li_9999, li_65536, li_65537, mX_r, h1.2, e1]
    · obtain ⟨g, e1, e2, -⟩ := m_laid (i := k - D.2.1 b - 1) (x := jv s (k - D.2.1 b - 1)) hD hS hW hR hb (by omega)
      rw [st_3 q q2]
      refine ⟨g, ?_, e2⟩
      have h5 := hR.2.2.2.2.2.2.2.1 (k - D.2.1 b - 1) (by omega)
      rw [show 101 + (k - D.2.1 b - 1) = 101 + k - D.2.1 b - 1 by omega] at h5
      simp (disch := first | omega | decide) only [↓mo_1, ↓mo_2, ad_m1, ite_m1_lt, ite_m2_lt, ite_le_m1, ite_eq_m1, ite_eq_m2, ite_m1_m1, ite_m2_m2, ite_T, ite_F, ite_nz, ite_zz, ite_m1_le, ite_m1_eq, oi_none, oi_some, ob_some, lw_def, ck_true, ckp_su, ite_lt_t, ite_lt_f, ite_le_t, ite_le_f, ite_eq_t, ite_eq_f, ck_inb, nI_add, sb_nI, mu_nI, nI_clamp, sO_at, sO_sO, Nat.add_sub_cancel, Nat.zero_add, Nat.add_zero, li_0, li_1, li_2, li_3, li_4, li_5, li_6, li_7, li_8, li_9, li_10, li_11, li_12, li_16, li_20, li_24, li_31, li_32, li_48, li_49, li_73, li_74, li_75, li_97, li_98, li_99, li_100, li_101, li_109, li_110, li_255, li_680, li_700, li_9999, li_65536, li_65537, mX_r, mX_x, h1.2, h5, e1]
theorem m_st (hD : WFD D) (hS : RMs nd w D) (hW : WFS D s) {b kk : Nat} (hb : b < D.1) (hk : kk ≤ 2 * D.2.1 b + 2) (h0 : jn s = 0) (hf : jf s = false) : ∀ r k, k + r = kk → ∀ (m : Nat) (f : Nat → Int32), r < m → RM f (spS D s b k) → ∃ g : Nat → Int32, fX11_stepsTo_2 nd m (mX w f) (nI b) (nI kk) (nI k) = some ((), mX w g) ∧ RM g (spS D s b kk) := by
  have h8 := hD.2.2.1 b hb
  intro r
  induction r with
  | zero =>
    intro k hkk m f hm hR
    obtain ⟨m, rfl⟩ : ∃ z, m = z + 1 := ⟨m - 1, by omega⟩
    have e : k = kk := by omega
    subst e
    refine ⟨f, ?_, hR⟩
    rw [fX11_stepsTo_2.eq_2]
    simp (disch := omega) only [↓mo_1, ↓mo_2, ad_m1, ite_m1_lt, ite_m2_lt, ite_le_m1, ite_eq_m1, ite_eq_m2, ite_m1_m1, ite_m2_m2, ite_T, ite_F, ite_nz, ite_zz, ite_m1_le, ite_m1_eq, oi_none, oi_some, ob_some, lw_def, ck_true, ckp_su, ite_lt_t, ite_lt_f, ite_le_t, ite_le_f, ite_eq_t, ite_eq_f, ck_inb, nI_add, sb_nI, mu_nI, nI_clamp, sO_at, sO_sO, Nat.add_sub_cancel, Nat.zero_add, Nat.add_zero, li_0, li_1, li_2, li_3, li_4, li_5, li_6, li_7, li_8, li_9, li_10, li_11, li_12, li_16, li_20, li_24, li_31, li_32, li_48, li_49, li_73, li_74, li_75, li_97, li_98, li_99, li_100, li_101, li_109, li_110, li_255, li_680, li_700, li_9999, li_65536, li_65537]
  | succ r ih =>
    intro k hkk m f hm hR
    obtain ⟨m, rfl⟩ : ∃ z, m = z + 1 := ⟨m - 1, by omega⟩
    obtain ⟨i1, i2, i3, -⟩ := sp_inv hD hW hb h0 hf k (by omega)
    obtain ⟨g, e1, e2⟩ := m_step hD hS i1 hR hb (k := k) (by omega) i2 (fun q => by rw [i3, decide_eq_false (by omega)])
    obtain ⟨g2, e3, e4⟩ := ih (k + 1) (by omega) m g (by omega) e2
    refine ⟨g2, ?_, e4⟩
    rw [fX11_stepsTo_2.eq_2]
    simp (disch := omega) only [↓mo_1, ↓mo_2, ad_m1, ite_m1_lt, ite_m2_lt, ite_le_m1, ite_eq_m1, ite_eq_m2, ite_m1_m1, ite_m2_m2, ite_T, ite_F, ite_nz, ite_zz, ite_m1_le, ite_m1_eq, oi_none, oi_some, ob_some, lw_def, ck_true, ckp_su, ite_lt_t, ite_lt_f, ite_le_t, ite_le_f, ite_eq_t, ite_eq_f, ck_inb, nI_add, sb_nI, mu_nI, nI_clamp, sO_at, sO_sO, Nat.add_sub_cancel, Nat.zero_add, Nat.add_zero, li_0, li_1, li_2, li_3, li_4, li_5, li_6, li_7, li_8, li_9, li_10, li_11, li_12, li_16, li_20, li_24, li_31, li_32, li_48, li_49, li_73, li_74, li_75, li_97, li_98, li_99, li_100, li_101, li_109, li_110, li_255, li_680, li_700, li_9999, li_65536, li_65537, e1]
    exact e3
theorem m_stepsTo (hD : WFD D) (hS : RMs nd w D) (hW : WFS D s) (hR : RM f s) {b k : Nat} (hb : b < D.1) (hk : k ≤ 2 * D.2.1 b + 2) (h0 : jn s = 0) (hf : jf s = false) : ∃ g : Nat → Int32, fX11_stepsTo nd (mX w f) (nI b) (nI k) = some ((), mX w g) ∧ RM g (spS D s b k) := by
  have h8 := hD.2.2.1 b hb
  exact m_st hD hS hW hb hk h0 hf k 0 (by omega) fuel0 f (by unfold fuel0; omega) hR
end STEPS
