/-! ===== factor ===== -/
theorem sp_c {D : Dk} {s : Sd} {b : Nat} : ∀ k, ∃ c, c ≤ k ∧ sct (spS D s b k) = sct s + nI c
  | 0 => ⟨0, Nat.le_refl _, by show sct s = sct s + nI 0; exact (Int32.add_zero _).symm⟩
  | k + 1 => by
    obtain ⟨c, h1, h2⟩ := sp_c (D := D) (s := s) (b := b) k
    have e : spS D s b (k + 1) = stS D (spS D s b k) b k := rfl
    have p1 : ∀ z : Int32, z = sct s + nI c → z + nI 1 = sct s + nI (c + 1) := fun z hz => by rw [hz, Int32.add_assoc, nI_add]
    rw [e]
    unfold stS
    by_cases a1 : k < D.2.1 b
    · rw [if_pos a1]; exact ⟨c + 1, by omega, p1 _ h2⟩
    · rw [if_neg a1]
      by_cases a2 : k = D.2.1 b
      · rw [if_pos a2]; exact ⟨c, by omega, h2⟩
      · rw [if_neg a2]
        by_cases a3 : k ≤ 2 * D.2.1 b
        · rw [if_pos a3]; exact ⟨c + 1, by omega, p1 _ h2⟩
        · rw [if_neg a3]; exact ⟨c, by omega, h2⟩
theorem go_c {D : Dk} {T : Tk} {S : Int32} (hD : WFD D) (hT : WFT D T) : ∀ k, k ≤ T.2.1.1 → ∃ c, c ≤ 19 * k ∧ sct (goS D T S k) = nI c
  | 0, _ => ⟨0, Nat.le_refl _, rfl⟩
  | k + 1, hk => by
    obtain ⟨c, h1, h2⟩ := go_c (S := S) hD hT k (by omega)
    obtain ⟨g1, g2, g3, -⟩ := go_wf (S := S) hD hT k (by omega)
    have e : sct (goS D T S (k + 1)) = sct (rmS D (goS D T S k)) + nI 1 := rfl
    rw [e]
    unfold rmS
    by_cases a : sn (goS D T S k) = D.2.2.2.1
    · rw [if_pos a]
      cases hb : nbS D (goS D T S k) with
      | none => exact ⟨c + 1, by omega, by show sct (goS D T S k) + nI 1 = _; rw [h2, nI_add]⟩
      | some b =>
        have h8 := (hD.2.2.1 b (nbS_lt hD g1 hb).1).2
        obtain ⟨c2, h3, h4⟩ := sp_c (D := D) (s := goS D T S k) (b := b) (2 * D.2.1 b + 2)
        refine ⟨c + c2 + 1, by omega, ?_⟩
        show sct (spS D (goS D T S k) b (2 * D.2.1 b + 2)) + nI 1 = _
        rw [h4, h2, nI_add, nI_add]
    · rw [if_neg a]; exact ⟨c + 1, by omega, by rw [h2, nI_add]⟩
theorem li_64 : (64 : Int32) = nI 64 := id rfl
theorem gcd_s {a b : Nat} : Nat.gcd b (a % b) = Nat.gcd a b := by
  rw [Nat.gcd_comm b (a % b), ← Nat.gcd_rec, Nat.gcd_comm]
theorem x_gd {w : Wd} : ∀ N b, b ≤ N → ∀ a i, a < 2 ^ 31 → b < 2 ^ 31 → b + i ≤ 64 → ∀ m, b < m → fX9_greatestDivisor_7 m w (nI a) (nI b) (nI i) = some (nI (Nat.gcd a b), w) := by
  intro N
  induction N with
  | zero =>
    intro b hb a i ha hb2 hi m hm
    obtain ⟨m, rfl⟩ : ∃ z, m = z + 1 := ⟨m - 1, by omega⟩
    have e : b = 0 := by omega
    subst e
    rw [fX9_greatestDivisor_7.eq_2, Nat.gcd_zero_right]
    by_cases c : 64 ≤ i
    · simp (disch := omega) only [↓mo_1, ↓mo_2, ad_m1, ite_m1_lt, ite_m2_lt, ite_le_m1, ite_eq_m1, ite_eq_m2, ite_m1_m1, ite_m2_m2, ite_T, ite_F, ite_nz, ite_zz, ite_m1_le, ite_m1_eq, oi_none, oi_some, ob_some, lw_def, ck_true, ckp_su, ite_lt_t, ite_lt_f, ite_le_t, ite_le_f, ite_eq_t, ite_eq_f, ck_inb, nI_add, sb_nI, mu_nI, nI_clamp, sO_at, sO_sO, Nat.add_sub_cancel, Nat.zero_add, Nat.add_zero, li_0, li_1, li_2, li_3, li_4, li_5, li_6, li_7, li_8, li_9, li_10, li_11, li_12, li_16, li_20, li_24, li_31, li_32, li_48, li_49, li_73, li_74, li_75, li_97, li_98, li_99, li_100, li_101, li_109, li_110, li_255, li_680, li_700, li_9999, li_65536, li_65537, li_64]
    · simp (disch := omega) only [↓mo_1, ↓mo_2, ad_m1, ite_m1_lt, ite_m2_lt, ite_le_m1, ite_eq_m1, ite_eq_m2, ite_m1_m1, ite_m2_m2, ite_T, ite_F, ite_nz, ite_zz, ite_m1_le, ite_m1_eq, oi_none, oi_some, ob_some, lw_def, ck_true, ckp_su, ite_lt_t, ite_lt_f, ite_le_t, ite_le_f, ite_eq_t, ite_eq_f, ck_inb, nI_add, sb_nI, mu_nI, nI_clamp, sO_at, sO_sO, Nat.add_sub_cancel, Nat.zero_add, Nat.add_zero, li_0, li_1, li_2, li_3, li_4, li_5, li_6, li_7, li_8, li_9, li_10, li_11, li_12, li_16, li_20, li_24, li_31, li_32, li_48, li_49, li_73, li_74, li_75, li_97, li_98, li_99, li_100, li_101, li_109, li_110, li_255, li_680, li_700, li_9999, li_65536, li_65537, li_64]
  | succ N ih =>
    intro b hb a i ha hb2 hi m hm
    obtain ⟨m, rfl⟩ : ∃ z, m = z + 1 := ⟨m - 1, by omega⟩
    by_cases c0 : b = 0
    · subst c0
      rw [fX9_greatestDivisor_7.eq_2, Nat.gcd_zero_right]
      by_cases c : 64 ≤ i
      · simp (disch := omega) only [↓mo_1, ↓mo_2, ad_m1, ite_m1_lt, ite_m2_lt, ite_le_m1, ite_eq_m1, ite_eq_m2, ite_m1_m1, ite_m2_m2, ite_T, ite_F, ite_nz, ite_zz, ite_m1_le, ite_m1_eq, oi_none, oi_some, ob_some, lw_def, ck_true, ckp_su, ite_lt_t, ite_lt_f, ite_le_t, ite_le_f, ite_eq_t, ite_eq_f, ck_inb, nI_add, sb_nI, mu_nI, nI_clamp, sO_at, sO_sO, Nat.add_sub_cancel, Nat.zero_add, Nat.add_zero, li_0, li_1, li_2, li_3, li_4, li_5, li_6, li_7, li_8, li_9, li_10, li_11, li_12, li_16, li_20, li_24, li_31, li_32, li_48, li_49, li_73, li_74, li_75, li_97, li_98, li_99, li_100, li_101, li_109, li_110, li_255, li_680, li_700, li_9999, li_65536, li_65537, li_64]
      · simp (disch := omega) only [↓mo_1, ↓mo_2, ad_m1, ite_m1_lt, ite_m2_lt, ite_le_m1, ite_eq_m1, ite_eq_m2, ite_m1_m1, ite_m2_m2, ite_T, ite_F, ite_nz, ite_zz, ite_m1_le, ite_m1_eq, oi_none, oi_some, ob_some, lw_def, ck_true, ckp_su, ite_lt_t, ite_lt_f, ite_le_t, ite_le_f, ite_eq_t, ite_eq_f, ck_inb, nI_add, sb_nI, mu_nI, nI_clamp, sO_at, sO_sO, Nat.add_sub_cancel, Nat.zero_add, Nat.add_zero, li_0, li_1, li_2, li_3, li_4, li_5, li_6, li_7, li_8, li_9, li_10, li_11, li_12, li_16, li_20, li_24, li_31, li_32, li_48, li_49, li_73, li_74, li_75, li_97, li_98, li_99, li_100, li_101, li_109, li_110, li_255, li_680, li_700, li_9999, li_65536, li_65537, li_64]
    · have hr := Nat.mod_lt a (show b > 0 by omega)
      have h2 := ih (a % b) (by omega) b (i + 1) hb2 (by omega) (by omega) m (by omega)
      rw [gcd_s] at h2
      rw [fX9_greatestDivisor_7.eq_2]
      simp (disch := omega) only [↓mo_1, ↓mo_2, ad_m1, ite_m1_lt, ite_m2_lt, ite_le_m1, ite_eq_m1, ite_eq_m2, ite_m1_m1, ite_m2_m2, ite_T, ite_F, ite_nz, ite_zz, ite_m1_le, ite_m1_eq, oi_none, oi_some, ob_some, lw_def, ck_true, ckp_su, ite_lt_t, ite_lt_f, ite_le_t, ite_le_f, ite_eq_t, ite_eq_f, ck_inb, nI_add, nI_clamp, sO_at, sO_sO, Nat.add_sub_cancel, Nat.zero_add, Nat.add_zero, li_0, li_1, li_2, li_3, li_4, li_5, li_6, li_7, li_8, li_9, li_10, li_11, li_12, li_16, li_20, li_24, li_31, li_32, li_48, li_49, li_73, li_74, li_75, li_97, li_98, li_99, li_100, li_101, li_109, li_110, li_255, li_680, li_700, li_9999, li_65536, li_65537, li_64, pk_rem]
      exact h2
theorem lN_0 : (0 : Int64) = lN 0 := id rfl
theorem lN_o : (1 : Int64) = lN 1 := id rfl
theorem cmp_0 {α : Type} {x y : α} {a : Nat} {inst : Decidable (lg_cmp (lN a) (lN 0) = nI 0)} (h : a = 0) : @ite _ (lg_cmp (lN a) (lN 0) = nI 0) inst x y = x := if_pos (by rw [h]; exact (lg_cmp_eq _ _).mpr rfl)
theorem cmp_1 {α : Type} {x y : α} {a : Nat} {inst : Decidable (lg_cmp (lN a) (lN 0) = nI 0)} (h : a ≠ 0) (ha : a < 2 ^ 31) : @ite _ (lg_cmp (lN a) (lN 0) = nI 0) inst x y = y := if_neg (fun e => h ((lN_eq ha (by omega)).mp ((lg_cmp_eq _ _).mp e)))
theorem l_ne {α : Type} {x y : α} {a : Nat} {inst : Decidable (lN a = lN 0)} (h : a ≠ 0) (ha : a < 2 ^ 31) : @ite _ (lN a = lN 0) inst x y = y := if_neg (fun e => h ((lN_eq ha (by omega)).mp e))
theorem m_cm {w : Wd} {nd : Nat} : ∀ N b, b ≤ N → ∀ a, a < 2 ^ 31 → b < 2 ^ 31 → ∀ m, b < m → fX11_common_6 nd m w (lN a) (lN b) = some (lN (Nat.gcd a b), w) := by
  intro N
  induction N with
  | zero =>
    intro b hb a ha hb2 m hm
    obtain ⟨m, rfl⟩ : ∃ z, m = z + 1 := ⟨m - 1, by omega⟩
    have e : b = 0 := by omega
    subst e
    rw [fX11_common_6.eq_2, Nat.gcd_zero_right]
    simp (disch := omega) only [↓mo_1, ↓mo_2, ad_m1, ite_m1_lt, ite_m2_lt, ite_le_m1, ite_eq_m1, ite_eq_m2, ite_m1_m1, ite_m2_m2, ite_T, ite_F, ite_nz, ite_zz, ite_m1_le, ite_m1_eq, oi_none, oi_some, ob_some, lw_def, ck_true, ckp_su, ite_lt_t, ite_lt_f, ite_le_t, ite_le_f, ite_eq_t, ite_eq_f, ck_inb, nI_add, sb_nI, mu_nI, nI_clamp, sO_at, sO_sO, Nat.add_sub_cancel, Nat.zero_add, Nat.add_zero, li_0, li_1, li_2, li_3, li_4, li_5, li_6, li_7, li_8, li_9, li_10, li_11, li_12, li_16, li_20, li_24, li_31, li_32, li_48, li_49, li_73, li_74, li_75, li_97, li_98, li_99, li_100, li_101, li_109, li_110, li_255, li_680, li_700, li_9999, li_65536, li_65537, lN_0, cmp_0]
  | succ N ih =>
    intro b hb a ha hb2 m hm
    obtain ⟨m, rfl⟩ : ∃ z, m = z + 1 := ⟨m - 1, by omega⟩
    by_cases c0 : b = 0
    · subst c0
      rw [fX11_common_6.eq_2, Nat.gcd_zero_right]
      simp (disch := omega) only [↓mo_1, ↓mo_2, ad_m1, ite_m1_lt, ite_m2_lt, ite_le_m1, ite_eq_m1, ite_eq_m2, ite_m1_m1, ite_m2_m2, ite_T, ite_F, ite_nz, ite_zz, ite_m1_le, ite_m1_eq, oi_none, oi_some, ob_some, lw_def, ck_true, ckp_su, ite_lt_t, ite_lt_f, ite_le_t, ite_le_f, ite_eq_t, ite_eq_f, ck_inb, nI_add, sb_nI, mu_nI, nI_clamp, sO_at, sO_sO, Nat.add_sub_cancel, Nat.zero_add, Nat.add_zero, li_0, li_1, li_2, li_3, li_4, li_5, li_6, li_7, li_8, li_9, li_10, li_11, li_12, li_16, li_20, li_24, li_31, li_32, li_48, li_49, li_73, li_74, li_75, li_97, li_98, li_99, li_100, li_101, li_109, li_110, li_255, li_680, li_700, li_9999, li_65536, li_65537, lN_0, cmp_0]
    · have hr := Nat.mod_lt a (show b > 0 by omega)
      have h2 := ih (a % b) (by omega) b hb2 (by omega) m (by omega)
      rw [gcd_s] at h2
      rw [fX11_common_6.eq_2]
      simp (disch := omega) only [↓mo_1, ↓mo_2, ad_m1, ite_m1_lt, ite_m2_lt, ite_le_m1, ite_eq_m1, ite_eq_m2, ite_m1_m1, ite_m2_m2, ite_T, ite_F, ite_nz, ite_zz, ite_m1_le, ite_m1_eq, oi_none, oi_some, ob_some, lw_def, ck_true, ckp_su, ite_lt_t, ite_lt_f, ite_le_t, ite_le_f, ite_eq_t, ite_eq_f, ck_inb, nI_add, sb_nI, mu_nI, nI_clamp, sO_at, sO_sO, Nat.add_sub_cancel, Nat.zero_add, Nat.add_zero, li_0, li_1, li_2, li_3, li_4, li_5, li_6, li_7, li_8, li_9, li_10, li_11, li_12, li_16, li_20, li_24, li_31, li_32, li_48, li_49, li_73, li_74, li_75, li_97, li_98, li_99, li_100, li_101, li_109, li_110, li_255, li_680, li_700, li_9999, li_65536, li_65537, lN_0, cmp_1, l_ne, pk_lRem]
      exact h2
theorem m_fraction {w : Wd} {nd a b : Nat} {x : Int32} (ha : a < 2 ^ 31) (h0 : 0 < b) (hb : b < 10000) : fX11_fraction nd w (lN a) (lN b) x = some (if x = nI 0 then lN (a / Nat.gcd a b) else lN (b / Nat.gcd a b), mT w (nI 0)) := by
  have hg : 0 < Nat.gcd a b := Nat.gcd_pos_of_pos_right a h0
  have hg2 : Nat.gcd a b ≤ b := Nat.gcd_le_right a h0
  have e1 : fX11_common nd (mT w (nI 0)) (lN a) (lN b) = some (lN (Nat.gcd a b), mT w (nI 0)) := m_cm b b (Nat.le_refl _) a ha (by omega) fuel0 (by unfold fuel0; omega)
  unfold fX11_fraction
  by_cases c : x = nI 0
  · rw [if_pos c, c]
    simp (disch := omega) only [↓mo_1, ↓mo_2, ad_m1, ite_m1_lt, ite_m2_lt, ite_le_m1, ite_eq_m1, ite_eq_m2, ite_m1_m1, ite_m2_m2, ite_T, ite_F, ite_nz, ite_zz, ite_m1_le, ite_m1_eq, oi_none, oi_some, ob_some, lw_def, ck_true, ckp_su, ite_lt_t, ite_lt_f, ite_le_t, ite_le_f, ite_eq_t, ite_eq_f, ck_inb, nI_add, sb_nI, mu_nI, nI_clamp, sO_at, sO_sO, Nat.add_sub_cancel, Nat.zero_add, Nat.add_zero, li_0, li_1, li_2, li_3, li_4, li_5, li_6, li_7, li_8, li_9, li_10, li_11, li_12, li_16, li_20, li_24, li_31, li_32, li_48, li_49, li_73, li_74, li_75, li_97, li_98, li_99, li_100, li_101, li_109, li_110, li_255, li_680, li_700, li_9999, li_65536, li_65537, m_good, e1, lN_0, l_ne, pk_lDiv]
  · rw [if_neg c]
    simp (disch := omega) only [↓mo_1, ↓mo_2, ad_m1, ite_m1_lt, ite_m2_lt, ite_le_m1, ite_eq_m1, ite_eq_m2, ite_m1_m1, ite_m2_m2, ite_T, ite_F, ite_nz, ite_zz, ite_m1_le, ite_m1_eq, oi_none, oi_some, ob_some, lw_def, ck_true, ckp_su, ite_lt_t, ite_lt_f, ite_le_t, ite_le_f, ite_eq_t, ite_eq_f, ck_inb, nI_add, sb_nI, mu_nI, nI_clamp, sO_at, sO_sO, Nat.add_sub_cancel, Nat.zero_add, Nat.add_zero, li_0, li_1, li_2, li_3, li_4, li_5, li_6, li_7, li_8, li_9, li_10, li_11, li_12, li_16, li_20, li_24, li_31, li_32, li_48, li_49, li_73, li_74, li_75, li_97, li_98, li_99, li_100, li_101, li_109, li_110, li_255, li_680, li_700, li_9999, li_65536, li_65537, m_good, e1, lN_0, l_ne, pk_lDiv]
    rw [if_neg c]
theorem q_factor {x : Int32} : Qy (fun w => fX9_factor w x) (fun nd w => fX11_factor nd w x) := by
  intro d hd
  cases d with
  | none =>
    refine ⟨m1.toInt64, 1, by omega, by omega, fun w q hq hp hX => ⟨w, XS.rf, ?_⟩, fun nd w w1 e hM => ⟨w1, SM.rf, ?_⟩⟩
    · unfold fX9_factor
      simp (disch := omega) only [↓mo_1, ↓mo_2, ad_m1, ite_m1_lt, ite_m2_lt, ite_le_m1, ite_eq_m1, ite_eq_m2, ite_m1_m1, ite_m2_m2, ite_T, ite_F, ite_nz, ite_zz, ite_m1_le, ite_m1_eq, oi_none, oi_some, ob_some, lw_def, ck_true, ckp_su, ite_lt_t, ite_lt_f, ite_le_t, ite_le_f, ite_eq_t, ite_eq_f, ck_inb, nI_add, sb_nI, mu_nI, nI_clamp, sO_at, sO_sO, Nat.add_sub_cancel, Nat.zero_add, Nat.add_zero, li_0, li_1, li_2, li_3, li_4, li_5, li_6, li_7, li_8, li_9, li_10, li_11, li_12, li_16, li_20, li_24, li_31, li_32, li_48, li_49, li_73, li_74, li_75, li_97, li_98, li_99, li_100, li_101, li_109, li_110, li_255, li_680, li_700, li_9999, li_65536, li_65537, x_hD0 hp hq hX.1.1, x_refuse]
    · unfold fX11_factor
      simp (disch := omega) only [↓mo_1, ↓mo_2, ad_m1, ite_m1_lt, ite_m2_lt, ite_le_m1, ite_eq_m1, ite_eq_m2, ite_m1_m1, ite_m2_m2, ite_T, ite_F, ite_nz, ite_zz, ite_m1_le, ite_m1_eq, oi_none, oi_some, ob_some, lw_def, ck_true, ckp_su, ite_lt_t, ite_lt_f, ite_le_t, ite_le_f, ite_eq_t, ite_eq_f, ck_inb, nI_add, sb_nI, mu_nI, nI_clamp, sO_at, sO_sO, Nat.add_sub_cancel, Nat.zero_add, Nat.add_zero, li_0, li_1, li_2, li_3, li_4, li_5, li_6, li_7, li_8, li_9, li_10, li_11, li_12, li_16, li_20, li_24, li_31, li_32, li_48, li_49, li_73, li_74, li_75, li_97, li_98, li_99, li_100, li_101, li_109, li_110, li_255, li_680, li_700, li_9999, li_65536, li_65537, ← e, show (w1 11 0).2.2.1 3 = 0 from hM, m_refused]
  | some z =>
    obtain ⟨D, T, s, h, im⟩ := z
    obtain ⟨hD, h6, hT, hW, hQ, hH, hI⟩ := hd
    have hb1 := hD.1
    have h16 := hT.2.1.1
    obtain ⟨c, hc, hct⟩ := go_c (S := nI 0) hD hT T.2.1.1 (Nat.le_refl _)
    by_cases hr : T.2.1.1 = 0
    · have hc0 : c = 0 := by omega
      subst hc0
      refine ⟨if x = nI 0 then lN 0 else lN 1, 0, by omega, by omega, fun w q hq hp hX => ?_, fun nd w w1 e ⟨d, b1, b2, b3, b4, b5, b6⟩ => ?_⟩
      · obtain ⟨o2, e1, e2, e3⟩ := x_run0 (S := nI 0) hD hT hq hp hX
        refine ⟨sO w 7 1 o2, XS.t, ?_⟩
        have hp2 : (sO w 7 1 o2 9 0).2.2.1 2 = q + 1 := by rw [sO_nc (by decide)]; exact hp
        have hw2 : (sO w 7 1 o2 3 (4 * q + 1)).1 2 = nI 0 := by rw [sO_nc (by decide), hX.2.1.2.1.1, hr]
        have hg : fX9_greatestDivisor (sO w 7 1 o2) (nI 0) (nI 0) = some (nI 0, sO w 7 1 o2) := x_gd 0 0 (Nat.le_refl _) 0 0 (by omega) (by omega) (by omega) fuel0 (by unfold fuel0; omega)
        have hf : ∀ w : Wd, fX9_factor_61 w x = some (if x = nI 0 then lN 0 else lN 1, sI w 9 0 13 (nI 0)) := fun w => by
          unfold fX9_factor_61
          by_cases cx : x = nI 0
          · rw [if_pos cx, cx]
            simp (disch := omega) only [↓mo_1, ↓mo_2, ad_m1, ite_m1_lt, ite_m2_lt, ite_le_m1, ite_eq_m1, ite_eq_m2, ite_m1_m1, ite_m2_m2, ite_T, ite_F, ite_nz, ite_zz, ite_m1_le, ite_m1_eq, oi_none, oi_some, ob_some, lw_def, ck_true, ckp_su, ite_lt_t, ite_lt_f, ite_le_t, ite_le_f, ite_eq_t, ite_eq_f, ck_inb, nI_add, sb_nI, mu_nI, nI_clamp, sO_at, sO_sO, Nat.add_sub_cancel, Nat.zero_add, Nat.add_zero, li_0, li_1, li_2, li_3, li_4, li_5, li_6, li_7, li_8, li_9, li_10, li_11, li_12, li_16, li_20, li_24, li_31, li_32, li_48, li_49, li_73, li_74, li_75, li_97, li_98, li_99, li_100, li_101, li_109, li_110, li_255, li_680, li_700, li_9999, li_65536, li_65537, x_accept, nI_l]
          · rw [if_neg cx]
            simp (disch := omega) only [↓mo_1, ↓mo_2, ad_m1, ite_m1_lt, ite_m2_lt, ite_le_m1, ite_eq_m1, ite_eq_m2, ite_m1_m1, ite_m2_m2, ite_T, ite_F, ite_nz, ite_zz, ite_m1_le, ite_m1_eq, oi_none, oi_some, ob_some, lw_def, ck_true, ckp_su, ite_lt_t, ite_lt_f, ite_le_t, ite_le_f, ite_eq_t, ite_eq_f, ck_inb, nI_add, sb_nI, mu_nI, nI_clamp, sO_at, sO_sO, Nat.add_sub_cancel, Nat.zero_add, Nat.add_zero, li_0, li_1, li_2, li_3, li_4, li_5, li_6, li_7, li_8, li_9, li_10, li_11, li_12, li_16, li_20, li_24, li_31, li_32, li_48, li_49, li_73, li_74, li_75, li_97, li_98, li_99, li_100, li_101, li_109, li_110, li_255, li_680, li_700, li_9999, li_65536, li_65537, x_accept, nI_l]
            rw [if_neg cx]
        unfold fX9_factor
        simp (disch := omega) only [↓mo_1, ↓mo_2, ad_m1, ite_m1_lt, ite_m2_lt, ite_le_m1, ite_eq_m1, ite_eq_m2, ite_m1_m1, ite_m2_m2, ite_T, ite_F, ite_nz, ite_zz, ite_m1_le, ite_m1_eq, oi_none, oi_some, ob_some, lw_def, ck_true, ckp_su, ite_lt_t, ite_lt_f, ite_le_t, ite_le_f, ite_eq_t, ite_eq_f, ck_inb, nI_add, sb_nI, mu_nI, nI_clamp, sO_at, sO_sO, Nat.add_sub_cancel, Nat.zero_add, Nat.add_zero, li_0, li_1, li_2, li_3, li_4, li_5, li_6, li_7, li_8, li_9, li_10, li_11, li_12, li_16, li_20, li_24, li_31, li_32, li_48, li_49, li_73, li_74, li_75, li_97, li_98, li_99, li_100, li_101, li_109, li_110, li_255, li_680, li_700, li_9999, li_65536, li_65537, x_hD1 hp hq hX.1.2.2.1 hD.1 (by omega), hp, e1, e2.2.2.2.2.2.2.2.2.2, hct, hp2, hw2, hg, hf]
      · obtain ⟨w3, g3, c1, c2, c3, c4⟩ := m_runs hD hT b2 b1 b3 b4
        refine ⟨mX w3 g3, c4.tr SM.x, ?_⟩
        have hp3 : (w3 11 0).2.2.1 3 = d + 1 := by rw [c4.2.1]; exact b1
        have h5 : (w3 10 d).1 5 = nI 0 := by rw [c4.1 10 d (by omega), b4.2.2.1.1, hr]
        have e109 : g3 109 = nI 0 := by rw [c2.2.2.2.2.2.2.2.2.2, hct]
        unfold fX11_factor
        simp (disch := omega) only [↓mo_1, ↓mo_2, ad_m1, ite_m1_lt, ite_m2_lt, ite_le_m1, ite_eq_m1, ite_eq_m2, ite_m1_m1, ite_m2_m2, ite_T, ite_F, ite_nz, ite_zz, ite_m1_le, ite_m1_eq, oi_none, oi_some, ob_some, lw_def, ck_true, ckp_su, ite_lt_t, ite_lt_f, ite_le_t, ite_le_f, ite_eq_t, ite_eq_f, ck_inb, nI_add, sb_nI, mu_nI, nI_clamp, sO_at, sO_sO, Nat.add_sub_cancel, Nat.zero_add, Nat.add_zero, li_0, li_1, li_2, li_3, li_4, li_5, li_6, li_7, li_8, li_9, li_10, li_11, li_12, li_16, li_20, li_24, li_31, li_32, li_48, li_49, li_73, li_74, li_75, li_97, li_98, li_99, li_100, li_101, li_109, li_110, li_255, li_680, li_700, li_9999, li_65536, li_65537, ← e, b1, c1, mX_x, e109, mX_p, hp3, mX_10, h5, nI_l, lN_o, m_fraction]
        rfl
    · refine ⟨if x = nI 0 then lN (c / Nat.gcd c T.2.1.1) else lN (T.2.1.1 / Nat.gcd c T.2.1.1), 0, by omega, by omega, fun w q hq hp hX => ?_, fun nd w w1 e ⟨d, b1, b2, b3, b4, b5, b6⟩ => ?_⟩
      · obtain ⟨o2, e1, e2, e3⟩ := x_run0 (S := nI 0) hD hT hq hp hX
        refine ⟨sO w 7 1 o2, XS.t, ?_⟩
        have hp2 : (sO w 7 1 o2 9 0).2.2.1 2 = q + 1 := by rw [sO_nc (by decide)]; exact hp
        have hw2 : (sO w 7 1 o2 3 (4 * q + 1)).1 2 = nI T.2.1.1 := by rw [sO_nc (by decide)]; exact hX.2.1.2.1.1
        have hg : fX9_greatestDivisor (sO w 7 1 o2) (nI c) (nI T.2.1.1) = some (nI (Nat.gcd c T.2.1.1), sO w 7 1 o2) := x_gd T.2.1.1 T.2.1.1 (Nat.le_refl _) c 0 (by omega) (by omega) (by omega) fuel0 (by unfold fuel0; omega)
        have hg0 : 0 < Nat.gcd c T.2.1.1 := Nat.gcd_pos_of_pos_right c (by omega)
        have hg1 : Nat.gcd c T.2.1.1 ≤ T.2.1.1 := Nat.gcd_le_right c (by omega)
        have d1 : c / Nat.gcd c T.2.1.1 ≤ c := Nat.div_le_self _ _
        have d2 : T.2.1.1 / Nat.gcd c T.2.1.1 ≤ T.2.1.1 := Nat.div_le_self _ _
        unfold fX9_factor
        by_cases cx : x = nI 0
        · rw [if_pos cx, cx]
          simp (disch := omega) only [↓mo_1, ↓mo_2, ad_m1, ite_m1_lt, ite_m2_lt, ite_le_m1, ite_eq_m1, ite_eq_m2, ite_m1_m1, ite_m2_m2, ite_T, ite_F, ite_nz, ite_zz, ite_m1_le, ite_m1_eq, oi_none, oi_some, ob_some, lw_def, ck_true, ckp_su, ite_lt_t, ite_lt_f, ite_le_t, ite_le_f, ite_eq_t, ite_eq_f, ck_inb, nI_add, sb_nI, mu_nI, nI_clamp, sO_at, sO_sO, Nat.add_sub_cancel, Nat.zero_add, Nat.add_zero, li_0, li_1, li_2, li_3, li_4, li_5, li_6, li_7, li_8, li_9, li_10, li_11, li_12, li_16, li_20, li_24, li_31, li_32, li_48, li_49, li_73, li_74, li_75, li_97, li_98, li_99, li_100, li_101, li_109, li_110, li_255, li_680, li_700, li_9999, li_65536, li_65537, x_hD1 hp hq hX.1.2.2.1 hD.1 (by omega), hp, e1, e2.2.2.2.2.2.2.2.2.2, hct, hp2, hw2, hg, pk_div, x_accept, nI_l]
        · rw [if_neg cx]
          simp (disch := omega) only [↓mo_1, ↓mo_2, ad_m1, ite_m1_lt, ite_m2_lt, ite_le_m1, ite_eq_m1, ite_eq_m2, ite_m1_m1, ite_m2_m2, ite_T, ite_F, ite_nz, ite_zz, ite_m1_le, ite_m1_eq, oi_none, oi_some, ob_some, lw_def, ck_true, ckp_su, ite_lt_t, ite_lt_f, ite_le_t, ite_le_f, ite_eq_t, ite_eq_f, ck_inb, nI_add, sb_nI, mu_nI, nI_clamp, sO_at, sO_sO, Nat.add_sub_cancel, Nat.zero_add, Nat.add_zero, li_0, li_1, li_2, li_3, li_4, li_5, li_6, li_7, li_8, li_9, li_10, li_11, li_12, li_16, li_20, li_24, li_31, li_32, li_48, li_49, li_73, li_74, li_75, li_97, li_98, li_99, li_100, li_101, li_109, li_110, li_255, li_680, li_700, li_9999, li_65536, li_65537, x_hD1 hp hq hX.1.2.2.1 hD.1 (by omega), hp, e1, e2.2.2.2.2.2.2.2.2.2, hct, hp2, hw2, hg, pk_div, x_accept, nI_l]
          rw [if_neg cx]
      · obtain ⟨w3, g3, c1, c2, c3, c4⟩ := m_runs hD hT b2 b1 b3 b4
        refine ⟨mX w3 g3, c4.tr SM.x, ?_⟩
        have hp3 : (w3 11 0).2.2.1 3 = d + 1 := by rw [c4.2.1]; exact b1
        have h5 : (w3 10 d).1 5 = nI T.2.1.1 := by rw [c4.1 10 d (by omega)]; exact b4.2.2.1.1
        have e109 : g3 109 = nI c := by rw [c2.2.2.2.2.2.2.2.2.2, hct]
        unfold fX11_factor
        simp (disch := omega) only [↓mo_1, ↓mo_2, ad_m1, ite_m1_lt, ite_m2_lt, ite_le_m1, ite_eq_m1, ite_eq_m2, ite_m1_m1, ite_m2_m2, ite_T, ite_F, ite_nz, ite_zz, ite_m1_le, ite_m1_eq, oi_none, oi_some, ob_some, lw_def, ck_true, ckp_su, ite_lt_t, ite_lt_f, ite_le_t, ite_le_f, ite_eq_t, ite_eq_f, ck_inb, nI_add, sb_nI, mu_nI, nI_clamp, sO_at, sO_sO, Nat.add_sub_cancel, Nat.zero_add, Nat.add_zero, li_0, li_1, li_2, li_3, li_4, li_5, li_6, li_7, li_8, li_9, li_10, li_11, li_12, li_16, li_20, li_24, li_31, li_32, li_48, li_49, li_73, li_74, li_75, li_97, li_98, li_99, li_100, li_101, li_109, li_110, li_255, li_680, li_700, li_9999, li_65536, li_65537, ← e, b1, c1, mX_x, e109, mX_p, hp3, mX_10, h5, nI_l, m_fraction]
