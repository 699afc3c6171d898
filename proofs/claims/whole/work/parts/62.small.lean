/-! ===== fault, where, trouble, size, feed ===== -/
section SMALL
variable {w w1 : Wd} {nd : Nat} {A : Ab}
theorem MRel.sm (h : MRel nd w A) (hs : SM w w1) : MRel nd w1 A := by
  obtain ⟨h1, h2, h3, h4, h5, h6⟩ := h
  exact ⟨by rw [hs.2.2.1 1 (by decide)]; exact h1, by rw [hs.2.2.1 12 (by decide)]; exact h2, by rw [hs.2.2.1 2 (by decide)]; exact h3, by rw [hs.2.2.1 6 (by decide)]; exact h4, by rw [hs.2.2.2 5 (by decide)]; exact h5, h6.sm hs⟩
theorem c_fault : Cl (fun w => fX9_fault w) (fun nd w => fX11_fault nd w) := by
  intro A hA
  refine ⟨A.2.1, A, hA, fun w hw => ⟨w, ?_, hw, fun _ _ _ => rfl⟩, fun nd w hw => ⟨sI w 11 0 0 (nI 0), ?_, hw.sm (SM.i (by decide)), (SM.i (by decide)).fm⟩⟩
  · obtain ⟨q, a1, a2, a3, a4, a5, a6⟩ := hw
    show fX9_fault w = _
    unfold fX9_fault
    rw [a5]
  · unfold fX11_fault
    simp (disch := omega) only [↓mo_1, ↓mo_2, ad_m1, ite_m1_lt, ite_m2_lt, ite_le_m1, ite_eq_m1, ite_eq_m2, ite_m1_m1, ite_m2_m2, ite_T, ite_F, ite_nz, ite_zz, ite_m1_le, ite_m1_eq, oi_none, oi_some, ob_some, lw_def, ck_true, ckp_su, ite_lt_t, ite_lt_f, ite_le_t, ite_le_f, ite_eq_t, ite_eq_f, ck_inb, nI_add, sb_nI, mu_nI, nI_clamp, sO_at, sO_sO, Nat.add_sub_cancel, Nat.zero_add, Nat.add_zero, li_0, li_1, li_2, li_3, li_4, li_5, li_6, li_7, li_8, li_9, li_10, li_11, li_12, li_16, li_20, li_24, li_31, li_32, li_48, li_49, li_73, li_74, li_75, li_97, li_98, li_99, li_100, li_101, li_109, li_110, li_255, li_680, li_700, li_9999, li_65536, li_65537]
    rw [sI_n (by decide), hw.2.1]
theorem c_trouble : Cl (fun w => fX9_trouble w) (fun nd w => fX11_trouble nd w) := by
  intro A hA
  refine ⟨A.1, A, hA, fun w hw => ⟨w, ?_, hw, fun _ _ _ => rfl⟩, fun nd w hw => ⟨sI w 11 0 0 (nI 0), ?_, hw.sm (SM.i (by decide)), (SM.i (by decide)).fm⟩⟩
  · obtain ⟨q, a1, a2, a3, a4, a5, a6⟩ := hw
    show fX9_trouble w = _
    unfold fX9_trouble
    rw [a4]
  · unfold fX11_trouble
    simp (disch := omega) only [↓mo_1, ↓mo_2, ad_m1, ite_m1_lt, ite_m2_lt, ite_le_m1, ite_eq_m1, ite_eq_m2, ite_m1_m1, ite_m2_m2, ite_T, ite_F, ite_nz, ite_zz, ite_m1_le, ite_m1_eq, oi_none, oi_some, ob_some, lw_def, ck_true, ckp_su, ite_lt_t, ite_lt_f, ite_le_t, ite_le_f, ite_eq_t, ite_eq_f, ck_inb, nI_add, sb_nI, mu_nI, nI_clamp, sO_at, sO_sO, Nat.add_sub_cancel, Nat.zero_add, Nat.add_zero, li_0, li_1, li_2, li_3, li_4, li_5, li_6, li_7, li_8, li_9, li_10, li_11, li_12, li_16, li_20, li_24, li_31, li_32, li_48, li_49, li_73, li_74, li_75, li_97, li_98, li_99, li_100, li_101, li_109, li_110, li_255, li_680, li_700, li_9999, li_65536, li_65537]
    rw [sI_n (by decide), hw.1]
theorem c_where : Cl (fun w => fX9_where w) (fun nd w => fX11_where nd w) := by
  intro A hA
  refine ⟨if A.1 = nI 4 then A.2.2.1 else m1, A, hA, fun w hw => ⟨w, ?_, hw, fun _ _ _ => rfl⟩, fun nd w hw => ⟨sI w 11 0 0 (nI 0), ?_, hw.sm (SM.i (by decide)), (SM.i (by decide)).fm⟩⟩
  · obtain ⟨q, a1, a2, a3, a4, a5, a6, -⟩ := hw
    show fX9_where w = _
    unfold fX9_where
    rw [a4, a6]
    by_cases c : A.1 = nI 4
    · rw [if_pos c]; exact if_pos c
    · rw [if_neg c]; exact if_neg c
  · unfold fX11_where
    simp (disch := omega) only [↓mo_1, ↓mo_2, ad_m1, ite_m1_lt, ite_m2_lt, ite_le_m1, ite_eq_m1, ite_eq_m2, ite_m1_m1, ite_m2_m2, ite_T, ite_F, ite_nz, ite_zz, ite_m1_le, ite_m1_eq, oi_none, oi_some, ob_some, lw_def, ck_true, ckp_su, ite_lt_t, ite_lt_f, ite_le_t, ite_le_f, ite_eq_t, ite_eq_f, ck_inb, nI_add, sb_nI, mu_nI, nI_clamp, sO_at, sO_sO, Nat.add_sub_cancel, Nat.zero_add, Nat.add_zero, li_0, li_1, li_2, li_3, li_4, li_5, li_6, li_7, li_8, li_9, li_10, li_11, li_12, li_16, li_20, li_24, li_31, li_32, li_48, li_49, li_73, li_74, li_75, li_97, li_98, li_99, li_100, li_101, li_109, li_110, li_255, li_680, li_700, li_9999, li_65536, li_65537]
    rw [sI_n (by decide), hw.2.2.1]
/-- a question that doesn't tell trouble -/
def Qn (F : Wd → Option (Int32 × Wd)) (H : Nat → Wd → Option (Int32 × Wd)) : Prop := ∀ n d, n ≤ 700 → DOK d → ∃ r, (∀ w q, q < 2 → (w 9 0).2.2.1 2 = q + 1 → (w 9 0).1 1 = nI n → XD w q d → F w = some (r, w)) ∧ ∀ nd w w1, w1 = sI w 11 0 0 (nI 0) → (w1 11 0).1 6 = nI n → MD nd w1 d → H nd w = some (r, w1)
theorem Qn.cl {F : Wd → Option (Int32 × Wd)} {H : Nat → Wd → Option (Int32 × Wd)} (h : Qn F H) : Cl F H := by
  intro A hA
  obtain ⟨r, h1, h2⟩ := h A.2.2.2.1.1 A.2.2.2.2 hA.1 hA.2.2
  refine ⟨r, A, hA, fun w hw => ?_, fun nd w hw => ?_⟩
  · have hw' := hw
    obtain ⟨q, a1, a2, a3, a4, a5, a6, a7, a8, a9⟩ := hw'
    exact ⟨w, h1 w q a1 a2 a7 a9, hw, fun _ _ _ => rfl⟩
  · have s1 : SM w (sI w 11 0 0 (nI 0)) := SM.i (by decide)
    have hw2 := hw.sm s1
    exact ⟨_, h2 nd w _ rfl hw2.2.2.2.1 hw2.2.2.2.2.2, hw2, s1.fm⟩
theorem q_size {x : Int32} : Qn (fun w => fX9_size w x) (fun nd w => fX11_size nd w x) := by
  intro n d hn hd
  rcases rng x (show 12 < 2 ^ 31 by omega) with ⟨k, hk, rfl⟩ | hx
  · by_cases hk11 : k = 11
    · subst hk11
      refine ⟨nI n, fun w q hq hp h11 hX => ?_, fun nd w w1 e h11 hM => ?_⟩
      · unfold fX9_size
        simp (disch := omega) only [↓mo_1, ↓mo_2, ad_m1, ite_m1_lt, ite_m2_lt, ite_le_m1, ite_eq_m1, ite_eq_m2, ite_m1_m1, ite_m2_m2, ite_T, ite_F, ite_nz, ite_zz, ite_m1_le, ite_m1_eq, oi_none, oi_some, ob_some, lw_def, ck_true, ckp_su, ite_lt_t, ite_lt_f, ite_le_t, ite_le_f, ite_eq_t, ite_eq_f, ck_inb, nI_add, sb_nI, mu_nI, nI_clamp, sO_at, sO_sO, Nat.add_sub_cancel, Nat.zero_add, Nat.add_zero, li_0, li_1, li_2, li_3, li_4, li_5, li_6, li_7, li_8, li_9, li_10, li_11, li_12, li_16, li_20, li_24, li_31, li_32, li_48, li_49, li_73, li_74, li_75, li_97, li_98, li_99, li_100, li_101, li_109, li_110, li_255, li_680, li_700, li_9999, li_65536, li_65537, h11]
      · unfold fX11_size
        simp (disch := omega) only [↓mo_1, ↓mo_2, ad_m1, ite_m1_lt, ite_m2_lt, ite_le_m1, ite_eq_m1, ite_eq_m2, ite_m1_m1, ite_m2_m2, ite_T, ite_F, ite_nz, ite_zz, ite_m1_le, ite_m1_eq, oi_none, oi_some, ob_some, lw_def, ck_true, ckp_su, ite_lt_t, ite_lt_f, ite_le_t, ite_le_f, ite_eq_t, ite_eq_f, ck_inb, nI_add, sb_nI, mu_nI, nI_clamp, sO_at, sO_sO, Nat.add_sub_cancel, Nat.zero_add, Nat.add_zero, li_0, li_1, li_2, li_3, li_4, li_5, li_6, li_7, li_8, li_9, li_10, li_11, li_12, li_16, li_20, li_24, li_31, li_32, li_48, li_49, li_73, li_74, li_75, li_97, li_98, li_99, li_100, li_101, li_109, li_110, li_255, li_680, li_700, li_9999, li_65536, li_65537, ← e, h11]
    · cases d with
      | none =>
        refine ⟨nI 0, fun w q hq hp h11 hX => ?_, fun nd w w1 e h11 hM => ?_⟩
        · rcases (show k = 0 ∨ k = 1 ∨ k = 2 ∨ k = 3 ∨ k = 4 ∨ k = 5 ∨ k = 6 ∨ k = 7 ∨ k = 8 ∨ k = 9 ∨ k = 10 by omega) with rfl | rfl | rfl | rfl | rfl | rfl | rfl | rfl | rfl | rfl | rfl
          · unfold fX9_size
            simp (disch := omega) only [↓mo_1, ↓mo_2, ad_m1, ite_m1_lt, ite_m2_lt, ite_le_m1, ite_eq_m1, ite_eq_m2, ite_m1_m1, ite_m2_m2, ite_T, ite_F, ite_nz, ite_zz, ite_m1_le, ite_m1_eq, oi_none, oi_some, ob_some, lw_def, ck_true, ckp_su, ite_lt_t, ite_lt_f, ite_le_t, ite_le_f, ite_eq_t, ite_eq_f, ck_inb, nI_add, sb_nI, mu_nI, nI_clamp, sO_at, sO_sO, Nat.add_sub_cancel, Nat.zero_add, Nat.add_zero, li_0, li_1, li_2, li_3, li_4, li_5, li_6, li_7, li_8, li_9, li_10, li_11, li_12, li_16, li_20, li_24, li_31, li_32, li_48, li_49, li_73, li_74, li_75, li_97, li_98, li_99, li_100, li_101, li_109, li_110, li_255, li_680, li_700, li_9999, li_65536, li_65537, hp, hX.1.2.2.1]
          · unfold fX9_size
            simp (disch := omega) only [↓mo_1, ↓mo_2, ad_m1, ite_m1_lt, ite_m2_lt, ite_le_m1, ite_eq_m1, ite_eq_m2, ite_m1_m1, ite_m2_m2, ite_T, ite_F, ite_nz, ite_zz, ite_m1_le, ite_m1_eq, oi_none, oi_some, ob_some, lw_def, ck_true, ckp_su, ite_lt_t, ite_lt_f, ite_le_t, ite_le_f, ite_eq_t, ite_eq_f, ck_inb, nI_add, sb_nI, mu_nI, nI_clamp, sO_at, sO_sO, Nat.add_sub_cancel, Nat.zero_add, Nat.add_zero, li_0, li_1, li_2, li_3, li_4, li_5, li_6, li_7, li_8, li_9, li_10, li_11, li_12, li_16, li_20, li_24, li_31, li_32, li_48, li_49, li_73, li_74, li_75, li_97, li_98, li_99, li_100, li_101, li_109, li_110, li_255, li_680, li_700, li_9999, li_65536, li_65537, hp, hX.1.2.2.2.1]
          · unfold fX9_size
            simp (disch := omega) only [↓mo_1, ↓mo_2, ad_m1, ite_m1_lt, ite_m2_lt, ite_le_m1, ite_eq_m1, ite_eq_m2, ite_m1_m1, ite_m2_m2, ite_T, ite_F, ite_nz, ite_zz, ite_m1_le, ite_m1_eq, oi_none, oi_some, ob_some, lw_def, ck_true, ckp_su, ite_lt_t, ite_lt_f, ite_le_t, ite_le_f, ite_eq_t, ite_eq_f, ck_inb, nI_add, sb_nI, mu_nI, nI_clamp, sO_at, sO_sO, Nat.add_sub_cancel, Nat.zero_add, Nat.add_zero, li_0, li_1, li_2, li_3, li_4, li_5, li_6, li_7, li_8, li_9, li_10, li_11, li_12, li_16, li_20, li_24, li_31, li_32, li_48, li_49, li_73, li_74, li_75, li_97, li_98, li_99, li_100, li_101, li_109, li_110, li_255, li_680, li_700, li_9999, li_65536, li_65537, hp, hX.1.2.2.2.2]
          · unfold fX9_size
            simp (disch := omega) only [↓mo_1, ↓mo_2, ad_m1, ite_m1_lt, ite_m2_lt, ite_le_m1, ite_eq_m1, ite_eq_m2, ite_m1_m1, ite_m2_m2, ite_T, ite_F, ite_nz, ite_zz, ite_m1_le, ite_m1_eq, oi_none, oi_some, ob_some, lw_def, ck_true, ckp_su, ite_lt_t, ite_lt_f, ite_le_t, ite_le_f, ite_eq_t, ite_eq_f, ck_inb, nI_add, sb_nI, mu_nI, nI_clamp, sO_at, sO_sO, Nat.add_sub_cancel, Nat.zero_add, Nat.add_zero, li_0, li_1, li_2, li_3, li_4, li_5, li_6, li_7, li_8, li_9, li_10, li_11, li_12, li_16, li_20, li_24, li_31, li_32, li_48, li_49, li_73, li_74, li_75, li_97, li_98, li_99, li_100, li_101, li_109, li_110, li_255, li_680, li_700, li_9999, li_65536, li_65537, hp, hX.1.1]
          · unfold fX9_size
            simp (disch := omega) only [↓mo_1, ↓mo_2, ad_m1, ite_m1_lt, ite_m2_lt, ite_le_m1, ite_eq_m1, ite_eq_m2, ite_m1_m1, ite_m2_m2, ite_T, ite_F, ite_nz, ite_zz, ite_m1_le, ite_m1_eq, oi_none, oi_some, ob_some, lw_def, ck_true, ckp_su, ite_lt_t, ite_lt_f, ite_le_t, ite_le_f, ite_eq_t, ite_eq_f, ck_inb, nI_add, sb_nI, mu_nI, nI_clamp, sO_at, sO_sO, Nat.add_sub_cancel, Nat.zero_add, Nat.add_zero, li_0, li_1, li_2, li_3, li_4, li_5, li_6, li_7, li_8, li_9, li_10, li_11, li_12, li_16, li_20, li_24, li_31, li_32, li_48, li_49, li_73, li_74, li_75, li_97, li_98, li_99, li_100, li_101, li_109, li_110, li_255, li_680, li_700, li_9999, li_65536, li_65537, hp, hX.1.2.1]
          · unfold fX9_size
            simp (disch := omega) only [↓mo_1, ↓mo_2, ad_m1, ite_m1_lt, ite_m2_lt, ite_le_m1, ite_eq_m1, ite_eq_m2, ite_m1_m1, ite_m2_m2, ite_T, ite_F, ite_nz, ite_zz, ite_m1_le, ite_m1_eq, oi_none, oi_some, ob_some, lw_def, ck_true, ckp_su, ite_lt_t, ite_lt_f, ite_le_t, ite_le_f, ite_eq_t, ite_eq_f, ck_inb, nI_add, sb_nI, mu_nI, nI_clamp, sO_at, sO_sO, Nat.add_sub_cancel, Nat.zero_add, Nat.add_zero, li_0, li_1, li_2, li_3, li_4, li_5, li_6, li_7, li_8, li_9, li_10, li_11, li_12, li_16, li_20, li_24, li_31, li_32, li_48, li_49, li_73, li_74, li_75, li_97, li_98, li_99, li_100, li_101, li_109, li_110, li_255, li_680, li_700, li_9999, li_65536, li_65537, hp, hX.2.1.1]
          · unfold fX9_size
            simp (disch := omega) only [↓mo_1, ↓mo_2, ad_m1, ite_m1_lt, ite_m2_lt, ite_le_m1, ite_eq_m1, ite_eq_m2, ite_m1_m1, ite_m2_m2, ite_T, ite_F, ite_nz, ite_zz, ite_m1_le, ite_m1_eq, oi_none, oi_some, ob_some, lw_def, ck_true, ckp_su, ite_lt_t, ite_lt_f, ite_le_t, ite_le_f, ite_eq_t, ite_eq_f, ck_inb, nI_add, sb_nI, mu_nI, nI_clamp, sO_at, sO_sO, Nat.add_sub_cancel, Nat.zero_add, Nat.add_zero, li_0, li_1, li_2, li_3, li_4, li_5, li_6, li_7, li_8, li_9, li_10, li_11, li_12, li_16, li_20, li_24, li_31, li_32, li_48, li_49, li_73, li_74, li_75, li_97, li_98, li_99, li_100, li_101, li_109, li_110, li_255, li_680, li_700, li_9999, li_65536, li_65537, hp, hX.2.1.2.1]
          · unfold fX9_size
            simp (disch := omega) only [↓mo_1, ↓mo_2, ad_m1, ite_m1_lt, ite_m2_lt, ite_le_m1, ite_eq_m1, ite_eq_m2, ite_m1_m1, ite_m2_m2, ite_T, ite_F, ite_nz, ite_zz, ite_m1_le, ite_m1_eq, oi_none, oi_some, ob_some, lw_def, ck_true, ckp_su, ite_lt_t, ite_lt_f, ite_le_t, ite_le_f, ite_eq_t, ite_eq_f, ck_inb, nI_add, sb_nI, mu_nI, nI_clamp, sO_at, sO_sO, Nat.add_sub_cancel, Nat.zero_add, Nat.add_zero, li_0, li_1, li_2, li_3, li_4, li_5, li_6, li_7, li_8, li_9, li_10, li_11, li_12, li_16, li_20, li_24, li_31, li_32, li_48, li_49, li_73, li_74, li_75, li_97, li_98, li_99, li_100, li_101, li_109, li_110, li_255, li_680, li_700, li_9999, li_65536, li_65537, hp, hX.2.1.2.2]
          · unfold fX9_size
            simp (disch := omega) only [↓mo_1, ↓mo_2, ad_m1, ite_m1_lt, ite_m2_lt, ite_le_m1, ite_eq_m1, ite_eq_m2, ite_m1_m1, ite_m2_m2, ite_T, ite_F, ite_nz, ite_zz, ite_m1_le, ite_m1_eq, oi_none, oi_some, ob_some, lw_def, ck_true, ckp_su, ite_lt_t, ite_lt_f, ite_le_t, ite_le_f, ite_eq_t, ite_eq_f, ck_inb, nI_add, sb_nI, mu_nI, nI_clamp, sO_at, sO_sO, Nat.add_sub_cancel, Nat.zero_add, Nat.add_zero, li_0, li_1, li_2, li_3, li_4, li_5, li_6, li_7, li_8, li_9, li_10, li_11, li_12, li_16, li_20, li_24, li_31, li_32, li_48, li_49, li_73, li_74, li_75, li_97, li_98, li_99, li_100, li_101, li_109, li_110, li_255, li_680, li_700, li_9999, li_65536, li_65537, hX.2.2.1.2]
          · unfold fX9_size
            simp (disch := omega) only [↓mo_1, ↓mo_2, ad_m1, ite_m1_lt, ite_m2_lt, ite_le_m1, ite_eq_m1, ite_eq_m2, ite_m1_m1, ite_m2_m2, ite_T, ite_F, ite_nz, ite_zz, ite_m1_le, ite_m1_eq, oi_none, oi_some, ob_some, lw_def, ck_true, ckp_su, ite_lt_t, ite_lt_f, ite_le_t, ite_le_f, ite_eq_t, ite_eq_f, ck_inb, nI_add, sb_nI, mu_nI, nI_clamp, sO_at, sO_sO, Nat.add_sub_cancel, Nat.zero_add, Nat.add_zero, li_0, li_1, li_2, li_3, li_4, li_5, li_6, li_7, li_8, li_9, li_10, li_11, li_12, li_16, li_20, li_24, li_31, li_32, li_48, li_49, li_73, li_74, li_75, li_97, li_98, li_99, li_100, li_101, li_109, li_110, li_255, li_680, li_700, li_9999, li_65536, li_65537, hX.2.2.2.1.1]
          · unfold fX9_size
            simp (disch := omega) only [↓mo_1, ↓mo_2, ad_m1, ite_m1_lt, ite_m2_lt, ite_le_m1, ite_eq_m1, ite_eq_m2, ite_m1_m1, ite_m2_m2, ite_T, ite_F, ite_nz, ite_zz, ite_m1_le, ite_m1_eq, oi_none, oi_some, ob_some, lw_def, ck_true, ckp_su, ite_lt_t, ite_lt_f, ite_le_t, ite_le_f, ite_eq_t, ite_eq_f, ck_inb, nI_add, sb_nI, mu_nI, nI_clamp, sO_at, sO_sO, Nat.add_sub_cancel, Nat.zero_add, Nat.add_zero, li_0, li_1, li_2, li_3, li_4, li_5, li_6, li_7, li_8, li_9, li_10, li_11, li_12, li_16, li_20, li_24, li_31, li_32, li_48, li_49, li_73, li_74, li_75, li_97, li_98, li_99, li_100, li_101, li_109, li_110, li_255, li_680, li_700, li_9999, li_65536, li_65537, hX.2.2.2.2]
        · have h0 : (w1 11 0).2.2.1 3 = 0 := hM
          show fX11_size nd w (nI k) = _
          unfold fX11_size
          rw [lw_def, li_0, ← e, li_11, ite_eq_f (by omega) (by omega) hk11, li_10, m_in1 (by omega) (by omega) (by omega) (by omega), ob_some, ite_eq_f (by omega) (by omega) (by omega), if_pos h0]
      | some z =>
        obtain ⟨D, T, s, h, im⟩ := z
        obtain ⟨hD, h6, hT, hW, hQ, hH, hI⟩ := hd
        rcases (show k = 0 ∨ k = 1 ∨ k = 2 ∨ k = 3 ∨ k = 4 ∨ k = 5 ∨ k = 6 ∨ k = 7 ∨ k = 8 ∨ k = 9 ∨ k = 10 by omega) with rfl | rfl | rfl | rfl | rfl | rfl | rfl | rfl | rfl | rfl | rfl
        · refine ⟨nI D.2.2.1, fun w q hq hp h11 hX => ?_, fun nd w w1 e h11 ⟨d, b1, b2, b3, b4, b5, b6, b7, b8, b9⟩ => ?_⟩
          · unfold fX9_size
            simp (disch := omega) only [↓mo_1, ↓mo_2, ad_m1, ite_m1_lt, ite_m2_lt, ite_le_m1, ite_eq_m1, ite_eq_m2, ite_m1_m1, ite_m2_m2, ite_T, ite_F, ite_nz, ite_zz, ite_m1_le, ite_m1_eq, oi_none, oi_some, ob_some, lw_def, ck_true, ckp_su, ite_lt_t, ite_lt_f, ite_le_t, ite_le_f, ite_eq_t, ite_eq_f, ck_inb, nI_add, sb_nI, mu_nI, nI_clamp, sO_at, sO_sO, Nat.add_sub_cancel, Nat.zero_add, Nat.add_zero, li_0, li_1, li_2, li_3, li_4, li_5, li_6, li_7, li_8, li_9, li_10, li_11, li_12, li_16, li_20, li_24, li_31, li_32, li_48, li_49, li_73, li_74, li_75, li_97, li_98, li_99, li_100, li_101, li_109, li_110, li_255, li_680, li_700, li_9999, li_65536, li_65537, hp, hX.1.2.2.2.2.1]
          · unfold fX11_size
            simp (disch := omega) only [↓mo_1, ↓mo_2, ad_m1, ite_m1_lt, ite_m2_lt, ite_le_m1, ite_eq_m1, ite_eq_m2, ite_m1_m1, ite_m2_m2, ite_T, ite_F, ite_nz, ite_zz, ite_m1_le, ite_m1_eq, oi_none, oi_some, ob_some, lw_def, ck_true, ckp_su, ite_lt_t, ite_lt_f, ite_le_t, ite_le_f, ite_eq_t, ite_eq_f, ck_inb, nI_add, sb_nI, mu_nI, nI_clamp, sO_at, sO_sO, Nat.add_sub_cancel, Nat.zero_add, Nat.add_zero, li_0, li_1, li_2, li_3, li_4, li_5, li_6, li_7, li_8, li_9, li_10, li_11, li_12, li_16, li_20, li_24, li_31, li_32, li_48, li_49, li_73, li_74, li_75, li_97, li_98, li_99, li_100, li_101, li_109, li_110, li_255, li_680, li_700, li_9999, li_65536, li_65537, ← e, m_in1, b1, b3.1]
        · refine ⟨nI D.2.2.2.1, fun w q hq hp h11 hX => ?_, fun nd w w1 e h11 ⟨d, b1, b2, b3, b4, b5, b6, b7, b8, b9⟩ => ?_⟩
          · unfold fX9_size
            simp (disch := omega) only [↓mo_1, ↓mo_2, ad_m1, ite_m1_lt, ite_m2_lt, ite_le_m1, ite_eq_m1, ite_eq_m2, ite_m1_m1, ite_m2_m2, ite_T, ite_F, ite_nz, ite_zz, ite_m1_le, ite_m1_eq, oi_none, oi_some, ob_some, lw_def, ck_true, ckp_su, ite_lt_t, ite_lt_f, ite_le_t, ite_le_f, ite_eq_t, ite_eq_f, ck_inb, nI_add, sb_nI, mu_nI, nI_clamp, sO_at, sO_sO, Nat.add_sub_cancel, Nat.zero_add, Nat.add_zero, li_0, li_1, li_2, li_3, li_4, li_5, li_6, li_7, li_8, li_9, li_10, li_11, li_12, li_16, li_20, li_24, li_31, li_32, li_48, li_49, li_73, li_74, li_75, li_97, li_98, li_99, li_100, li_101, li_109, li_110, li_255, li_680, li_700, li_9999, li_65536, li_65537, hp, hX.1.2.2.2.2.2.1]
          · unfold fX11_size
            simp (disch := omega) only [↓mo_1, ↓mo_2, ad_m1, ite_m1_lt, ite_m2_lt, ite_le_m1, ite_eq_m1, ite_eq_m2, ite_m1_m1, ite_m2_m2, ite_T, ite_F, ite_nz, ite_zz, ite_m1_le, ite_m1_eq, oi_none, oi_some, ob_some, lw_def, ck_true, ckp_su, ite_lt_t, ite_lt_f, ite_le_t, ite_le_f, ite_eq_t, ite_eq_f, ck_inb, nI_add, sb_nI, mu_nI, nI_clamp, sO_at, sO_sO, Nat.add_sub_cancel, Nat.zero_add, Nat.add_zero, li_0, li_1, li_2, li_3, li_4, li_5, li_6, li_7, li_8, li_9, li_10, li_11, li_12, li_16, li_20, li_24, li_31, li_32, li_48, li_49, li_73, li_74, li_75, li_97, li_98, li_99, li_100, li_101, li_109, li_110, li_255, li_680, li_700, li_9999, li_65536, li_65537, ← e, m_in1, b1, b3.2.1]
        · refine ⟨b2i D.2.2.2.2, fun w q hq hp h11 hX => ?_, fun nd w w1 e h11 ⟨d, b1, b2, b3, b4, b5, b6, b7, b8, b9⟩ => ?_⟩
          · have e1 := hX.1.2.2.2.2.2.2
            revert e1
            cases D.2.2.2.2 with
            | true =>
              intro e1
              rw [b2i_t] at e1 ⊢
              unfold fX9_size
              simp (disch := omega) only [↓mo_1, ↓mo_2, ad_m1, ite_m1_lt, ite_m2_lt, ite_le_m1, ite_eq_m1, ite_eq_m2, ite_m1_m1, ite_m2_m2, ite_T, ite_F, ite_nz, ite_zz, ite_m1_le, ite_m1_eq, oi_none, oi_some, ob_some, lw_def, ck_true, ckp_su, ite_lt_t, ite_lt_f, ite_le_t, ite_le_f, ite_eq_t, ite_eq_f, ck_inb, nI_add, sb_nI, mu_nI, nI_clamp, sO_at, sO_sO, Nat.add_sub_cancel, Nat.zero_add, Nat.add_zero, li_0, li_1, li_2, li_3, li_4, li_5, li_6, li_7, li_8, li_9, li_10, li_11, li_12, li_16, li_20, li_24, li_31, li_32, li_48, li_49, li_73, li_74, li_75, li_97, li_98, li_99, li_100, li_101, li_109, li_110, li_255, li_680, li_700, li_9999, li_65536, li_65537, hp, e1]
            | false =>
              intro e1
              rw [b2i_f] at e1 ⊢
              unfold fX9_size
              simp (disch := omega) only [↓mo_1, ↓mo_2, ad_m1, ite_m1_lt, ite_m2_lt, ite_le_m1, ite_eq_m1, ite_eq_m2, ite_m1_m1, ite_m2_m2, ite_T, ite_F, ite_nz, ite_zz, ite_m1_le, ite_m1_eq, oi_none, oi_some, ob_some, lw_def, ck_true, ckp_su, ite_lt_t, ite_lt_f, ite_le_t, ite_le_f, ite_eq_t, ite_eq_f, ck_inb, nI_add, sb_nI, mu_nI, nI_clamp, sO_at, sO_sO, Nat.add_sub_cancel, Nat.zero_add, Nat.add_zero, li_0, li_1, li_2, li_3, li_4, li_5, li_6, li_7, li_8, li_9, li_10, li_11, li_12, li_16, li_20, li_24, li_31, li_32, li_48, li_49, li_73, li_74, li_75, li_97, li_98, li_99, li_100, li_101, li_109, li_110, li_255, li_680, li_700, li_9999, li_65536, li_65537, hp, e1]
          · have e1 := b3.2.2.2.1
            revert e1
            cases D.2.2.2.2 with
            | true =>
              intro e1
              rw [b2i_t] at e1 ⊢
              unfold fX11_size
              simp (disch := omega) only [↓mo_1, ↓mo_2, ad_m1, ite_m1_lt, ite_m2_lt, ite_le_m1, ite_eq_m1, ite_eq_m2, ite_m1_m1, ite_m2_m2, ite_T, ite_F, ite_nz, ite_zz, ite_m1_le, ite_m1_eq, oi_none, oi_some, ob_some, lw_def, ck_true, ckp_su, ite_lt_t, ite_lt_f, ite_le_t, ite_le_f, ite_eq_t, ite_eq_f, ck_inb, nI_add, sb_nI, mu_nI, nI_clamp, sO_at, sO_sO, Nat.add_sub_cancel, Nat.zero_add, Nat.add_zero, li_0, li_1, li_2, li_3, li_4, li_5, li_6, li_7, li_8, li_9, li_10, li_11, li_12, li_16, li_20, li_24, li_31, li_32, li_48, li_49, li_73, li_74, li_75, li_97, li_98, li_99, li_100, li_101, li_109, li_110, li_255, li_680, li_700, li_9999, li_65536, li_65537, ← e, m_in1, b1, e1]
            | false =>
              intro e1
              rw [b2i_f] at e1 ⊢
              unfold fX11_size
              simp (disch := omega) only [↓mo_1, ↓mo_2, ad_m1, ite_m1_lt, ite_m2_lt, ite_le_m1, ite_eq_m1, ite_eq_m2, ite_m1_m1, ite_m2_m2, ite_T, ite_F, ite_nz, ite_zz, ite_m1_le, ite_m1_eq, oi_none, oi_some, ob_some, lw_def, ck_true, ckp_su, ite_lt_t, ite_lt_f, ite_le_t, ite_le_f, ite_eq_t, ite_eq_f, ck_inb, nI_add, sb_nI, mu_nI, nI_clamp, sO_at, sO_sO, Nat.add_sub_cancel, Nat.zero_add, Nat.add_zero, li_0, li_1, li_2, li_3, li_4, li_5, li_6, li_7, li_8, li_9, li_10, li_11, li_12, li_16, li_20, li_24, li_31, li_32, li_48, li_49, li_73, li_74, li_75, li_97, li_98, li_99, li_100, li_101, li_109, li_110, li_255, li_680, li_700, li_9999, li_65536, li_65537, ← e, m_in1, b1, e1]
        · refine ⟨nI D.1, fun w q hq hp h11 hX => ?_, fun nd w w1 e h11 ⟨d, b1, b2, b3, b4, b5, b6, b7, b8, b9⟩ => ?_⟩
          · unfold fX9_size
            simp (disch := omega) only [↓mo_1, ↓mo_2, ad_m1, ite_m1_lt, ite_m2_lt, ite_le_m1, ite_eq_m1, ite_eq_m2, ite_m1_m1, ite_m2_m2, ite_T, ite_F, ite_nz, ite_zz, ite_m1_le, ite_m1_eq, oi_none, oi_some, ob_some, lw_def, ck_true, ckp_su, ite_lt_t, ite_lt_f, ite_le_t, ite_le_f, ite_eq_t, ite_eq_f, ck_inb, nI_add, sb_nI, mu_nI, nI_clamp, sO_at, sO_sO, Nat.add_sub_cancel, Nat.zero_add, Nat.add_zero, li_0, li_1, li_2, li_3, li_4, li_5, li_6, li_7, li_8, li_9, li_10, li_11, li_12, li_16, li_20, li_24, li_31, li_32, li_48, li_49, li_73, li_74, li_75, li_97, li_98, li_99, li_100, li_101, li_109, li_110, li_255, li_680, li_700, li_9999, li_65536, li_65537, hp, hX.1.2.2.1]
          · unfold fX11_size
            simp (disch := omega) only [↓mo_1, ↓mo_2, ad_m1, ite_m1_lt, ite_m2_lt, ite_le_m1, ite_eq_m1, ite_eq_m2, ite_m1_m1, ite_m2_m2, ite_T, ite_F, ite_nz, ite_zz, ite_m1_le, ite_m1_eq, oi_none, oi_some, ob_some, lw_def, ck_true, ckp_su, ite_lt_t, ite_lt_f, ite_le_t, ite_le_f, ite_eq_t, ite_eq_f, ck_inb, nI_add, sb_nI, mu_nI, nI_clamp, sO_at, sO_sO, Nat.add_sub_cancel, Nat.zero_add, Nat.add_zero, li_0, li_1, li_2, li_3, li_4, li_5, li_6, li_7, li_8, li_9, li_10, li_11, li_12, li_16, li_20, li_24, li_31, li_32, li_48, li_49, li_73, li_74, li_75, li_97, li_98, li_99, li_100, li_101, li_109, li_110, li_255, li_680, li_700, li_9999, li_65536, li_65537, ← e, m_in1, b1, b3.2.2.1]
        · refine ⟨nI (dnt D), fun w q hq hp h11 hX => ?_, fun nd w w1 e h11 ⟨d, b1, b2, b3, b4, b5, b6, b7, b8, b9⟩ => ?_⟩
          · unfold fX9_size
            simp (disch := omega) only [↓mo_1, ↓mo_2, ad_m1, ite_m1_lt, ite_m2_lt, ite_le_m1, ite_eq_m1, ite_eq_m2, ite_m1_m1, ite_m2_m2, ite_T, ite_F, ite_nz, ite_zz, ite_m1_le, ite_m1_eq, oi_none, oi_some, ob_some, lw_def, ck_true, ckp_su, ite_lt_t, ite_lt_f, ite_le_t, ite_le_f, ite_eq_t, ite_eq_f, ck_inb, nI_add, sb_nI, mu_nI, nI_clamp, sO_at, sO_sO, Nat.add_sub_cancel, Nat.zero_add, Nat.add_zero, li_0, li_1, li_2, li_3, li_4, li_5, li_6, li_7, li_8, li_9, li_10, li_11, li_12, li_16, li_20, li_24, li_31, li_32, li_48, li_49, li_73, li_74, li_75, li_97, li_98, li_99, li_100, li_101, li_109, li_110, li_255, li_680, li_700, li_9999, li_65536, li_65537, hp, hX.1.2.2.2.1]
          · unfold fX11_size
            simp (disch := omega) only [↓mo_1, ↓mo_2, ad_m1, ite_m1_lt, ite_m2_lt, ite_le_m1, ite_eq_m1, ite_eq_m2, ite_m1_m1, ite_m2_m2, ite_T, ite_F, ite_nz, ite_zz, ite_m1_le, ite_m1_eq, oi_none, oi_some, ob_some, lw_def, ck_true, ckp_su, ite_lt_t, ite_lt_f, ite_le_t, ite_le_f, ite_eq_t, ite_eq_f, ck_inb, nI_add, sb_nI, mu_nI, nI_clamp, sO_at, sO_sO, Nat.add_sub_cancel, Nat.zero_add, Nat.add_zero, li_0, li_1, li_2, li_3, li_4, li_5, li_6, li_7, li_8, li_9, li_10, li_11, li_12, li_16, li_20, li_24, li_31, li_32, li_48, li_49, li_73, li_74, li_75, li_97, li_98, li_99, li_100, li_101, li_109, li_110, li_255, li_680, li_700, li_9999, li_65536, li_65537, ← e, m_in1, b1, b4.1]
        · refine ⟨nI T.2.1.1, fun w q hq hp h11 hX => ?_, fun nd w w1 e h11 ⟨d, b1, b2, b3, b4, b5, b6, b7, b8, b9⟩ => ?_⟩
          · unfold fX9_size
            simp (disch := omega) only [↓mo_1, ↓mo_2, ad_m1, ite_m1_lt, ite_m2_lt, ite_le_m1, ite_eq_m1, ite_eq_m2, ite_m1_m1, ite_m2_m2, ite_T, ite_F, ite_nz, ite_zz, ite_m1_le, ite_m1_eq, oi_none, oi_some, ob_some, lw_def, ck_true, ckp_su, ite_lt_t, ite_lt_f, ite_le_t, ite_le_f, ite_eq_t, ite_eq_f, ck_inb, nI_add, sb_nI, mu_nI, nI_clamp, sO_at, sO_sO, Nat.add_sub_cancel, Nat.zero_add, Nat.add_zero, li_0, li_1, li_2, li_3, li_4, li_5, li_6, li_7, li_8, li_9, li_10, li_11, li_12, li_16, li_20, li_24, li_31, li_32, li_48, li_49, li_73, li_74, li_75, li_97, li_98, li_99, li_100, li_101, li_109, li_110, li_255, li_680, li_700, li_9999, li_65536, li_65537, hp, hX.2.1.2.1.1]
          · unfold fX11_size
            simp (disch := omega) only [↓mo_1, ↓mo_2, ad_m1, ite_m1_lt, ite_m2_lt, ite_le_m1, ite_eq_m1, ite_eq_m2, ite_m1_m1, ite_m2_m2, ite_T, ite_F, ite_nz, ite_zz, ite_m1_le, ite_m1_eq, oi_none, oi_some, ob_some, lw_def, ck_true, ckp_su, ite_lt_t, ite_lt_f, ite_le_t, ite_le_f, ite_eq_t, ite_eq_f, ck_inb, nI_add, sb_nI, mu_nI, nI_clamp, sO_at, sO_sO, Nat.add_sub_cancel, Nat.zero_add, Nat.add_zero, li_0, li_1, li_2, li_3, li_4, li_5, li_6, li_7, li_8, li_9, li_10, li_11, li_12, li_16, li_20, li_24, li_31, li_32, li_48, li_49, li_73, li_74, li_75, li_97, li_98, li_99, li_100, li_101, li_109, li_110, li_255, li_680, li_700, li_9999, li_65536, li_65537, ← e, m_in1, b1, b4.2.2.1.1]
        · refine ⟨nI T.2.2.1.1, fun w q hq hp h11 hX => ?_, fun nd w w1 e h11 ⟨d, b1, b2, b3, b4, b5, b6, b7, b8, b9⟩ => ?_⟩
          · unfold fX9_size
            simp (disch := omega) only [↓mo_1, ↓mo_2, ad_m1, ite_m1_lt, ite_m2_lt, ite_le_m1, ite_eq_m1, ite_eq_m2, ite_m1_m1, ite_m2_m2, ite_T, ite_F, ite_nz, ite_zz, ite_m1_le, ite_m1_eq, oi_none, oi_some, ob_some, lw_def, ck_true, ckp_su, ite_lt_t, ite_lt_f, ite_le_t, ite_le_f, ite_eq_t, ite_eq_f, ck_inb, nI_add, sb_nI, mu_nI, nI_clamp, sO_at, sO_sO, Nat.add_sub_cancel, Nat.zero_add, Nat.add_zero, li_0, li_1, li_2, li_3, li_4, li_5, li_6, li_7, li_8, li_9, li_10, li_11, li_12, li_16, li_20, li_24, li_31, li_32, li_48, li_49, li_73, li_74, li_75, li_97, li_98, li_99, li_100, li_101, li_109, li_110, li_255, li_680, li_700, li_9999, li_65536, li_65537, hp, hX.2.1.2.2.1.1]
          · unfold fX11_size
            simp (disch := omega) only [↓mo_1, ↓mo_2, ad_m1, ite_m1_lt, ite_m2_lt, ite_le_m1, ite_eq_m1, ite_eq_m2, ite_m1_m1, ite_m2_m2, ite_T, ite_F, ite_nz, ite_zz, ite_m1_le, ite_m1_eq, oi_none, oi_some, ob_some, lw_def, ck_true, ckp_su, ite_lt_t, ite_lt_f, ite_le_t, ite_le_f, ite_eq_t, ite_eq_f, ck_inb, nI_add, sb_nI, mu_nI, nI_clamp, sO_at, sO_sO, Nat.add_sub_cancel, Nat.zero_add, Nat.add_zero, li_0, li_1, li_2, li_3, li_4, li_5, li_6, li_7, li_8, li_9, li_10, li_11, li_12, li_16, li_20, li_24, li_31, li_32, li_48, li_49, li_73, li_74, li_75, li_97, li_98, li_99, li_100, li_101, li_109, li_110, li_255, li_680, li_700, li_9999, li_65536, li_65537, ← e, m_in1, b1, b4.2.2.2.1.1]
        · refine ⟨nI T.2.2.2.1, fun w q hq hp h11 hX => ?_, fun nd w w1 e h11 ⟨d, b1, b2, b3, b4, b5, b6, b7, b8, b9⟩ => ?_⟩
          · unfold fX9_size
            simp (disch := omega) only [↓mo_1, ↓mo_2, ad_m1, ite_m1_lt, ite_m2_lt, ite_le_m1, ite_eq_m1, ite_eq_m2, ite_m1_m1, ite_m2_m2, ite_T, ite_F, ite_nz, ite_zz, ite_m1_le, ite_m1_eq, oi_none, oi_some, ob_some, lw_def, ck_true, ckp_su, ite_lt_t, ite_lt_f, ite_le_t, ite_le_f, ite_eq_t, ite_eq_f, ck_inb, nI_add, sb_nI, mu_nI, nI_clamp, sO_at, sO_sO, Nat.add_sub_cancel, Nat.zero_add, Nat.add_zero, li_0, li_1, li_2, li_3, li_4, li_5, li_6, li_7, li_8, li_9, li_10, li_11, li_12, li_16, li_20, li_24, li_31, li_32, li_48, li_49, li_73, li_74, li_75, li_97, li_98, li_99, li_100, li_101, li_109, li_110, li_255, li_680, li_700, li_9999, li_65536, li_65537, hp, hX.2.1.2.2.2.1]
          · unfold fX11_size
            simp (disch := omega) only [↓mo_1, ↓mo_2, ad_m1, ite_m1_lt, ite_m2_lt, ite_le_m1, ite_eq_m1, ite_eq_m2, ite_m1_m1, ite_m2_m2, ite_T, ite_F, ite_nz, ite_zz, ite_m1_le, ite_m1_eq, oi_none, oi_some, ob_some, lw_def, ck_true, ckp_su, ite_lt_t, ite_lt_f, ite_le_t, ite_le_f, ite_eq_t, ite_eq_f, ck_inb, nI_add, sb_nI, mu_nI, nI_clamp, sO_at, sO_sO, Nat.add_sub_cancel, Nat.zero_add, Nat.add_zero, li_0, li_1, li_2, li_3, li_4, li_5, li_6, li_7, li_8, li_9, li_10, li_11, li_12, li_16, li_20, li_24, li_31, li_32, li_48, li_49, li_73, li_74, li_75, li_97, li_98, li_99, li_100, li_101, li_109, li_110, li_255, li_680, li_700, li_9999, li_65536, li_65537, ← e, m_in1, b1, b4.2.2.2.2.1]
        · refine ⟨sct s, fun w q hq hp h11 hX => ?_, fun nd w w1 e h11 ⟨d, b1, b2, b3, b4, b5, b6, b7, b8, b9⟩ => ?_⟩
          · unfold fX9_size
            simp (disch := omega) only [↓mo_1, ↓mo_2, ad_m1, ite_m1_lt, ite_m2_lt, ite_le_m1, ite_eq_m1, ite_eq_m2, ite_m1_m1, ite_m2_m2, ite_T, ite_F, ite_nz, ite_zz, ite_m1_le, ite_m1_eq, oi_none, oi_some, ob_some, lw_def, ck_true, ckp_su, ite_lt_t, ite_lt_f, ite_le_t, ite_le_f, ite_eq_t, ite_eq_f, ck_inb, nI_add, sb_nI, mu_nI, nI_clamp, sO_at, sO_sO, Nat.add_sub_cancel, Nat.zero_add, Nat.add_zero, li_0, li_1, li_2, li_3, li_4, li_5, li_6, li_7, li_8, li_9, li_10, li_11, li_12, li_16, li_20, li_24, li_31, li_32, li_48, li_49, li_73, li_74, li_75, li_97, li_98, li_99, li_100, li_101, li_109, li_110, li_255, li_680, li_700, li_9999, li_65536, li_65537, hX.2.2.1.2.2.2.2.2.2.2.2.2]
          · unfold fX11_size
            simp (disch := omega) only [↓mo_1, ↓mo_2, ad_m1, ite_m1_lt, ite_m2_lt, ite_le_m1, ite_eq_m1, ite_eq_m2, ite_m1_m1, ite_m2_m2, ite_T, ite_F, ite_nz, ite_zz, ite_m1_le, ite_m1_eq, oi_none, oi_some, ob_some, lw_def, ck_true, ckp_su, ite_lt_t, ite_lt_f, ite_le_t, ite_le_f, ite_eq_t, ite_eq_f, ck_inb, nI_add, sb_nI, mu_nI, nI_clamp, sO_at, sO_sO, Nat.add_sub_cancel, Nat.zero_add, Nat.add_zero, li_0, li_1, li_2, li_3, li_4, li_5, li_6, li_7, li_8, li_9, li_10, li_11, li_12, li_16, li_20, li_24, li_31, li_32, li_48, li_49, li_73, li_74, li_75, li_97, li_98, li_99, li_100, li_101, li_109, li_110, li_255, li_680, li_700, li_9999, li_65536, li_65537, ← e, m_in1, b1, b5.2.2.2.2.2.2.2.2.2]
        · refine ⟨nI h.1, fun w q hq hp h11 hX => ?_, fun nd w w1 e h11 ⟨d, b1, b2, b3, b4, b5, b6, b7, b8, b9⟩ => ?_⟩
          · unfold fX9_size
            simp (disch := omega) only [↓mo_1, ↓mo_2, ad_m1, ite_m1_lt, ite_m2_lt, ite_le_m1, ite_eq_m1, ite_eq_m2, ite_m1_m1, ite_m2_m2, ite_T, ite_F, ite_nz, ite_zz, ite_m1_le, ite_m1_eq, oi_none, oi_some, ob_some, lw_def, ck_true, ckp_su, ite_lt_t, ite_lt_f, ite_le_t, ite_le_f, ite_eq_t, ite_eq_f, ck_inb, nI_add, sb_nI, mu_nI, nI_clamp, sO_at, sO_sO, Nat.add_sub_cancel, Nat.zero_add, Nat.add_zero, li_0, li_1, li_2, li_3, li_4, li_5, li_6, li_7, li_8, li_9, li_10, li_11, li_12, li_16, li_20, li_24, li_31, li_32, li_48, li_49, li_73, li_74, li_75, li_97, li_98, li_99, li_100, li_101, li_109, li_110, li_255, li_680, li_700, li_9999, li_65536, li_65537, hX.2.2.2.2.1.1]
          · unfold fX11_size
            simp (disch := omega) only [↓mo_1, ↓mo_2, ad_m1, ite_m1_lt, ite_m2_lt, ite_le_m1, ite_eq_m1, ite_eq_m2, ite_m1_m1, ite_m2_m2, ite_T, ite_F, ite_nz, ite_zz, ite_m1_le, ite_m1_eq, oi_none, oi_some, ob_some, lw_def, ck_true, ckp_su, ite_lt_t, ite_lt_f, ite_le_t, ite_le_f, ite_eq_t, ite_eq_f, ck_inb, nI_add, sb_nI, mu_nI, nI_clamp, sO_at, sO_sO, Nat.add_sub_cancel, Nat.zero_add, Nat.add_zero, li_0, li_1, li_2, li_3, li_4, li_5, li_6, li_7, li_8, li_9, li_10, li_11, li_12, li_16, li_20, li_24, li_31, li_32, li_48, li_49, li_73, li_74, li_75, li_97, li_98, li_99, li_100, li_101, li_109, li_110, li_255, li_680, li_700, li_9999, li_65536, li_65537, ← e, m_in1, b1, b6]
        · refine ⟨nI im.1, fun w q hq hp h11 hX => ?_, fun nd w w1 e h11 ⟨d, b1, b2, b3, b4, b5, b6, b7, b8, b9⟩ => ?_⟩
          · unfold fX9_size
            simp (disch := omega) only [↓mo_1, ↓mo_2, ad_m1, ite_m1_lt, ite_m2_lt, ite_le_m1, ite_eq_m1, ite_eq_m2, ite_m1_m1, ite_m2_m2, ite_T, ite_F, ite_nz, ite_zz, ite_m1_le, ite_m1_eq, oi_none, oi_some, ob_some, lw_def, ck_true, ckp_su, ite_lt_t, ite_lt_f, ite_le_t, ite_le_f, ite_eq_t, ite_eq_f, ck_inb, nI_add, sb_nI, mu_nI, nI_clamp, sO_at, sO_sO, Nat.add_sub_cancel, Nat.zero_add, Nat.add_zero, li_0, li_1, li_2, li_3, li_4, li_5, li_6, li_7, li_8, li_9, li_10, li_11, li_12, li_16, li_20, li_24, li_31, li_32, li_48, li_49, li_73, li_74, li_75, li_97, li_98, li_99, li_100, li_101, li_109, li_110, li_255, li_680, li_700, li_9999, li_65536, li_65537, hX.2.2.2.2.2.1]
          · unfold fX11_size
            simp (disch := omega) only [↓mo_1, ↓mo_2, ad_m1, ite_m1_lt, ite_m2_lt, ite_le_m1, ite_eq_m1, ite_eq_m2, ite_m1_m1, ite_m2_m2, ite_T, ite_F, ite_nz, ite_zz, ite_m1_le, ite_m1_eq, oi_none, oi_some, ob_some, lw_def, ck_true, ckp_su, ite_lt_t, ite_lt_f, ite_le_t, ite_le_f, ite_eq_t, ite_eq_f, ck_inb, nI_add, sb_nI, mu_nI, nI_clamp, sO_at, sO_sO, Nat.add_sub_cancel, Nat.zero_add, Nat.add_zero, li_0, li_1, li_2, li_3, li_4, li_5, li_6, li_7, li_8, li_9, li_10, li_11, li_12, li_16, li_20, li_24, li_31, li_32, li_48, li_49, li_73, li_74, li_75, li_97, li_98, li_99, li_100, li_101, li_109, li_110, li_255, li_680, li_700, li_9999, li_65536, li_65537, ← e, m_in1, b1, b8]
  · have hx10 : x < nI 0 ∨ ¬ x < nI 0 ∧ nI (10 + 1) ≤ x := by
      rcases hx with h | ⟨h, h2⟩
      · exact Or.inl h
      · refine Or.inr ⟨h, ?_⟩
        rw [Int32.le_iff_toInt_le, nI_toInt (by omega)] at h2 ⊢
        omega
    refine ⟨m1, fun w q hq hp h11 hX => ?_, fun nd w w1 e h11 hM => ?_⟩
    · unfold fX9_size
      simp (disch := omega) only [↓mo_1, ↓mo_2, ad_m1, ite_m1_lt, ite_m2_lt, ite_le_m1, ite_eq_m1, ite_eq_m2, ite_m1_m1, ite_m2_m2, ite_T, ite_F, ite_nz, ite_zz, ite_m1_le, ite_m1_eq, oi_none, oi_some, ob_some, lw_def, ck_true, ckp_su, ite_lt_t, ite_lt_f, ite_le_t, ite_le_f, ite_eq_t, ite_eq_f, ck_inb, nI_add, sb_nI, mu_nI, nI_clamp, sO_at, sO_sO, Nat.add_sub_cancel, Nat.zero_add, Nat.add_zero, li_0, li_1, li_2, li_3, li_4, li_5, li_6, li_7, li_8, li_9, li_10, li_11, li_12, li_16, li_20, li_24, li_31, li_32, li_48, li_49, li_73, li_74, li_75, li_97, li_98, li_99, li_100, li_101, li_109, li_110, li_255, li_680, li_700, li_9999, li_65536, li_65537, ite_out hx]
    · unfold fX11_size
      simp (disch := omega) only [↓mo_1, ↓mo_2, ad_m1, ite_m1_lt, ite_m2_lt, ite_le_m1, ite_eq_m1, ite_eq_m2, ite_m1_m1, ite_m2_m2, ite_T, ite_F, ite_nz, ite_zz, ite_m1_le, ite_m1_eq, oi_none, oi_some, ob_some, lw_def, ck_true, ckp_su, ite_lt_t, ite_lt_f, ite_le_t, ite_le_f, ite_eq_t, ite_eq_f, ck_inb, nI_add, sb_nI, mu_nI, nI_clamp, sO_at, sO_sO, Nat.add_sub_cancel, Nat.zero_add, Nat.add_zero, li_0, li_1, li_2, li_3, li_4, li_5, li_6, li_7, li_8, li_9, li_10, li_11, li_12, li_16, li_20, li_24, li_31, li_32, li_48, li_49, li_73, li_74, li_75, li_97, li_98, li_99, li_100, li_101, li_109, li_110, li_255, li_680, li_700, li_9999, li_65536, li_65537, ← e, ite_out hx, m_in0 hx10]
/-! feed -/
def bt (v : Int32) (sh : Nat) : Int32 := (((v >>> (nI sh &&& nI 31)).toInt8.toInt32).toInt8.toInt32)
theorem bt_r {v : Int32} {sh : Nat} : -128 ≤ (bt v sh).toInt ∧ (bt v sh).toInt < 128 := by
  unfold bt
  rw [Int8.toInt_toInt32]
  generalize ((v >>> (nI sh &&& nI 31)).toInt8.toInt32).toInt8 = z
  exact ⟨z.le_toInt, z.toInt_lt⟩
def bsel (a b c d e : Int32) (k : Nat) : Int32 := if k < 4 then a else if k < 8 then b else if k < 12 then c else if k < 16 then d else e
def byt (a b c d e : Int32) (k : Nat) : Int32 := bt (bsel a b c d e k) (24 - 8 * (k % 4))
/-- bytes laid on the tape from a place on -/
def Lay (f g : Nat → Int32) (n k : Nat) (y : Nat → Int32) : Prop := (∀ i, i < n → g i = f i) ∧ ∀ i, i < k → g (n + i) = y i
def S9 (w w2 : Wd) : Prop := (∀ c i, ¬ (c = 9 ∧ i = 0) → w2 c i = w c i) ∧ (w2 9 0).2.2 = (w 9 0).2.2 ∧ ∀ k, k ≠ 1 → (w2 9 0).1 k = (w 9 0).1 k
theorem S9.tr {w1 w2 w3 : Wd} (h : S9 w1 w2) (h2 : S9 w2 w3) : S9 w1 w3 := ⟨fun c i z => (h2.1 c i z).trans (h.1 c i z), h2.2.1.trans h.2.1, fun k z => (h2.2.2 k z).trans (h.2.2 k z)⟩
theorem x_f1 {n sh m : Nat} {x : Int32} (h1 : (w 9 0).1 1 = nI n) (hn : n < 700) (hs : sh < 32) : ∃ w2 : Wd, fX9_feedNumber_3 (m + 1) w x (nI sh) = fX9_feedNumber_3 m w2 x (nI sh + (-8)) ∧ S9 w w2 ∧ (w2 9 0).1 1 = nI (n + 1) ∧ (∀ i, i < n → (w2 9 0).2.1 0 i = (w 9 0).2.1 0 i) ∧ (w2 9 0).2.1 0 n = bt x sh := by
  have k1 : ∀ v, (sA w 9 0 0 n v 9 0).1 1 = nI n := fun v => by unfold sA; rw [sO_at]; exact h1
  refine ⟨sI (sA w 9 0 0 n (bt x sh)) 9 0 1 (nI (n + 1)), ?_, ⟨fun c i z => by unfold sI sA; rw [sO_ne z, sO_ne z], by rw [sI_2]; unfold sA; rw [sO_at]; rfl, fun k hk => by rw [sI_n hk]; unfold sA; rw [sO_at]; rfl⟩, sI_i, fun i hi => ?_, ?_⟩
  · rw [fX9_feedNumber_3.eq_2]
    simp (disch := omega) only [↓mo_1, ↓mo_2, ad_m1, ite_m1_lt, ite_m2_lt, ite_le_m1, ite_eq_m1, ite_eq_m2, ite_m1_m1, ite_m2_m2, ite_T, ite_F, ite_nz, ite_zz, ite_m1_le, ite_m1_eq, oi_none, oi_some, ob_some, lw_def, ck_true, ckp_su, ite_lt_t, ite_lt_f, ite_le_t, ite_le_f, ite_eq_t, ite_eq_f, ck_inb, nI_add, sb_nI, mu_nI, nI_clamp, sO_at, sO_sO, Nat.add_sub_cancel, Nat.zero_add, Nat.add_zero, li_0, li_1, li_2, li_3, li_4, li_5, li_6, li_7, li_8, li_9, li_10, li_11, li_12, li_16, li_20, li_24, li_31, li_32, li_48, li_49, li_73, li_74, li_75, li_97, li_98, li_99, li_100, li_101, li_109, li_110, li_255, li_680, li_700, li_9999, li_65536, li_65537, h1, k1]
    rfl
  · rw [sI_2]; unfold sA; rw [sO_at, oA_a, upd_ne (by omega)]
  · rw [sI_2]; unfold sA; rw [sO_at, oA_a, upd_at]
theorem x_feedN {n : Nat} {x : Int32} (h1 : (w 9 0).1 1 = nI n) (hn : n + 4 ≤ 700) : ∃ w2 : Wd, fX9_feedNumber w x = some ((), w2) ∧ S9 w w2 ∧ (w2 9 0).1 1 = nI (n + 4) ∧ Lay ((w 9 0).2.1 0) ((w2 9 0).2.1 0) n 4 (fun k => bt x (24 - 8 * (k % 4))) := by
  obtain ⟨wa, a1, a2, a3, a4, a5⟩ := x_f1 (m := 999999) (x := x) (sh := 24) h1 (by omega) (by omega)
  obtain ⟨wb, b1, b2, b3, b4, b5⟩ := x_f1 (m := 999998) (x := x) (sh := 16) a3 (by omega) (by omega)
  obtain ⟨wc, c1, c2, c3, c4, c5⟩ := x_f1 (m := 999997) (x := x) (sh := 8) b3 (by omega) (by omega)
  obtain ⟨wd, d1, d2, d3, d4, d5⟩ := x_f1 (m := 999996) (x := x) (sh := 0) c3 (by omega) (by omega)
  refine ⟨wd, ?_, a2.tr (b2.tr (c2.tr d2)), d3, fun i hi => by rw [d4 i (by omega), c4 i (by omega), b4 i (by omega), a4 i hi], fun i hi => ?_⟩
  · have e1 : nI 24 + (-8 : Int32) = nI 16 := by decide
    have e2 : nI 16 + (-8 : Int32) = nI 8 := by decide
    have e3 : nI 8 + (-8 : Int32) = nI 0 := by decide
    show fX9_feedNumber_3 (999999 + 1) w x (nI 24) = _
    rw [a1, e1, show (999999 : Nat) = 999998 + 1 from rfl, b1, e2, show (999998 : Nat) = 999997 + 1 from rfl, c1, e3, show (999997 : Nat) = 999996 + 1 from rfl, d1, show (999996 : Nat) = 999995 + 1 from rfl, fX9_feedNumber_3.eq_2]
    exact if_pos (by decide)
  · rcases (show i = 0 ∨ i = 1 ∨ i = 2 ∨ i = 3 by omega) with rfl | rfl | rfl | rfl
    · show (wd 9 0).2.1 0 n = bt x 24
      rw [d4 _ (by omega), c4 _ (by omega), b4 _ (by omega)]; exact a5
    · rw [d4 _ (by omega), c4 _ (by omega)]; exact b5
    · rw [d4 _ (by omega)]; exact c5
    · exact d5
/-- the reference's tape -/
def S11 (w w2 : Wd) : Prop := (∀ c i, ¬ (c = 11 ∧ i = 0) → w2 c i = w c i) ∧ (w2 11 0).2.2 = (w 11 0).2.2 ∧ (∀ k, k ≠ 6 → (w2 11 0).1 k = (w 11 0).1 k) ∧ ∀ k, k ≠ 5 → (w2 11 0).2.1 k = (w 11 0).2.1 k
theorem S11.tr {w1 w2 w3 : Wd} (h : S11 w1 w2) (h2 : S11 w2 w3) : S11 w1 w3 := ⟨fun c i z => (h2.1 c i z).trans (h.1 c i z), h2.2.1.trans h.2.1, fun k z => (h2.2.2.1 k z).trans (h.2.2.1 k z), fun k z => (h2.2.2.2 k z).trans (h.2.2.2 k z)⟩
theorem m_f76 {K : Wd → Int32 → Int32 → Int32 → Int32 → Int32 → Int32 → Option (Int32 × Wd)} {n k : Nat} {a b c d e t : Int32} (h6 : (w 11 0).1 6 = nI n) (hn : n < 700) (hk : k < 20) : ∃ w2 : Wd, fX11_feed_76 K nd w a b c d e (nI k) t = K w2 a b c d e (nI (k + 1)) ∧ S11 w w2 ∧ (w2 11 0).1 6 = nI (n + 1) ∧ (∀ i, i < n → (w2 11 0).2.1 5 i = (w 11 0).2.1 5 i) ∧ (w2 11 0).2.1 5 n = bt t (24 - 8 * (k % 4)) := by
  have k1 : ∀ v, (sA w 11 0 5 n v 11 0).1 6 = nI n := fun v => by unfold sA; rw [sO_at]; exact h6
  have hm := Nat.mod_lt k (show 4 > 0 by omega)
  have e1 : nI 24 - nI 8 * (nI k - nI k / nI 4 * nI 4) = nI (24 - 8 * (k % 4)) := by rw [pk_rem (by omega) (by omega) (by omega), pk_mul, pk_sub (by omega)]
  refine ⟨sI (sA w 11 0 5 n (bt t (24 - 8 * (k % 4)))) 11 0 6 (nI (n + 1)), ?_, ⟨fun c i z => by unfold sI sA; rw [sO_ne z, sO_ne z], by rw [sI_2]; unfold sA; rw [sO_at]; rfl, fun k hk => by rw [sI_n hk]; unfold sA; rw [sO_at]; rfl, fun k hk => by rw [sI_2]; unfold sA; rw [sO_at, oA_n hk]⟩, sI_i, fun i hi => ?_, ?_⟩
  · unfold fX11_feed_76
    simp (disch := omega) only [↓mo_1, ↓mo_2, ad_m1, ite_m1_lt, ite_m2_lt, ite_le_m1, ite_eq_m1, ite_eq_m2, ite_m1_m1, ite_m2_m2, ite_T, ite_F, ite_nz, ite_zz, ite_m1_le, ite_m1_eq, oi_none, oi_some, ob_some, lw_def, ck_true, ckp_su, ite_lt_t, ite_lt_f, ite_le_t, ite_le_f, ite_eq_t, ite_eq_f, ck_inb, nI_add, nI_clamp, sO_at, sO_sO, Nat.add_sub_cancel, Nat.zero_add, Nat.add_zero, li_0, li_1, li_2, li_3, li_4, li_5, li_6, li_7, li_8, li_9, li_10, li_11, li_12, li_16, li_20, li_24, li_31, li_32, li_48, li_49, li_73, li_74, li_75, li_97, li_98, li_99, li_100, li_101, li_109, li_110, li_255, li_680, li_700, li_9999, li_65536, li_65537, h6, e1, k1]
    rfl
  · rw [sI_2]; unfold sA; rw [sO_at, oA_a, upd_ne (by omega)]
  · rw [sI_2]; unfold sA; rw [sO_at, oA_a, upd_at]
theorem m_f23 {n : Nat} {a b c d e : Int32} (hn : n + 20 ≤ 700) : ∀ r k, k + r = 20 → ∀ (m : Nat) (w : Wd), r < m → (w 11 0).1 6 = nI (n + k) → ∃ w2 : Wd, fX11_feed_23 nd m w a b c d e (nI k) = some (nI (n + 20), w2) ∧ S11 w w2 ∧ (w2 11 0).1 6 = nI (n + 20) ∧ (∀ i, i < n + k → (w2 11 0).2.1 5 i = (w 11 0).2.1 5 i) ∧ ∀ i, k ≤ i → i < 20 → (w2 11 0).2.1 5 (n + i) = byt a b c d e i := by
  intro r
  induction r with
  | zero =>
    intro k hk m w hm h6
    obtain ⟨m, rfl⟩ : ∃ z, m = z + 1 := ⟨m - 1, by omega⟩
    have e : k = 20 := by omega
    subst e
    refine ⟨w, ?_, ⟨fun _ _ _ => rfl, rfl, fun _ _ => rfl, fun _ _ => rfl⟩, h6, fun _ _ => rfl, fun i h1 h2 => absurd h2 (by omega)⟩
    rw [fX11_feed_23.eq_2]
    simp (disch := omega) only [↓mo_1, ↓mo_2, ad_m1, ite_m1_lt, ite_m2_lt, ite_le_m1, ite_eq_m1, ite_eq_m2, ite_m1_m1, ite_m2_m2, ite_T, ite_F, ite_nz, ite_zz, ite_m1_le, ite_m1_eq, oi_none, oi_some, ob_some, lw_def, ck_true, ckp_su, ite_lt_t, ite_lt_f, ite_le_t, ite_le_f, ite_eq_t, ite_eq_f, ck_inb, nI_add, sb_nI, mu_nI, nI_clamp, sO_at, sO_sO, Nat.add_sub_cancel, Nat.zero_add, Nat.add_zero, li_0, li_1, li_2, li_3, li_4, li_5, li_6, li_7, li_8, li_9, li_10, li_11, li_12, li_16, li_20, li_24, li_31, li_32, li_48, li_49, li_73, li_74, li_75, li_97, li_98, li_99, li_100, li_101, li_109, li_110, li_255, li_680, li_700, li_9999, li_65536, li_65537, h6]
  | succ r ih =>
    intro k hk m w hm h6
    obtain ⟨m, rfl⟩ : ∃ z, m = z + 1 := ⟨m - 1, by omega⟩
    obtain ⟨w3, e1, e2, e3, e4, e5⟩ := m_f76 (nd := nd) (K := fX11_feed_23 nd m) (a := a) (b := b) (c := c) (d := d) (e := e) (t := bsel a b c d e k) h6 (by omega) (show k < 20 by omega)
    obtain ⟨w2, f1, f2, f3, f4, f5⟩ := ih (k + 1) (by omega) m w3 (by omega) e3
    refine ⟨w2, ?_, e2.tr f2, f3, fun i hi => by rw [f4 i (by omega), e4 i hi], fun i h1 h2 => ?_⟩
    · rw [f1] at e1
      unfold bsel at e1
      rw [fX11_feed_23.eq_2]
      by_cases c1 : k < 4
      · rw [if_pos c1] at e1
        simp (disch := omega) only [↓mo_1, ↓mo_2, ad_m1, ite_m1_lt, ite_m2_lt, ite_le_m1, ite_eq_m1, ite_eq_m2, ite_m1_m1, ite_m2_m2, ite_T, ite_F, ite_nz, ite_zz, ite_m1_le, ite_m1_eq, oi_none, oi_some, ob_some, lw_def, ck_true, ckp_su, ite_lt_t, ite_lt_f, ite_le_t, ite_le_f, ite_eq_t, ite_eq_f, ck_inb, nI_add, sb_nI, mu_nI, nI_clamp, sO_at, sO_sO, Nat.add_sub_cancel, Nat.zero_add, Nat.add_zero, li_0, li_1, li_2, li_3, li_4, li_5, li_6, li_7, li_8, li_9, li_10, li_11, li_12, li_16, li_20, li_24, li_31, li_32, li_48, li_49, li_73, li_74, li_75, li_97, li_98, li_99, li_100, li_101, li_109, li_110, li_255, li_680, li_700, li_9999, li_65536, li_65537, e1]
      · rw [if_neg c1] at e1
        by_cases c2 : k < 8
        · rw [if_pos c2] at e1
          simp (disch := omega) only [↓mo_1, ↓mo_2, ad_m1, ite_m1_lt, ite_m2_lt, ite_le_m1, ite_eq_m1, ite_eq_m2, ite_m1_m1, ite_m2_m2, ite_T, ite_F, ite_nz, ite_zz, ite_m1_le, ite_m1_eq, oi_none, oi_some, ob_some, lw_def, ck_true, ckp_su, ite_lt_t, ite_lt_f, ite_le_t, ite_le_f, ite_eq_t, ite_eq_f, ck_inb, nI_add, sb_nI, mu_nI, nI_clamp, sO_at, sO_sO, Nat.add_sub_cancel, Nat.zero_add, Nat.add_zero, li_0, li_1, li_2, li_3, li_4, li_5, li_6, li_7, li_8, li_9, li_10, li_11, li_12, li_16, li_20, li_24, li_31, li_32, li_48, li_49, li_73, li_74, li_75, li_97, li_98, li_99, li_100, li_101, li_109, li_110, li_255, li_680, li_700, li_9999, li_65536, li_65537, e1]
        · rw [if_neg c2] at e1
          by_cases c3 : k < 12
          · rw [if_pos c3] at e1
            simp (disch := omega) only [↓mo_1, ↓mo_2, ad_m1, ite_m1_lt, ite_m2_lt, ite_le_m1, ite_eq_m1, ite_eq_m2, ite_m1_m1, ite_m2_m2, ite_T, ite_F, ite_nz, ite_zz, ite_m1_le, ite_m1_eq, oi_none, oi_some, ob_some, lw_def, ck_true, ckp_su, ite_lt_t, ite_lt_f, ite_le_t, ite_le_f, ite_eq_t, ite_eq_f, ck_inb, nI_add, sb_nI, mu_nI, nI_clamp, sO_at, sO_sO, Nat.add_sub_cancel, Nat.zero_add, Nat.add_zero, li_0, li_1, li_2, li_3, li_4, li_5, li_6, li_7, li_8, li_9, li_10, li_11, li_12, li_16, li_20, li_24, li_31, li_32, li_48, li_49, li_73, li_74, li_75, li_97, li_98, li_99, li_100, li_101, li_109, li_110, li_255, li_680, li_700, li_9999, li_65536, li_65537, e1]
          · rw [if_neg c3] at e1
            by_cases c4 : k < 16
            · rw [if_pos c4] at e1
              simp (disch := omega) only [↓mo_1, ↓mo_2, ad_m1, ite_m1_lt, ite_m2_lt, ite_le_m1, ite_eq_m1, ite_eq_m2, ite_m1_m1, ite_m2_m2, ite_T, ite_F, ite_nz, ite_zz, ite_m1_le, ite_m1_eq, oi_none, oi_some, ob_some, lw_def, ck_true, ckp_su, ite_lt_t, ite_lt_f, ite_le_t, ite_le_f, ite_eq_t, ite_eq_f, ck_inb, nI_add, sb_nI, mu_nI, nI_clamp, sO_at, sO_sO, Nat.add_sub_cancel, Nat.zero_add, Nat.add_zero, li_0, li_1, li_2, li_3, li_4, li_5, li_6, li_7, li_8, li_9, li_10, li_11, li_12, li_16, li_20, li_24, li_31, li_32, li_48, li_49, li_73, li_74, li_75, li_97, li_98, li_99, li_100, li_101, li_109, li_110, li_255, li_680, li_700, li_9999, li_65536, li_65537, e1]
            · rw [if_neg c4] at e1
              simp (disch := omega) only [↓mo_1, ↓mo_2, ad_m1, ite_m1_lt, ite_m2_lt, ite_le_m1, ite_eq_m1, ite_eq_m2, ite_m1_m1, ite_m2_m2, ite_T, ite_F, ite_nz, ite_zz, ite_m1_le, ite_m1_eq, oi_none, oi_some, ob_some, lw_def, ck_true, ckp_su, ite_lt_t, ite_lt_f, ite_le_t, ite_le_f, ite_eq_t, ite_eq_f, ck_inb, nI_add, sb_nI, mu_nI, nI_clamp, sO_at, sO_sO, Nat.add_sub_cancel, Nat.zero_add, Nat.add_zero, li_0, li_1, li_2, li_3, li_4, li_5, li_6, li_7, li_8, li_9, li_10, li_11, li_12, li_16, li_20, li_24, li_31, li_32, li_48, li_49, li_73, li_74, li_75, li_97, li_98, li_99, li_100, li_101, li_109, li_110, li_255, li_680, li_700, li_9999, li_65536, li_65537, e1]
    · by_cases z : i = k
      · rw [z, f4 _ (by omega)]; exact e5
      · exact f5 i (by omega) h2
theorem c_feed {a b c d e : Int32} : Cl (fun w => fX9_feed w a b c d e) (fun nd w => fX11_feed nd w a b c d e) := by
  intro A hA
  obtain ⟨tr, fl, pl, ⟨n, y⟩, dk⟩ := A
  have hn : n ≤ 700 := hA.1
  by_cases hc : n ≤ 680
  · refine ⟨nI (n + 20), (tr, fl, pl, (n + 20, fun i => if i < n then y i else byt a b c d e (i - n)), dk), ⟨(show n + 20 ≤ 700 by omega), fun i hi => ?_, hA.2.2⟩, fun w hw => ?_, fun nd w hw => ?_⟩
    · show -128 ≤ (if i < n then y i else byt a b c d e (i - n)).toInt ∧ (if i < n then y i else byt a b c d e (i - n)).toInt < 128
      by_cases z : i < n
      · rw [if_pos z]; exact hA.2.1 i z
      · rw [if_neg z]; exact bt_r
    · obtain ⟨q, a1, a2, a3, a4, a5, a6, a7, a8, a9⟩ := hw
      have a7 : (w 9 0).1 1 = nI n := a7
      have a8 : ∀ i, i < n → (w 9 0).2.1 0 i = y i := a8
      obtain ⟨wa, p1, p2, p3, p4⟩ := x_feedN (x := a) a7 (show n + 4 ≤ 700 by omega)
      obtain ⟨wb, q1, q2, q3, q4⟩ := x_feedN (x := b) p3 (show n + 4 + 4 ≤ 700 by omega)
      obtain ⟨wc, r1, r2, r3, r4⟩ := x_feedN (x := c) q3 (show n + 4 + 4 + 4 ≤ 700 by omega)
      obtain ⟨wd, s1, s2, s3, s4⟩ := x_feedN (x := d) r3 (show n + 4 + 4 + 4 + 4 ≤ 700 by omega)
      obtain ⟨we, t1, t2, t3, t4⟩ := x_feedN (x := e) s3 (show n + 4 + 4 + 4 + 4 + 4 ≤ 700 by omega)
      have hS := p2.tr (q2.tr (r2.tr (s2.tr t2)))
      refine ⟨we, ?_, ⟨q, a1, by rw [hS.2.1]; exact a2, by rw [hS.2.1]; exact a3, by rw [hS.2.2 13 (by decide)]; exact a4, by rw [hS.2.2 14 (by decide)]; exact a5, by rw [hS.2.2 15 (by decide)]; exact a6, t3, fun i hi => ?_, XD.cg a1 a9 (hS.1 5 q (by omega)) (fun j => hS.1 3 j (by omega)) (fun j _ => hS.1 7 j (by omega)) (hS.1 1 0 (by omega)) (hS.1 2 0 (by omega)) (hS.2.2 12 (by decide))⟩, fun c j hc => hS.1 c j (by omega)⟩
      · unfold fX9_feed
        simp (disch := omega) only [↓mo_1, ↓mo_2, ad_m1, ite_m1_lt, ite_m2_lt, ite_le_m1, ite_eq_m1, ite_eq_m2, ite_m1_m1, ite_m2_m2, ite_T, ite_F, ite_nz, ite_zz, ite_m1_le, ite_m1_eq, oi_none, oi_some, ob_some, lw_def, ck_true, ckp_su, ite_lt_t, ite_lt_f, ite_le_t, ite_le_f, ite_eq_t, ite_eq_f, ck_inb, nI_add, sb_nI, mu_nI, nI_clamp, sO_at, sO_sO, Nat.add_sub_cancel, Nat.zero_add, Nat.add_zero, li_0, li_1, li_2, li_3, li_4, li_5, li_6, li_7, li_8, li_9, li_10, li_11, li_12, li_16, li_20, li_24, li_31, li_32, li_48, li_49, li_73, li_74, li_75, li_97, li_98, li_99, li_100, li_101, li_109, li_110, li_255, li_680, li_700, li_9999, li_65536, li_65537, a7, p1, q1, r1, s1, t1, t3]
      · show (we 9 0).2.1 0 i = if i < n then y i else byt a b c d e (i - n)
        have hi' : i < n + 20 := hi
        unfold byt bsel
        by_cases z0 : i < n
        · rw [if_pos z0, t4.1 i (by omega), s4.1 i (by omega), r4.1 i (by omega), q4.1 i (by omega), p4.1 i z0]; exact a8 i z0
        · rw [if_neg z0]
          by_cases z1 : i - n < 4
          · rw [if_pos z1, t4.1 i (by omega), s4.1 i (by omega), r4.1 i (by omega), q4.1 i (by omega)]
            have := p4.2 (i - n) z1
            rw [show n + (i - n) = i by omega] at this
            exact this
          · rw [if_neg z1]
            by_cases z2 : i - n < 8
            · rw [if_pos z2, t4.1 i (by omega), s4.1 i (by omega), r4.1 i (by omega)]
              have := q4.2 (i - n - 4) (by omega)
              rw [show n + 4 + (i - n - 4) = i by omega] at this
              rw [this, show (i - n) % 4 = (i - n - 4) % 4 by omega]
            · rw [if_neg z2]
              by_cases z3 : i - n < 12
              · rw [if_pos z3, t4.1 i (by omega), s4.1 i (by omega)]
                have := r4.2 (i - n - 8) (by omega)
                rw [show n + 4 + 4 + (i - n - 8) = i by omega] at this
                rw [this, show (i - n) % 4 = (i - n - 8) % 4 by omega]
              · rw [if_neg z3]
                by_cases z4 : i - n < 16
                · rw [if_pos z4, t4.1 i (by omega)]
                  have := s4.2 (i - n - 12) (by omega)
                  rw [show n + 4 + 4 + 4 + (i - n - 12) = i by omega] at this
                  rw [this, show (i - n) % 4 = (i - n - 12) % 4 by omega]
                · rw [if_neg z4]
                  have := t4.2 (i - n - 16) (by omega)
                  rw [show n + 4 + 4 + 4 + 4 + (i - n - 16) = i by omega] at this
                  rw [this, show (i - n) % 4 = (i - n - 16) % 4 by omega]
    · have s1 : SM w (sI w 11 0 0 (nI 0)) := SM.i (by decide)
      have hw2 := hw.sm s1
      obtain ⟨c1, c2, c3, c4, c5, c6⟩ := hw2
      obtain ⟨w2, e1, e2, e3, e4, e5⟩ := m_f23 (nd := nd) (a := a) (b := b) (c := c) (d := d) (e := e) (show n + 20 ≤ 700 by omega) 20 0 (by omega) fuel0 (sI w 11 0 0 (nI 0)) (by unfold fuel0; omega) c4
      refine ⟨w2, ?_, ⟨by rw [e2.2.2.1 1 (by decide)]; exact c1, by rw [e2.2.2.1 12 (by decide)]; exact c2, by rw [e2.2.2.1 2 (by decide)]; exact c3, e3, fun i hi => ?_, MD.cg c6 (fun j => e2.1 10 j (by omega)) (by rw [e2.2.1]) (fun k hk => e2.2.2.1 k (by simp only [List.mem_cons, List.not_mem_nil, or_false] at hk; omega)) (fun k hk => e2.2.2.2 k (by simp only [List.mem_cons, List.not_mem_nil, or_false] at hk; omega))⟩, fun c j _ hc => by rw [e2.1 c j (by omega)]; exact s1.1 c j (by omega)⟩
      · have c4' : (sI w 11 0 0 (nI 0) 11 0).1 6 = nI n := c4
        unfold fX11_feed
        simp (disch := omega) only [↓mo_1, ↓mo_2, ad_m1, ite_m1_lt, ite_m2_lt, ite_le_m1, ite_eq_m1, ite_eq_m2, ite_m1_m1, ite_m2_m2, ite_T, ite_F, ite_nz, ite_zz, ite_m1_le, ite_m1_eq, oi_none, oi_some, ob_some, lw_def, ck_true, ckp_su, ite_lt_t, ite_lt_f, ite_le_t, ite_le_f, ite_eq_t, ite_eq_f, ck_inb, nI_add, sb_nI, mu_nI, nI_clamp, sO_at, sO_sO, Nat.add_sub_cancel, Nat.zero_add, Nat.add_zero, li_0, li_1, li_2, li_3, li_4, li_5, li_6, li_7, li_8, li_9, li_10, li_11, li_12, li_16, li_20, li_24, li_31, li_32, li_48, li_49, li_73, li_74, li_75, li_97, li_98, li_99, li_100, li_101, li_109, li_110, li_255, li_680, li_700, li_9999, li_65536, li_65537, c4', e1]
      · show (w2 11 0).2.1 5 i = if i < n then y i else byt a b c d e (i - n)
        have hi' : i < n + 20 := hi
        by_cases z0 : i < n
        · rw [if_pos z0, e4 i (by omega)]; exact c5 i z0
        · rw [if_neg z0]
          have := e5 (i - n) (by omega) (by omega)
          rw [show n + (i - n) = i by omega] at this
          exact this
  · refine ⟨m1, (tr, fl, pl, (n, y), dk), hA, fun w hw => ⟨w, ?_, hw, fun _ _ _ => rfl⟩, fun nd w hw => ⟨sI w 11 0 0 (nI 0), ?_, hw.sm (SM.i (by decide)), (SM.i (by decide)).fm⟩⟩
    · obtain ⟨q, a1, a2, a3, a4, a5, a6, a7, a8, a9⟩ := hw
      have a7' : (w 9 0).1 1 = nI n := a7
      unfold fX9_feed
      simp (disch := omega) only [↓mo_1, ↓mo_2, ad_m1, ite_m1_lt, ite_m2_lt, ite_le_m1, ite_eq_m1, ite_eq_m2, ite_m1_m1, ite_m2_m2, ite_T, ite_F, ite_nz, ite_zz, ite_m1_le, ite_m1_eq, oi_none, oi_some, ob_some, lw_def, ck_true, ckp_su, ite_lt_t, ite_lt_f, ite_le_t, ite_le_f, ite_eq_t, ite_eq_f, ck_inb, nI_add, sb_nI, mu_nI, nI_clamp, sO_at, sO_sO, Nat.add_sub_cancel, Nat.zero_add, Nat.add_zero, li_0, li_1, li_2, li_3, li_4, li_5, li_6, li_7, li_8, li_9, li_10, li_11, li_12, li_16, li_20, li_24, li_31, li_32, li_48, li_49, li_73, li_74, li_75, li_97, li_98, li_99, li_100, li_101, li_109, li_110, li_255, li_680, li_700, li_9999, li_65536, li_65537, a7']
    · have c4 : (sI w 11 0 0 (nI 0) 11 0).1 6 = nI n := by rw [sI_n (by decide)]; exact hw.2.2.2.1
      unfold fX11_feed
      simp (disch := omega) only [↓mo_1, ↓mo_2, ad_m1, ite_m1_lt, ite_m2_lt, ite_le_m1, ite_eq_m1, ite_eq_m2, ite_m1_m1, ite_m2_m2, ite_T, ite_F, ite_nz, ite_zz, ite_m1_le, ite_m1_eq, oi_none, oi_some, ob_some, lw_def, ck_true, ckp_su, ite_lt_t, ite_lt_f, ite_le_t, ite_le_f, ite_eq_t, ite_eq_f, ck_inb, nI_add, sb_nI, mu_nI, nI_clamp, sO_at, sO_sO, Nat.add_sub_cancel, Nat.zero_add, Nat.add_zero, li_0, li_1, li_2, li_3, li_4, li_5, li_6, li_7, li_8, li_9, li_10, li_11, li_12, li_16, li_20, li_24, li_31, li_32, li_48, li_49, li_73, li_74, li_75, li_97, li_98, li_99, li_100, li_101, li_109, li_110, li_255, li_680, li_700, li_9999, li_65536, li_65537, c4]
end SMALL
