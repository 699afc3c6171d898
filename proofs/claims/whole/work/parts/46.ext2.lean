/-! ===== extents: the reference's list, and the questions ===== -/
theorem exL_b {s : Sd} {t : Nat} (h : bgE s t = true) : exL s (t + 1) = ((exL s t).1 + 1, va_up (exL s t).2.1 (exL s t).1 t, va_up (exL s t).2.2 (exL s t).1 1) := if_pos h
theorem exL_l {s : Sd} {t : Nat} (h : ¬ bgE s t = true) (h2 : (lpS s t).isSome = true) : exL s (t + 1) = ((exL s t).1, (exL s t).2.1, va_up (exL s t).2.2 ((exL s t).1 - 1) ((exL s t).2.2 ((exL s t).1 - 1) + 1)) := (if_neg h).trans (if_pos h2)
theorem exL_n {s : Sd} {t : Nat} (h : ¬ bgE s t = true) (h2 : ¬ (lpS s t).isSome = true) : exL s (t + 1) = exL s t := (if_neg h).trans (if_neg h2)
def EXw (w : Wd) (p : Nat × (Nat → Nat) × (Nat → Nat)) : Prop := (w 11 0).1 28 = nI p.1 ∧ ∀ i, i < p.1 → (w 11 0).2.1 26 i = nI (p.2.1 i) ∧ (w 11 0).2.1 27 i = nI (p.2.2 i)
theorem fr_k {s : Sd} {n t i : Nat} (hi : i < (exL s n).1) : i < ctp (bgE s) (t + 1) ↔ (exL s n).2.1 i ≤ t := by
  obtain ⟨b1, b2, b3, -⟩ := (exI (s := s) n).1 i hi
  have h1 := ctp_t (p := bgE s) b2
  constructor
  · intro h
    by_cases c : (exL s n).2.1 i ≤ t
    · exact c
    · have := ctp_mono (p := bgE s) (a := t + 1) (b := (exL s n).2.1 i) (by omega)
      omega
  · intro h
    have := ctp_mono (p := bgE s) (a := (exL s n).2.1 i + 1) (b := t + 1) (by omega)
    omega
theorem ex_dn {s : Sd} {e : Nat} : ∀ r t, e + r = t → (lpS s t).isSome = true → (∀ u, e < u → u ≤ t → ¬ bgE s u = true) → (lpS s e).isSome = true
  | 0, t, h, hl, _ => by rw [show e = t by omega]; exact hl
  | r + 1, t, h, hl, hb => by
    obtain ⟨m, e1, e2⟩ := gw_lv hl (hb t (by omega) (Nat.le_refl _))
    exact ex_dn r m (by omega) e2 (fun u a b => hb u a (by omega))
/-- which extent a track lies in, or the next one -/
theorem ex_lv {s : Sd} {n t : Nat} (ht : t < n) (hl : (lpS s t).isSome = true) : 1 ≤ ctp (bgE s) (t + 1) ∧ ctp (bgE s) (t + 1) - 1 < (exL s n).1 ∧ (∀ i, i < ctp (bgE s) (t + 1) - 1 → (exL s n).2.1 i + (exL s n).2.2 i ≤ t) ∧ t < (exL s n).2.1 (ctp (bgE s) (t + 1) - 1) + (exL s n).2.2 (ctp (bgE s) (t + 1) - 1) := by
  have h1 : 1 ≤ ctp (bgE s) (t + 1) := by
    have := ((exI (s := s) (t + 1)).2.2 t rfl hl).1
    rw [exL_1] at this
    exact this
  have h2 := ctp_mono (p := bgE s) (a := t + 1) (b := n) (by omega)
  have h3 := exL_1 (s := s) n
  refine ⟨h1, by omega, fun i hi => ?_, ?_⟩
  · have a1 := (exI (s := s) n).2.1 i (by omega)
    have a2 := (fr_k (t := t) (show i + 1 < (exL s n).1 by omega)).mp (by omega)
    omega
  · have hk : ctp (bgE s) (t + 1) - 1 < (exL s n).1 := by omega
    obtain ⟨b1, b2, b3, b4, b5, b6, b7⟩ := (exI (s := s) n).1 _ hk
    have a2 := (fr_k (t := t) hk).mp (by omega)
    have a3 := ctp_t (p := bgE s) b2
    generalize (exL s n).2.1 (ctp (bgE s) (t + 1) - 1) = fr at *
    generalize (exL s n).2.2 (ctp (bgE s) (t + 1) - 1) = mn at *
    by_cases c : t < fr + mn
    · exact c
    · exfalso
      have hno : ∀ u, fr < u → u ≤ t → ¬ bgE s u = true := fun u x y z => by
        have c1 := ctp_t (p := bgE s) z
        have c2 := ctp_mono (p := bgE s) (a := u + 1) (b := t + 1) (by omega)
        have c3 := ctp_mono (p := bgE s) (a := fr + 1) (b := u) (by omega)
        omega
      have hle := ex_dn (e := fr + mn) (t - (fr + mn)) t (by omega) hl (fun u x y => hno u (by omega) y)
      rcases b7 (by omega) with h | h
      · exact h hle
      · exact hno _ (by omega) (by omega) h
theorem ex_nl {s : Sd} {n t : Nat} (ht : t < n) (hl : ¬ (lpS s t).isSome = true) : ctp (bgE s) (t + 1) ≤ (exL s n).1 ∧ (∀ i, i < ctp (bgE s) (t + 1) → (exL s n).2.1 i + (exL s n).2.2 i ≤ t) ∧ (ctp (bgE s) (t + 1) < (exL s n).1 → t < (exL s n).2.1 (ctp (bgE s) (t + 1)) + (exL s n).2.2 (ctp (bgE s) (t + 1))) := by
  have h2 := ctp_mono (p := bgE s) (a := t + 1) (b := n) (by omega)
  have h3 := exL_1 (s := s) n
  refine ⟨by omega, fun i hi => ?_, fun hk => ?_⟩
  · have hi' : i < (exL s n).1 := by omega
    obtain ⟨b1, b2, b3, b4, b5, b6, b7⟩ := (exI (s := s) n).1 i hi'
    have a2 := (fr_k (t := t) hi').mp hi
    by_cases c : (exL s n).2.1 i + (exL s n).2.2 i ≤ t
    · exact c
    · exfalso
      by_cases e : (exL s n).2.1 i = t
      · rw [e] at b2
        unfold bgE at b2
        cases hz : (lpS s t).isSome with
        | true => exact hl hz
        | false => rw [hz] at b2; cases b2
      · exact hl (b6 t (by omega) (by omega)).1
  · have a2 := fr_k (t := t) hk
    have b4 := ((exI (s := s) n).1 _ hk).2.2.2.1
    have : ¬ (exL s n).2.1 (ctp (bgE s) (t + 1)) ≤ t := fun z => absurd (a2.mpr z) (Nat.lt_irrefl _)
    omega
section EXM
variable {w : Wd} {D : Dk} {s : Sd} {nd : Nat} {f : Nat → Int32}
theorem m_ex (hD : WFD D) (hW : WFS D s) (hR : RM f s) {d : Nat} (hd : d < nd) : ∀ r t, t + r = dnt D → ∀ (m : Nat) (w : Wd), r < m → (w 11 0).2.2.1 3 = d + 1 → (w 10 d).1 3 = nI (dnt D) → EXw w (exL s t) → ∃ w2 : Wd, fX11_extentsNow_11 nd m (mX w f) (nI t) = some ((), mX w2 f) ∧ SM w w2 ∧ EXw w2 (exL s (dnt D)) := by
  have h48 := hD.2.2.2.1
  have h24 := hW.n24 hD
  intro r
  induction r with
  | zero =>
    intro t ht m w hm hp h3 hE
    obtain ⟨m, rfl⟩ : ∃ z, m = z + 1 := ⟨m - 1, by omega⟩
    have e : t = dnt D := by omega
    subst e
    refine ⟨w, ?_, SM.rf, hE⟩
    rw [fX11_extentsNow_11.eq_2]
    simp (disch := omega) only [↓mo_1, ↓mo_2, ad_m1, ite_m1_lt, ite_m2_lt, ite_le_m1, ite_eq_m1, ite_eq_m2, ite_m1_m1, ite_m2_m2, ite_T, ite_F, ite_nz, ite_zz, ite_m1_le, ite_m1_eq, oi_none, oi_some, ob_some, lw_def, ck_true, ckp_su, ite_lt_t, ite_lt_f, ite_le_t, ite_le_f, ite_eq_t, ite_eq_f, ck_inb, nI_add, sb_nI, mu_nI, nI_clamp, sO_at, sO_sO, Nat.add_sub_cancel, Nat.zero_add, Nat.add_zero, li_0, li_1, li_2, li_3, li_4, li_5, li_6, li_7, li_8, li_9, li_10, li_11, li_12, li_16, li_20, li_24, li_31, li_32, li_48, li_49, li_73, li_74, li_75, li_97, li_98, li_99, li_100, li_101, li_109, li_110, li_255, li_680, li_700, li_9999, li_65536, li_65537, mX_p, hp, mX_10, h3]
  | succ r ih =>
    intro t ht m w hm hp h3 hE
    obtain ⟨m, rfl⟩ : ∃ z, m = z + 1 := ⟨m - 1, by omega⟩
    have hc : (exL s t).1 ≤ t := by rw [exL_1]; exact ctp_le _ _
    rw [fX11_extentsNow_11.eq_2]
    simp (disch := omega) only [↓mo_1, ↓mo_2, ad_m1, ite_m1_lt, ite_m2_lt, ite_le_m1, ite_eq_m1, ite_eq_m2, ite_m1_m1, ite_m2_m2, ite_T, ite_F, ite_nz, ite_zz, ite_m1_le, ite_m1_eq, oi_none, oi_some, ob_some, lw_def, ck_true, ckp_su, ite_lt_t, ite_lt_f, ite_le_t, ite_le_f, ite_eq_t, ite_eq_f, ck_inb, nI_add, sb_nI, mu_nI, nI_clamp, sO_at, sO_sO, Nat.add_sub_cancel, Nat.zero_add, Nat.add_zero, li_0, li_1, li_2, li_3, li_4, li_5, li_6, li_7, li_8, li_9, li_10, li_11, li_12, li_16, li_20, li_24, li_31, li_32, li_48, li_49, li_73, li_74, li_75, li_97, li_98, li_99, li_100, li_101, li_109, li_110, li_255, li_680, li_700, li_9999, li_65536, li_65537, mX_p, hp, mX_10, h3, m_liveOf hD hW hR]
    cases hl : lpS s t with
    | none =>
      have hb : ¬ bgE s t = true := by unfold bgE; rw [hl]; simp
      obtain ⟨w2, e1, e2⟩ := ih (t + 1) (by omega) m w (by omega) hp h3 (by rw [exL_n hb (by rw [hl]; simp)]; exact hE)
      refine ⟨w2, ?_, e2⟩
      simp (disch := omega) only [↓mo_1, ↓mo_2, ad_m1, ite_m1_lt, ite_m2_lt, ite_le_m1, ite_eq_m1, ite_eq_m2, ite_m1_m1, ite_m2_m2, ite_T, ite_F, ite_nz, ite_zz, ite_m1_le, ite_m1_eq, oi_none, oi_some, ob_some, lw_def, ck_true, ckp_su, ite_lt_t, ite_lt_f, ite_le_t, ite_le_f, ite_eq_t, ite_eq_f, ck_inb, nI_add, sb_nI, mu_nI, nI_clamp, sO_at, sO_sO, Nat.add_sub_cancel, Nat.zero_add, Nat.add_zero, li_0, li_1, li_2, li_3, li_4, li_5, li_6, li_7, li_8, li_9, li_10, li_11, li_12, li_16, li_20, li_24, li_31, li_32, li_48, li_49, li_73, li_74, li_75, li_97, li_98, li_99, li_100, li_101, li_109, li_110, li_255, li_680, li_700, li_9999, li_65536, li_65537]
      exact e1
    | some a =>
      have ha := (lpS_lt hl).1
      have hl2 : (lpS s t).isSome = true := by rw [hl]; rfl
      simp (disch := omega) only [↓mo_1, ↓mo_2, ad_m1, ite_m1_lt, ite_m2_lt, ite_le_m1, ite_eq_m1, ite_eq_m2, ite_m1_m1, ite_m2_m2, ite_T, ite_F, ite_nz, ite_zz, ite_m1_le, ite_m1_eq, oi_none, oi_some, ob_some, lw_def, ck_true, ckp_su, ite_lt_t, ite_lt_f, ite_le_t, ite_le_f, ite_eq_t, ite_eq_f, ck_inb, nI_add, sb_nI, mu_nI, nI_clamp, sO_at, sO_sO, Nat.add_sub_cancel, Nat.zero_add, Nat.add_zero, li_0, li_1, li_2, li_3, li_4, li_5, li_6, li_7, li_8, li_9, li_10, li_11, li_12, li_16, li_20, li_24, li_31, li_32, li_48, li_49, li_73, li_74, li_75, li_97, li_98, li_99, li_100, li_101, li_109, li_110, li_255, li_680, li_700, li_9999, li_65536, li_65537, m_goesWith hD hW hR]
      by_cases hb : bgE s t = true
      · have hg : gwE s t = false := by
          unfold bgE at hb
          rw [hl2] at hb
          cases hg : gwE s t with
          | true => rw [hg] at hb; cases hb
          | false => rfl
        have q1 : ∀ v, (sA w 11 0 26 (exL s t).1 v 11 0).1 28 = nI (exL s t).1 := fun v => by unfold sA; rw [sO_at]; exact hE.1
        have q2 : ∀ u v, (sA (sA w 11 0 26 (exL s t).1 u) 11 0 27 (exL s t).1 v 11 0).1 28 = nI (exL s t).1 := fun u v => by unfold sA; rw [sO_at, sO_at]; exact hE.1
        obtain ⟨w2, e1, e2, e3⟩ := ih (t + 1) (by omega) m (sI (sA (sA w 11 0 26 (exL s t).1 (nI t)) 11 0 27 (exL s t).1 (nI 1)) 11 0 28 (nI ((exL s t).1 + 1))) (by omega) (by unfold sI sA; rw [sO_at, sO_at, sO_at]; exact hp) (by unfold sI sA; rw [sO_nc (by decide), sO_nc (by decide), sO_nc (by decide)]; exact h3) (by
          rw [exL_b hb]
          refine ⟨sI_i, fun i hi => ?_⟩
          rw [sI_2]
          unfold sA
          rw [sO_at, sO_at, oA_n (by decide), oA_a, oA_a, oA_n (by decide)]
          show _ = nI (va_up (exL s t).2.1 (exL s t).1 t i) ∧ _ = nI (va_up (exL s t).2.2 (exL s t).1 1 i)
          by_cases z : i = (exL s t).1
          · rw [z, upd_at, upd_at, va_up_self, va_up_self]; exact ⟨rfl, rfl⟩
          · rw [upd_ne z, upd_ne z, va_up_ne _ _ z, va_up_ne _ _ z]
            exact hE.2 i (by have : i < (exL s t).1 + 1 := hi; omega))
        refine ⟨w2, ?_, (SM.a (by decide)).tr ((SM.a (by decide)).tr ((SM.i (by decide)).tr e2)), e3⟩
        simp (disch := first | omega | decide) only [↓mo_1, ↓mo_2, ad_m1, ite_m1_lt, ite_m2_lt, ite_le_m1, ite_eq_m1, ite_eq_m2, ite_m1_m1, ite_m2_m2, ite_T, ite_F, ite_nz, ite_zz, ite_m1_le, ite_m1_eq, oi_none, oi_some, ob_some, lw_def, ck_true, ckp_su, ite_lt_t, ite_lt_f, ite_le_t, ite_le_f, ite_eq_t, ite_eq_f, ck_inb, nI_add, sb_nI, mu_nI, nI_clamp, sO_at, sO_sO, Nat.add_sub_cancel, Nat.zero_add, Nat.add_zero, li_0, li_1, li_2, li_3, li_4, li_5, li_6, li_7, li_8, li_9, li_10, li_11, li_12, li_16, li_20, li_24, li_31, li_32, li_48, li_49, li_73, li_74, li_75, li_97, li_98, li_99, li_100, li_101, li_109, li_110, li_255, li_680, li_700, li_9999, li_65536, li_65537, hg, b2i_f, mX_i, hE.1, mX_A, q1, q2, mX_I]
        exact e1
      · have hg : gwE s t = true := by
          unfold bgE at hb
          rw [hl2] at hb
          cases hg : gwE s t with
          | true => rfl
          | false => rw [hg] at hb; exact absurd rfl hb
        obtain ⟨z, e1, e2⟩ := gw_lv hl2 hb
        have c1 := ((exI (s := s) t).2.2 z e1 e2).1
        have q3 := (hE.2 ((exL s t).1 - 1) (by omega)).2
        obtain ⟨w2, e1, e2, e3⟩ := ih (t + 1) (by omega) m (sA w 11 0 27 ((exL s t).1 - 1) (nI ((exL s t).2.2 ((exL s t).1 - 1) + 1))) (by omega) (by unfold sA; rw [sO_at]; exact hp) (by unfold sA; rw [sO_nc (by decide)]; exact h3) (by
          rw [exL_l hb hl2]
          unfold sA
          refine ⟨by rw [sO_at]; exact hE.1, fun i hi => ?_⟩
          rw [sO_at, oA_n (by decide), oA_a]
          refine ⟨(hE.2 i hi).1, ?_⟩
          show _ = nI (va_up (exL s t).2.2 ((exL s t).1 - 1) ((exL s t).2.2 ((exL s t).1 - 1) + 1) i)
          by_cases z : i = (exL s t).1 - 1
          · rw [z, upd_at, va_up_self]
          · rw [upd_ne z, va_up_ne _ _ z]
            exact (hE.2 i hi).2)
        refine ⟨w2, ?_, (SM.a (by decide)).tr e2, e3⟩
        simp (disch := first | omega | decide) only [↓mo_1, ↓mo_2, ad_m1, ite_m1_lt, ite_m2_lt, ite_le_m1, ite_eq_m1, ite_eq_m2, ite_m1_m1, ite_m2_m2, ite_T, ite_F, ite_nz, ite_zz, ite_m1_le, ite_m1_eq, oi_none, oi_some, ob_some, lw_def, ck_true, ckp_su, ite_lt_t, ite_lt_f, ite_le_t, ite_le_f, ite_eq_t, ite_eq_f, ck_inb, nI_add, sb_nI, mu_nI, nI_clamp, sO_at, sO_sO, Nat.add_sub_cancel, Nat.zero_add, Nat.add_zero, li_0, li_1, li_2, li_3, li_4, li_5, li_6, li_7, li_8, li_9, li_10, li_11, li_12, li_16, li_20, li_24, li_31, li_32, li_48, li_49, li_73, li_74, li_75, li_97, li_98, li_99, li_100, li_101, li_109, li_110, li_255, li_680, li_700, li_9999, li_65536, li_65537, hg, b2i_t, mX_i, hE.1, mX_r, q3, mX_A]
        exact e1
theorem m_extentsNow (hD : WFD D) {d : Nat} (hd : d < nd) (hp : (w 11 0).2.2.1 3 = d + 1) (hR : RDm (w 10 d) D) (h3 : (w 10 d).1 3 = nI (dnt D)) (hW : WFS D s) (hM : RM ((w 11 0).2.1 15) s) : ∃ (w2 : Wd) (g : Nat → Int32), fX11_extentsNow nd w = some ((), mX w2 g) ∧ RM g s ∧ SM w w2 ∧ EXw w2 (exL s (dnt D)) := by
  have h48 := hD.2.2.2.1
  obtain ⟨w2, g, c1, c2, c3, c4, -⟩ := m_works hD hd hp hR hW hM
  obtain ⟨w3, e1, e2, e3⟩ := m_ex hD hW c3 hd (dnt D) 0 (by omega) fuel0 (sI w2 11 0 28 (nI 0)) (by unfold fuel0; omega) (by rw [sI_2, c4.2.1]; exact hp) (by rw [sI_nc (by decide), c4.1 10 d (by omega)]; exact h3) ⟨sI_i, fun i hi => absurd hi (Nat.not_lt_zero i)⟩
  refine ⟨w3, g, ?_, c3, c4.tr ((SM.i (by decide)).tr e2), e3⟩
  unfold fX11_extentsNow
  simp (disch := omega) only [↓mo_1, ↓mo_2, ad_m1, ite_m1_lt, ite_m2_lt, ite_le_m1, ite_eq_m1, ite_eq_m2, ite_m1_m1, ite_m2_m2, ite_T, ite_F, ite_nz, ite_zz, ite_m1_le, ite_m1_eq, oi_none, oi_some, ob_some, lw_def, ck_true, ckp_su, ite_lt_t, ite_lt_f, ite_le_t, ite_le_f, ite_eq_t, ite_eq_f, ck_inb, nI_add, sb_nI, mu_nI, nI_clamp, sO_at, sO_sO, Nat.add_sub_cancel, Nat.zero_add, Nat.add_zero, li_0, li_1, li_2, li_3, li_4, li_5, li_6, li_7, li_8, li_9, li_10, li_11, li_12, li_16, li_20, li_24, li_31, li_32, li_48, li_49, li_73, li_74, li_75, li_97, li_98, li_99, li_100, li_101, li_109, li_110, li_255, li_680, li_700, li_9999, li_65536, li_65537, c1, mX_I]
  exact e1
theorem m_ef {n t a : Nat} (hn : n ≤ 48) (ht : t < n) (hE : EXw w (exL s n)) (ha : a ≤ (exL s n).1) (h1 : ∀ i, i < a → (exL s n).2.1 i + (exL s n).2.2 i ≤ t) (h2 : a < (exL s n).1 → t < (exL s n).2.1 a + (exL s n).2.2 a) : ∀ r i, i + r = a → ∀ m, r < m → fX11_extentFrom_25 nd m (mX w f) (nI t) (nI i) = some (if a < (exL s n).1 then nI a else m2, mT (mX w f) (nI 0)) := by
  have hc : (exL s n).1 ≤ n := by rw [exL_1]; exact ctp_le _ _
  intro r
  induction r with
  | zero =>
    intro i hi m hm
    obtain ⟨m, rfl⟩ : ∃ z, m = z + 1 := ⟨m - 1, by omega⟩
    have e : i = a := by omega
    subst e
    rw [fX11_extentFrom_25.eq_2]
    by_cases c : i < (exL s n).1
    · obtain ⟨e1, e2⟩ := hE.2 i c
      have b5 := ((exI (s := s) n).1 i c).2.2.2.2.1
      have := h2 c
      rw [if_pos c]
      simp (disch := first | omega | decide) only [↓mo_1, ↓mo_2, ad_m1, ite_m1_lt, ite_m2_lt, ite_le_m1, ite_eq_m1, ite_eq_m2, ite_m1_m1, ite_m2_m2, ite_T, ite_F, ite_nz, ite_zz, ite_m1_le, ite_m1_eq, oi_none, oi_some, ob_some, lw_def, ck_true, ckp_su, ite_lt_t, ite_lt_f, ite_le_t, ite_le_f, ite_eq_t, ite_eq_f, ck_inb, nI_add, sb_nI, mu_nI, nI_clamp, sO_at, sO_sO, Nat.add_sub_cancel, Nat.zero_add, Nat.add_zero, li_0, li_1, li_2, li_3, li_4, li_5, li_6, li_7, li_8, li_9, li_10, li_11, li_12, li_16, li_20, li_24, li_31, li_32, li_48, li_49, li_73, li_74, li_75, li_97, li_98, li_99, li_100, li_101, li_109, li_110, li_255, li_680, li_700, li_9999, li_65536, li_65537, mX_i, hE.1, mX_r, e1, e2, m_good]
    · rw [if_neg c]
      simp (disch := first | omega | decide) only [↓mo_1, ↓mo_2, ad_m1, ite_m1_lt, ite_m2_lt, ite_le_m1, ite_eq_m1, ite_eq_m2, ite_m1_m1, ite_m2_m2, ite_T, ite_F, ite_nz, ite_zz, ite_m1_le, ite_m1_eq, oi_none, oi_some, ob_some, lw_def, ck_true, ckp_su, ite_lt_t, ite_lt_f, ite_le_t, ite_le_f, ite_eq_t, ite_eq_f, ck_inb, nI_add, sb_nI, mu_nI, nI_clamp, sO_at, sO_sO, Nat.add_sub_cancel, Nat.zero_add, Nat.add_zero, li_0, li_1, li_2, li_3, li_4, li_5, li_6, li_7, li_8, li_9, li_10, li_11, li_12, li_16, li_20, li_24, li_31, li_32, li_48, li_49, li_73, li_74, li_75, li_97, li_98, li_99, li_100, li_101, li_109, li_110, li_255, li_680, li_700, li_9999, li_65536, li_65537, mX_i, hE.1, m_good]
  | succ r ih =>
    intro i hi m hm
    obtain ⟨m, rfl⟩ : ∃ z, m = z + 1 := ⟨m - 1, by omega⟩
    obtain ⟨e1, e2⟩ := hE.2 i (by omega)
    have b5 := ((exI (s := s) n).1 i (by omega)).2.2.2.2.1
    have := h1 i (by omega)
    rw [fX11_extentFrom_25.eq_2]
    simp (disch := first | omega | decide) only [↓mo_1, ↓mo_2, ad_m1, ite_m1_lt, ite_m2_lt, ite_le_m1, ite_eq_m1, ite_eq_m2, ite_m1_m1, ite_m2_m2, ite_T, ite_F, ite_nz, ite_zz, ite_m1_le, ite_m1_eq, oi_none, oi_some, ob_some, lw_def, ck_true, ckp_su, ite_lt_t, ite_lt_f, ite_le_t, ite_le_f, ite_eq_t, ite_eq_f, ck_inb, nI_add, sb_nI, mu_nI, nI_clamp, sO_at, sO_sO, Nat.add_sub_cancel, Nat.zero_add, Nat.add_zero, li_0, li_1, li_2, li_3, li_4, li_5, li_6, li_7, li_8, li_9, li_10, li_11, li_12, li_16, li_20, li_24, li_31, li_32, li_48, li_49, li_73, li_74, li_75, li_97, li_98, li_99, li_100, li_101, li_109, li_110, li_255, li_680, li_700, li_9999, li_65536, li_65537, mX_i, hE.1, mX_r, e1, e2]
    exact ih (i + 1) (by omega) m (by omega)
end EXM
