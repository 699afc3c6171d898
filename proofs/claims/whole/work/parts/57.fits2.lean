/-! ===== the sets that fit: the reference, and the questions ===== -/
section FM
variable {D : Dk} {T : Tk} {nd : Nat}
theorem bN_2 {n k : Nat} : bitN n k = 0 ∨ bitN n k = 1 := by
  have : bitN n k < 2 := Nat.mod_lt _ (by omega)
  omega
/-- only the row of bits changes -/
def S32 (w w2 : Wd) : Prop := (∀ c i, ¬ (c = 11 ∧ i = 0) → w2 c i = w c i) ∧ (w2 11 0).2.2.1 = (w 11 0).2.2.1 ∧ (w2 11 0).1 = (w 11 0).1 ∧ SW w w2
theorem S32.a {w : Wd} {i : Nat} {v : Int32} : S32 w (sA w 11 0 32 i v) := ⟨fun c i z => sO_ne z, by unfold sA; rw [sO_at]; rfl, by unfold sA; rw [sO_at]; rfl, SW.a (by decide)⟩
theorem S32.tr {w w2 w3 : Wd} (h : S32 w w2) (h2 : S32 w2 w3) : S32 w w3 := ⟨fun c i z => (h2.1 c i z).trans (h.1 c i z), h2.2.1.trans h.2.1, h2.2.2.1.trans h.2.2.1, h.2.2.2.tr h2.2.2.2⟩
theorem m_118 {K : Wd → Int32 → Int32 → Int32 → Option (Int32 × Wd)} {d n : Nat} {g : Nat → Nat} {x1 x2 : Int32} (hT : WFT D T) (hd : d < nd) (hn : n < 16) : ∀ r k, k + r = T.2.2.1.1 → ∀ (m : Nat) (w : Wd), r < m → (w 11 0).2.2.1 3 = d + 1 → (w 10 d).1 6 = nI T.2.2.1.1 → (∀ j, j < k → (w 11 0).2.1 32 j = nI (g j + bitN n j)) → (∀ j, k ≤ j → j < T.2.2.1.1 → (w 11 0).2.1 32 j = nI (g j)) → ∃ w2 : Wd, fX11_fitting_118 K nd m w x1 x2 (nI n) (nI k) = K w2 x1 x2 (nI (n + 1)) ∧ (∀ j, j < T.2.2.1.1 → (w2 11 0).2.1 32 j = nI (g j + bitN n j)) ∧ (w2 = w ∨ S32 w w2) := by
  have h4 := hT.2.2.1.1
  intro r
  induction r with
  | zero =>
    intro k hk m w hm hp h6 ha hb
    obtain ⟨m, rfl⟩ : ∃ z, m = z + 1 := ⟨m - 1, by omega⟩
    have e : k = T.2.2.1.1 := by omega
    subst e
    refine ⟨w, ?_, ha, Or.inl rfl⟩
    rw [fX11_fitting_118.eq_2]
    simp (disch := omega) only [↓mo_1, ↓mo_2, ad_m1, ite_m1_lt, ite_m2_lt, ite_le_m1, ite_eq_m1, ite_eq_m2, ite_m1_m1, ite_m2_m2, ite_T, ite_F, ite_nz, ite_zz, ite_m1_le, ite_m1_eq, oi_none, oi_some, ob_some, lw_def, ck_true, ckp_su, ite_lt_t, ite_lt_f, ite_le_t, ite_le_f, ite_eq_t, ite_eq_f, ck_inb, nI_add, sb_nI, mu_nI, nI_clamp, sO_at, sO_sO, Nat.add_sub_cancel, Nat.zero_add, Nat.add_zero, li_0, li_1, li_2, li_3, li_4, li_5, li_6, li_7, li_8, li_9, li_10, li_11, li_12, li_16, li_20, li_24, li_31, li_32, li_48, li_49, li_73, li_74, li_75, li_97, li_98, li_99, li_100, li_101, li_109, li_110, li_255, li_680, li_700, li_9999, li_65536, li_65537, hp, h6]
  | succ r ih =>
    intro k hk m w hm hp h6 ha hb
    obtain ⟨m, rfl⟩ : ∃ z, m = z + 1 := ⟨m - 1, by omega⟩
    have h32 := hb k (Nat.le_refl _) (by omega)
    obtain ⟨w2, e1, e2, e3⟩ := ih (k + 1) (by omega) m (sA w 11 0 32 k (nI (g k + bitN n k))) (by omega) (by unfold sA; rw [sO_at]; exact hp) (by unfold sA; rw [sO_nc (by decide)]; exact h6) (fun j hj => by
      unfold sA
      rw [sO_at, oA_a]
      by_cases c : j = k
      · rw [c, upd_at]
      · rw [upd_ne c]; exact ha j (by omega)) (fun j hj hj2 => by
      unfold sA
      rw [sO_at, oA_a, upd_ne (by omega)]
      exact hb j (by omega) hj2)
    refine ⟨w2, ?_, e2, ?_⟩
    · rw [fX11_fitting_118.eq_2]
      have hbit := bit_e (show n < 16 by omega) (show k < 4 by omega)
      rcases bN_2 (n := n) (k := k) with c | c
      · rw [c] at hbit e1
        have e5 := m_bit_f (nd := nd) (w := w) (S := nI n) (u := k) (by rw [hbit]; exact fun z => absurd ((nI_eq (by omega) (by omega)).mp z) (by omega))
        simp (disch := omega) only [↓mo_1, ↓mo_2, ad_m1, ite_m1_lt, ite_m2_lt, ite_le_m1, ite_eq_m1, ite_eq_m2, ite_m1_m1, ite_m2_m2, ite_T, ite_F, ite_nz, ite_zz, ite_m1_le, ite_m1_eq, oi_none, oi_some, ob_some, lw_def, ck_true, ckp_su, ite_lt_t, ite_lt_f, ite_le_t, ite_le_f, ite_eq_t, ite_eq_f, ck_inb, nI_add, sb_nI, mu_nI, nI_clamp, sO_at, sO_sO, Nat.add_sub_cancel, Nat.zero_add, Nat.add_zero, li_0, li_1, li_2, li_3, li_4, li_5, li_6, li_7, li_8, li_9, li_10, li_11, li_12, li_16, li_20, li_24, li_31, li_32, li_48, li_49, li_73, li_74, li_75, li_97, li_98, li_99, li_100, li_101, li_109, li_110, li_255, li_680, li_700, li_9999, li_65536, li_65537, hp, h6, e5, h32]
        exact e1
      · rw [c] at hbit e1
        have e5 := m_bit_t (nd := nd) (w := w) (S := nI n) (u := k) hbit
        simp (disch := omega) only [↓mo_1, ↓mo_2, ad_m1, ite_m1_lt, ite_m2_lt, ite_le_m1, ite_eq_m1, ite_eq_m2, ite_m1_m1, ite_m2_m2, ite_T, ite_F, ite_nz, ite_zz, ite_m1_le, ite_m1_eq, oi_none, oi_some, ob_some, lw_def, ck_true, ckp_su, ite_lt_t, ite_lt_f, ite_le_t, ite_le_f, ite_eq_t, ite_eq_f, ck_inb, nI_add, sb_nI, mu_nI, nI_clamp, sO_at, sO_sO, Nat.add_sub_cancel, Nat.zero_add, Nat.add_zero, li_0, li_1, li_2, li_3, li_4, li_5, li_6, li_7, li_8, li_9, li_10, li_11, li_12, li_16, li_20, li_24, li_31, li_32, li_48, li_49, li_73, li_74, li_75, li_97, li_98, li_99, li_100, li_101, li_109, li_110, li_255, li_680, li_700, li_9999, li_65536, li_65537, hp, h6, e5, h32]
        exact e1
    · rcases e3 with e3 | e3
      · rw [e3]; exact Or.inr S32.a
      · exact Or.inr (S32.a.tr e3)
/-- what the reference has counted, behind n sets -/
def FIw (w : Wd) (D : Dk) (T : Tk) (n : Nat) : Prop := (w 11 0).1 29 = nI (ctp (fitB D T) n) ∧ (w 11 0).1 30 = fp op1 (nI 0) (fitB D T) n ∧ (w 11 0).1 31 = fp op2 (nI (2 ^ T.2.2.1.1 - 1)) (fitB D T) n ∧ ∀ k, k < T.2.2.1.1 → (w 11 0).2.1 32 k = nI (obS D T k n)
theorem fitB_n {n : Nat} (h : wrS D T (nI n) = none) : fitB D T n = true := by unfold fitB; rw [h]
theorem fitB_s {n i : Nat} (h : wrS D T (nI n) = some i) : ¬ fitB D T n = true := by unfold fitB; rw [h]; simp
theorem wr_lt {s : Sd} {i : Nat} : ∀ k, wrR D T s k = some i → i < k
  | 0, h => by cases h
  | k + 1, h => by
    unfold wrR at h
    cases hq : wrR D T s k with
    | some z =>
      rw [hq] at h
      cases h
      have := wr_lt k hq
      omega
    | none =>
      rw [hq] at h
      have h' : (if vaS s (T.2.2.2.2.1 k) = T.2.2.2.2.2 k then none else some k) = some i := h
      by_cases c : vaS s (T.2.2.2.2.1 k) = T.2.2.2.2.2 k
      · rw [if_pos c] at h'; cases h'
      · rw [if_neg c] at h'; cases h'; omega
theorem m_49 {d : Nat} {x : Int32} (hD : WFD D) (hT : WFT D T) (hd : d < nd) : ∀ r n, n + r = 2 ^ T.2.2.1.1 → ∀ (m : Nat) (w : Wd), r < m → (w 11 0).2.2.1 3 = d + 1 → RDm (w 10 d) D → RTm (w 10 d) D T → FIw w D T n → ∃ w2 : Wd, fX11_fitting_49 nd m w x (fdX D T x n) (nI n) = some (fdX D T x (2 ^ T.2.2.1.1), w2) ∧ SW w w2 ∧ (w2 11 0).1 29 = nI (ctp (fitB D T) (2 ^ T.2.2.1.1)) ∧ (w2 11 0).1 30 = fp op1 (nI 0) (fitB D T) (2 ^ T.2.2.1.1) ∧ (w2 11 0).1 31 = evS D T ∧ ∀ k, k < T.2.2.1.1 → (w2 11 0).2.1 32 k = nI (obS D T k (2 ^ T.2.2.1.1)) := by
  have h4 := hT.2.2.1.1
  have hp2 := p2_16 h4
  have h6 := hT.2.2.2.1
  have hs := shl_u h4
  intro r
  induction r with
  | zero =>
    intro n hn m w hm hp hR hTm hF
    obtain ⟨m, rfl⟩ : ∃ z, m = z + 1 := ⟨m - 1, by omega⟩
    have e : n = 2 ^ T.2.2.1.1 := by omega
    rw [← e] at hs ⊢
    have hc := ctp_le (fitB D T) n
    have hev := fp_an (D := D) (T := T) h4 n (by omega)
    rw [← e] at hev
    obtain ⟨f1, f2, f3, f4⟩ := hF
    rw [fX11_fitting_49.eq_2]
    by_cases c : ctp (fitB D T) n = 0
    · have e5 : evS D T = nI 0 := by unfold evS; rw [← e, if_pos c]
      rw [e5]
      refine ⟨sI w 11 0 31 (nI 0), ?_, SW.i (by decide), by rw [sI_n (by decide)]; exact f1, by rw [sI_n (by decide)]; exact f2, sI_i, by rw [sI_2]; exact f4⟩
      simp (disch := omega) only [↓mo_1, ↓mo_2, ad_m1, ite_m1_lt, ite_m2_lt, ite_le_m1, ite_eq_m1, ite_eq_m2, ite_m1_m1, ite_m2_m2, ite_T, ite_F, ite_nz, ite_zz, ite_m1_le, ite_m1_eq, oi_none, oi_some, ob_some, lw_def, ck_true, ckp_su, ite_lt_t, ite_lt_f, ite_le_t, ite_le_f, ite_eq_t, ite_eq_f, ck_inb, nI_add, sb_nI, mu_nI, nI_clamp, sO_at, sO_sO, Nat.add_sub_cancel, Nat.zero_add, Nat.add_zero, li_0, li_1, li_2, li_3, li_4, li_5, li_6, li_7, li_8, li_9, li_10, li_11, li_12, li_16, li_20, li_24, li_31, li_32, li_48, li_49, li_73, li_74, li_75, li_97, li_98, li_99, li_100, li_101, li_109, li_110, li_255, li_680, li_700, li_9999, li_65536, li_65537, hp, hTm.2.2.2.1.1, hs, f1, c]
    · have e5 : evS D T = fp op2 (nI 15) (fitB D T) n := by unfold evS; rw [← e, if_neg c]
      rw [e5]
      refine ⟨w, ?_, SW.rf, f1, f2, ?_, f4⟩
      · simp (disch := omega) only [↓mo_1, ↓mo_2, ad_m1, ite_m1_lt, ite_m2_lt, ite_le_m1, ite_eq_m1, ite_eq_m2, ite_m1_m1, ite_m2_m2, ite_T, ite_F, ite_nz, ite_zz, ite_m1_le, ite_m1_eq, oi_none, oi_some, ob_some, lw_def, ck_true, ckp_su, ite_lt_t, ite_lt_f, ite_le_t, ite_le_f, ite_eq_t, ite_eq_f, ck_inb, nI_add, sb_nI, mu_nI, nI_clamp, sO_at, sO_sO, Nat.add_sub_cancel, Nat.zero_add, Nat.add_zero, li_0, li_1, li_2, li_3, li_4, li_5, li_6, li_7, li_8, li_9, li_10, li_11, li_12, li_16, li_20, li_24, li_31, li_32, li_48, li_49, li_73, li_74, li_75, li_97, li_98, li_99, li_100, li_101, li_109, li_110, li_255, li_680, li_700, li_9999, li_65536, li_65537, hp, hTm.2.2.2.1.1, hs, f1]
      · rcases hev with h | h
        · exact absurd h.1 c
        · rw [f3, ← e]; exact h.1
  | succ r ih =>
    intro n hn m w hm hp hR hTm hF
    obtain ⟨m, rfl⟩ : ∃ z, m = z + 1 := ⟨m - 1, by omega⟩
    obtain ⟨w3, e1, e2⟩ := m_wrongRead (S := nI n) hD hT hd hp hR hTm
    have hp3 : (w3 11 0).2.2.1 3 = d + 1 := by rw [e2.2.1]; exact hp
    have hR3 : RDm (w3 10 d) D := by rw [e2.1 10 d (by omega)]; exact hR
    have hT3 : RTm (w3 10 d) D T := by rw [e2.1 10 d (by omega)]; exact hTm
    obtain ⟨f1, f2, f3, f4⟩ := hF
    have g1 : (w3 11 0).1 29 = nI (ctp (fitB D T) n) := by rw [e2.2.2.1 29 (by decide)]; exact f1
    have g2 : (w3 11 0).1 30 = fp op1 (nI 0) (fitB D T) n := by rw [e2.2.2.1 30 (by decide)]; exact f2
    have g3 : (w3 11 0).1 31 = fp op2 (nI (2 ^ T.2.2.1.1 - 1)) (fitB D T) n := by rw [e2.2.2.1 31 (by decide)]; exact f3
    have g4 : ∀ k, k < T.2.2.1.1 → (w3 11 0).2.1 32 k = nI (obS D T k n) := fun k hk => by rw [e2.2.2.2 32 (by decide)]; exact f4 k hk
    have hc := ctp_le (fitB D T) n
    rw [fX11_fitting_49.eq_2]
    cases hw : wrS D T (nI n) with
    | some i =>
      have hi : i < 6 := Nat.lt_of_lt_of_le (wr_lt _ hw) h6
      have hb := fitB_s hw
      obtain ⟨w2, q1, q2, q3⟩ := ih (n + 1) (by omega) m w3 (by omega) hp3 hR3 hT3 ⟨by rw [ctp_f hb]; exact g1, by unfold fp; rw [if_neg hb]; exact g2, by unfold fp; rw [if_neg hb]; exact g3, fun k hk => by unfold obS; rw [if_neg hb]; exact g4 k hk⟩
      have e5 : fdX D T x (n + 1) = fdX D T x n := if_neg hb
      rw [e5] at q1
      rw [hw, oi2_s] at e1
      refine ⟨w2, ?_, e2.sw.tr q2, q3⟩
      simp (disch := omega) only [↓mo_1, ↓mo_2, ad_m1, ite_m1_lt, ite_m2_lt, ite_le_m1, ite_eq_m1, ite_eq_m2, ite_m1_m1, ite_m2_m2, ite_T, ite_F, ite_nz, ite_zz, ite_m1_le, ite_m1_eq, oi_none, oi_some, ob_some, lw_def, ck_true, ckp_su, ite_lt_t, ite_lt_f, ite_le_t, ite_le_f, ite_eq_t, ite_eq_f, ck_inb, nI_add, sb_nI, mu_nI, nI_clamp, sO_at, sO_sO, Nat.add_sub_cancel, Nat.zero_add, Nat.add_zero, li_0, li_1, li_2, li_3, li_4, li_5, li_6, li_7, li_8, li_9, li_10, li_11, li_12, li_16, li_20, li_24, li_31, li_32, li_48, li_49, li_73, li_74, li_75, li_97, li_98, li_99, li_100, li_101, li_109, li_110, li_255, li_680, li_700, li_9999, li_65536, li_65537, hp, hTm.2.2.2.1.1, hs, e1]
      exact q1
    | none =>
      have hb := fitB_n hw
      rw [hw, oi2_n] at e1
      -- the counts, then the bits
      have k1 : (sI w3 11 0 29 (nI (ctp (fitB D T) n + 1)) 11 0).1 30 = fp op1 (nI 0) (fitB D T) n := by rw [sI_n (by decide)]; exact g2
      have k2 : ∀ v, (sI (sI w3 11 0 29 (nI (ctp (fitB D T) n + 1))) 11 0 30 v 11 0).1 31 = fp op2 (nI (2 ^ T.2.2.1.1 - 1)) (fitB D T) n := fun v => by rw [sI_n (by decide), sI_n (by decide)]; exact g3
      generalize hw4 : sI (sI (sI w3 11 0 29 (nI (ctp (fitB D T) n + 1))) 11 0 30 (fp op1 (nI 0) (fitB D T) n ||| nI n)) 11 0 31 (fp op2 (nI (2 ^ T.2.2.1.1 - 1)) (fitB D T) n &&& nI n) = w4
      have s4 : SW w3 w4 := by rw [← hw4]; exact (SW.i (by decide)).tr ((SW.i (by decide)).tr (SW.i (by decide)))
      have p4 : (w4 11 0).2.2.1 3 = d + 1 := by rw [s4.2.1]; exact hp3
      have r4 : RDm (w4 10 d) D := by rw [s4.1 10 d (by omega)]; exact hR3
      have t4 : RTm (w4 10 d) D T := by rw [s4.1 10 d (by omega)]; exact hT3
      have v29 : (w4 11 0).1 29 = nI (ctp (fitB D T) n + 1) := by rw [← hw4, sI_n (by decide), sI_n (by decide), sI_i]
      have v30 : (w4 11 0).1 30 = fp op1 (nI 0) (fitB D T) n ||| nI n := by rw [← hw4, sI_n (by decide), sI_i]
      have v31 : (w4 11 0).1 31 = fp op2 (nI (2 ^ T.2.2.1.1 - 1)) (fitB D T) n &&& nI n := by rw [← hw4, sI_i]
      have v32 : (w4 11 0).2.1 32 = (w3 11 0).2.1 32 := by rw [← hw4, sI_2, sI_2, sI_2]
      have main : ∀ y, y = fdX D T x (n + 1) → ∃ w2 : Wd, fX11_fitting_85 (fX11_fitting_49 nd m) nd w3 x y (nI n) = some (fdX D T x (2 ^ T.2.2.1.1), w2) ∧ SW w3 w2 ∧ (w2 11 0).1 29 = nI (ctp (fitB D T) (2 ^ T.2.2.1.1)) ∧ (w2 11 0).1 30 = fp op1 (nI 0) (fitB D T) (2 ^ T.2.2.1.1) ∧ (w2 11 0).1 31 = evS D T ∧ ∀ k, k < T.2.2.1.1 → (w2 11 0).2.1 32 k = nI (obS D T k (2 ^ T.2.2.1.1)) := by
        intro y hy
        obtain ⟨w5, a1, a2, a3⟩ := m_118 (K := fX11_fitting_49 nd m) (x1 := x) (x2 := y) (g := fun k => obS D T k n) hT hd (show n < 16 by omega) T.2.2.1.1 0 (Nat.zero_add _) fuel0 w4 (by unfold fuel0; omega) p4 t4.2.2.2.1.1 (fun j hj => absurd hj (Nat.not_lt_zero j)) (fun j _ hj => by rw [v32]; exact g4 j hj)
        have s5 : SW w4 w5 ∧ (w5 11 0).1 = (w4 11 0).1 := by
          rcases a3 with a3 | a3
          · rw [a3]; exact ⟨SW.rf, rfl⟩
          · exact ⟨a3.2.2.2, a3.2.2.1⟩
        obtain ⟨w2, q1, q2, q3⟩ := ih (n + 1) (by omega) m w5 (by omega) (by rw [s5.1.2.1]; exact p4) (by rw [s5.1.1 10 d (by omega)]; exact r4) (by rw [s5.1.1 10 d (by omega)]; exact t4) ⟨by rw [s5.2, ctp_t hb]; exact v29, by rw [s5.2]; unfold fp; rw [if_pos hb]; exact v30, by rw [s5.2]; unfold fp; rw [if_pos hb]; exact v31, fun k hk => by unfold obS; rw [if_pos hb]; exact a2 k hk⟩
        refine ⟨w2, ?_, s4.tr (s5.1.tr q2), q3⟩
        rw [hy] at a1
        rw [hy]
        unfold fX11_fitting_85
        simp (disch := omega) only [↓mo_1, ↓mo_2, ad_m1, ite_m1_lt, ite_m2_lt, ite_le_m1, ite_eq_m1, ite_eq_m2, ite_m1_m1, ite_m2_m2, ite_T, ite_F, ite_nz, ite_zz, ite_m1_le, ite_m1_eq, oi_none, oi_some, ob_some, lw_def, ck_true, ckp_su, ite_lt_t, ite_lt_f, ite_le_t, ite_le_f, ite_eq_t, ite_eq_f, ck_inb, nI_add, sb_nI, mu_nI, nI_clamp, sO_at, sO_sO, Nat.add_sub_cancel, Nat.zero_add, Nat.add_zero, li_0, li_1, li_2, li_3, li_4, li_5, li_6, li_7, li_8, li_9, li_10, li_11, li_12, li_16, li_20, li_24, li_31, li_32, li_48, li_49, li_73, li_74, li_75, li_97, li_98, li_99, li_100, li_101, li_109, li_110, li_255, li_680, li_700, li_9999, li_65536, li_65537, g1, k1, k2, hw4]
        rw [a1]
        exact q1
      have e5 : fdX D T x (n + 1) = if nI (ctp (fitB D T) n) = x then nI n else fdX D T x n := if_pos hb
      by_cases cx : nI (ctp (fitB D T) n) = x
      · obtain ⟨w2, q1, q2, q3⟩ := main (nI n) (by rw [e5, if_pos cx])
        refine ⟨w2, ?_, e2.sw.tr q2, q3⟩
        simp (disch := omega) only [↓mo_1, ↓mo_2, ad_m1, ite_m1_lt, ite_m2_lt, ite_le_m1, ite_eq_m1, ite_eq_m2, ite_m1_m1, ite_m2_m2, ite_T, ite_F, ite_nz, ite_zz, ite_m1_le, ite_m1_eq, oi_none, oi_some, ob_some, lw_def, ck_true, ckp_su, ite_lt_t, ite_lt_f, ite_le_t, ite_le_f, ite_eq_t, ite_eq_f, ck_inb, nI_add, sb_nI, mu_nI, nI_clamp, sO_at, sO_sO, Nat.add_sub_cancel, Nat.zero_add, Nat.add_zero, li_0, li_1, li_2, li_3, li_4, li_5, li_6, li_7, li_8, li_9, li_10, li_11, li_12, li_16, li_20, li_24, li_31, li_32, li_48, li_49, li_73, li_74, li_75, li_97, li_98, li_99, li_100, li_101, li_109, li_110, li_255, li_680, li_700, li_9999, li_65536, li_65537, hp, hTm.2.2.2.1.1, hs, e1, g1]
        rw [if_pos cx]
        exact q1
      · obtain ⟨w2, q1, q2, q3⟩ := main (fdX D T x n) (by rw [e5, if_neg cx])
        refine ⟨w2, ?_, e2.sw.tr q2, q3⟩
        simp (disch := omega) only [↓mo_1, ↓mo_2, ad_m1, ite_m1_lt, ite_m2_lt, ite_le_m1, ite_eq_m1, ite_eq_m2, ite_m1_m1, ite_m2_m2, ite_T, ite_F, ite_nz, ite_zz, ite_m1_le, ite_m1_eq, oi_none, oi_some, ob_some, lw_def, ck_true, ckp_su, ite_lt_t, ite_lt_f, ite_le_t, ite_le_f, ite_eq_t, ite_eq_f, ck_inb, nI_add, sb_nI, mu_nI, nI_clamp, sO_at, sO_sO, Nat.add_sub_cancel, Nat.zero_add, Nat.add_zero, li_0, li_1, li_2, li_3, li_4, li_5, li_6, li_7, li_8, li_9, li_10, li_11, li_12, li_16, li_20, li_24, li_31, li_32, li_48, li_49, li_73, li_74, li_75, li_97, li_98, li_99, li_100, li_101, li_109, li_110, li_255, li_680, li_700, li_9999, li_65536, li_65537, hp, hTm.2.2.2.1.1, hs, e1, g1]
        rw [if_neg cx]
        exact q1
theorem m_29 {x : Int32} : ∀ r k, k + r = 4 → ∀ (m : Nat) (w : Wd), r < m → (∀ j, j < k → (w 11 0).2.1 32 j = nI 0) → ∃ w2 : Wd, fX11_fitting_29 nd m w x m1 (nI k) = fX11_fitting_49 nd fuel0 w2 x m1 (nI 0) ∧ (w2 = w ∨ S32 w w2) ∧ ∀ j, j < 4 → (w2 11 0).2.1 32 j = nI 0 := by
  intro r
  induction r with
  | zero =>
    intro k hk m w hm ha
    obtain ⟨m, rfl⟩ : ∃ z, m = z + 1 := ⟨m - 1, by omega⟩
    have e : k = 4 := by omega
    subst e
    refine ⟨w, ?_, Or.inl rfl, ha⟩
    rw [fX11_fitting_29.eq_2]
    simp (disch := omega) only [↓mo_1, ↓mo_2, ad_m1, ite_m1_lt, ite_m2_lt, ite_le_m1, ite_eq_m1, ite_eq_m2, ite_m1_m1, ite_m2_m2, ite_T, ite_F, ite_nz, ite_zz, ite_m1_le, ite_m1_eq, oi_none, oi_some, ob_some, lw_def, ck_true, ckp_su, ite_lt_t, ite_lt_f, ite_le_t, ite_le_f, ite_eq_t, ite_eq_f, ck_inb, nI_add, sb_nI, mu_nI, nI_clamp, sO_at, sO_sO, Nat.add_sub_cancel, Nat.zero_add, Nat.add_zero, li_0, li_1, li_2, li_3, li_4, li_5, li_6, li_7, li_8, li_9, li_10, li_11, li_12, li_16, li_20, li_24, li_31, li_32, li_48, li_49, li_73, li_74, li_75, li_97, li_98, li_99, li_100, li_101, li_109, li_110, li_255, li_680, li_700, li_9999, li_65536, li_65537]
  | succ r ih =>
    intro k hk m w hm ha
    obtain ⟨m, rfl⟩ : ∃ z, m = z + 1 := ⟨m - 1, by omega⟩
    obtain ⟨w2, e1, e2, e3⟩ := ih (k + 1) (by omega) m (sA w 11 0 32 k (nI 0)) (by omega) (fun j hj => by
      unfold sA
      rw [sO_at, oA_a]
      by_cases c : j = k
      · rw [c, upd_at]
      · rw [upd_ne c]; exact ha j (by omega))
    refine ⟨w2, ?_, ?_, e3⟩
    · rw [fX11_fitting_29.eq_2]
      simp (disch := omega) only [↓mo_1, ↓mo_2, ad_m1, ite_m1_lt, ite_m2_lt, ite_le_m1, ite_eq_m1, ite_eq_m2, ite_m1_m1, ite_m2_m2, ite_T, ite_F, ite_nz, ite_zz, ite_m1_le, ite_m1_eq, oi_none, oi_some, ob_some, lw_def, ck_true, ckp_su, ite_lt_t, ite_lt_f, ite_le_t, ite_le_f, ite_eq_t, ite_eq_f, ck_inb, nI_add, sb_nI, mu_nI, nI_clamp, sO_at, sO_sO, Nat.add_sub_cancel, Nat.zero_add, Nat.add_zero, li_0, li_1, li_2, li_3, li_4, li_5, li_6, li_7, li_8, li_9, li_10, li_11, li_12, li_16, li_20, li_24, li_31, li_32, li_48, li_49, li_73, li_74, li_75, li_97, li_98, li_99, li_100, li_101, li_109, li_110, li_255, li_680, li_700, li_9999, li_65536, li_65537]
      exact e1
    · rcases e2 with e2 | e2
      · rw [e2]; exact Or.inr S32.a
      · exact Or.inr (S32.a.tr e2)
theorem m_fitting {w : Wd} {d : Nat} {x : Int32} (hD : WFD D) (hT : WFT D T) (hd : d < nd) (hp : (w 11 0).2.2.1 3 = d + 1) (hR : RDm (w 10 d) D) (hTm : RTm (w 10 d) D T) : ∃ w2 : Wd, fX11_fitting nd w x = some (fdX D T x (2 ^ T.2.2.1.1), w2) ∧ SW w w2 ∧ (w2 11 0).1 29 = nI (ctp (fitB D T) (2 ^ T.2.2.1.1)) ∧ (w2 11 0).1 30 = fp op1 (nI 0) (fitB D T) (2 ^ T.2.2.1.1) ∧ (w2 11 0).1 31 = evS D T ∧ ∀ k, k < T.2.2.1.1 → (w2 11 0).2.1 32 k = nI (obS D T k (2 ^ T.2.2.1.1)) := by
  have h4 := hT.2.2.1.1
  have hp2 := p2_16 h4
  have hs := shl_u h4
  have i1 : (sI (sI w 11 0 29 (nI 0)) 11 0 30 (nI 0) 11 0).2.2.1 3 = d + 1 := by rw [sI_2, sI_2]; exact hp
  have i2 : sI (sI w 11 0 29 (nI 0)) 11 0 30 (nI 0) 10 d = w 10 d := by rw [sI_nc (by decide), sI_nc (by decide)]
  generalize hw4 : sI (sI (sI w 11 0 29 (nI 0)) 11 0 30 (nI 0)) 11 0 31 (nI (2 ^ T.2.2.1.1 - 1)) = w4
  have s4 : SW w w4 := by rw [← hw4]; exact (SW.i (by decide)).tr ((SW.i (by decide)).tr (SW.i (by decide)))
  obtain ⟨w5, a1, a2, a3⟩ := m_29 (nd := nd) (x := x) 4 0 (by omega) fuel0 w4 (by unfold fuel0; omega) (fun j hj => absurd hj (Nat.not_lt_zero j))
  have s5 : SW w4 w5 ∧ (w5 11 0).1 = (w4 11 0).1 := by
    rcases a2 with a2 | a2
    · rw [a2]; exact ⟨SW.rf, rfl⟩
    · exact ⟨a2.2.2.2, a2.2.2.1⟩
  have s6 := s4.tr s5.1
  obtain ⟨w2, q1, q2, q3⟩ := m_49 (x := x) hD hT hd (2 ^ T.2.2.1.1) 0 (Nat.zero_add _) fuel0 w5 (by unfold fuel0; omega) (by rw [s6.2.1]; exact hp) (by rw [s6.1 10 d (by omega)]; exact hR) (by rw [s6.1 10 d (by omega)]; exact hTm) ⟨by rw [s5.2, ← hw4, sI_n (by decide), sI_n (by decide), sI_i]; rfl, by rw [s5.2, ← hw4, sI_n (by decide), sI_i]; rfl, by rw [s5.2, ← hw4, sI_i]; rfl, fun k hk => a3 k (by omega)⟩
  refine ⟨w2, ?_, s6.tr q2, q3⟩
  unfold fX11_fitting
  simp (disch := omega) only [↓mo_1, ↓mo_2, ad_m1, ite_m1_lt, ite_m2_lt, ite_le_m1, ite_eq_m1, ite_eq_m2, ite_m1_m1, ite_m2_m2, ite_T, ite_F, ite_nz, ite_zz, ite_m1_le, ite_m1_eq, oi_none, oi_some, ob_some, lw_def, ck_true, ckp_su, ite_lt_t, ite_lt_f, ite_le_t, ite_le_f, ite_eq_t, ite_eq_f, ck_inb, nI_add, sb_nI, mu_nI, nI_clamp, sO_at, sO_sO, Nat.add_sub_cancel, Nat.zero_add, Nat.add_zero, li_0, li_1, li_2, li_3, li_4, li_5, li_6, li_7, li_8, li_9, li_10, li_11, li_12, li_16, li_20, li_24, li_31, li_32, li_48, li_49, li_73, li_74, li_75, li_97, li_98, li_99, li_100, li_101, li_109, li_110, li_255, li_680, li_700, li_9999, li_65536, li_65537, i1, i2, hTm.2.2.2.1.1, hs, hw4, a1]
  exact q1
/-! ask -/
def alS (D : Dk) (T : Tk) (o : Option Nat) : Int32 := match o with
  | none => m2
  | some b => nI (lmS D T b)
theorem m_asksl {d : Nat} (hT : WFT D T) (hd : d < nd) (hc : ¬ ctp (fitB D T) (2 ^ T.2.2.1.1) = 0) : ∀ r j, j + r = T.2.2.1.1 → ∀ (m : Nat) (w : Wd), r < m → (w 11 0).2.2.1 3 = d + 1 → (w 10 d).1 6 = nI T.2.2.1.1 → (w 11 0).1 29 = nI (ctp (fitB D T) (2 ^ T.2.2.1.1)) → (∀ k, k < T.2.2.1.1 → (w 11 0).2.1 32 k = nI (obS D T k (2 ^ T.2.2.1.1))) → (w 11 0).1 33 = alS D T (btS D T j) → ∃ w2 : Wd, fX11_asks_17 nd m w (oi2 (btS D T j)) (nI j) = some (oi2 (btS D T T.2.2.1.1), w2) ∧ SW w w2 ∧ (w2 11 0).1 33 = alS D T (btS D T T.2.2.1.1) := by
  have h4 := hT.2.2.1.1
  have hp2 := p2_16 h4
  have hcle := ctp_le (fitB D T) (2 ^ T.2.2.1.1)
  intro r
  induction r with
  | zero =>
    intro j hj m w hm hp h6 h29 h32 h33
    obtain ⟨m, rfl⟩ : ∃ z, m = z + 1 := ⟨m - 1, by omega⟩
    have e : j = T.2.2.1.1 := by omega
    subst e
    refine ⟨w, ?_, SW.rf, h33⟩
    rw [fX11_asks_17.eq_2]
    simp (disch := omega) only [↓mo_1, ↓mo_2, ad_m1, ite_m1_lt, ite_m2_lt, ite_le_m1, ite_eq_m1, ite_eq_m2, ite_m1_m1, ite_m2_m2, ite_T, ite_F, ite_nz, ite_zz, ite_m1_le, ite_m1_eq, oi_none, oi_some, ob_some, lw_def, ck_true, ckp_su, ite_lt_t, ite_lt_f, ite_le_t, ite_le_f, ite_eq_t, ite_eq_f, ck_inb, nI_add, sb_nI, mu_nI, nI_clamp, sO_at, sO_sO, Nat.add_sub_cancel, Nat.zero_add, Nat.add_zero, li_0, li_1, li_2, li_3, li_4, li_5, li_6, li_7, li_8, li_9, li_10, li_11, li_12, li_16, li_20, li_24, li_31, li_32, li_48, li_49, li_73, li_74, li_75, li_97, li_98, li_99, li_100, li_101, li_109, li_110, li_255, li_680, li_700, li_9999, li_65536, li_65537, hp, h6]
  | succ r ih =>
    intro j hj m w hm hp h6 h29 h32 h33
    obtain ⟨m, rfl⟩ : ∃ z, m = z + 1 := ⟨m - 1, by omega⟩
    have hob := ob_le (D := D) (T := T) (k := j) (2 ^ T.2.2.1.1)
    have hle := lm_le (D := D) (T := T) (k := j)
    have hj32 := h32 j (by omega)
    -- one step, once what is at most left is known
    have st : ∃ w2 : Wd, fX11_asks_75 (fX11_asks_17 nd m) nd w (oi2 (btS D T j)) (nI j) (nI (lmS D T j)) = some (oi2 (btS D T T.2.2.1.1), w2) ∧ SW w w2 ∧ (w2 11 0).1 33 = alS D T (btS D T T.2.2.1.1) := by
      have up : ∀ w1, w1 = sI w 11 0 33 (nI (lmS D T j)) → btS D T (j + 1) = some j → ∃ w2 : Wd, fX11_asks_17 nd m w1 (nI j) (nI (j + 1)) = some (oi2 (btS D T T.2.2.1.1), w2) ∧ SW w1 w2 ∧ (w2 11 0).1 33 = alS D T (btS D T T.2.2.1.1) := by
        intro w1 e1 e2
        obtain ⟨w2, q1, q2, q3⟩ := ih (j + 1) (by omega) m w1 (by omega) (by rw [e1, sI_2]; exact hp) (by rw [e1, sI_nc (by decide)]; exact h6) (by rw [e1, sI_n (by decide)]; exact h29) (by rw [e1, sI_2]; exact h32) (by rw [e2, e1, sI_i]; rfl)
        rw [e2, oi2_s] at q1
        exact ⟨w2, q1, q2, q3⟩
      unfold fX11_asks_75
      cases hb : btS D T j with
      | none =>
        have e3 : btS D T (j + 1) = some j := by unfold btS; rw [hb]
        obtain ⟨w2, q1, q2, q3⟩ := up _ rfl e3
        refine ⟨w2, ?_, (SW.i (by decide)).tr q2, q3⟩
        unfold fX11_asks_93
        rw [oi2_n]
        simp (disch := omega) only [↓mo_1, ↓mo_2, ad_m1, ite_m1_lt, ite_m2_lt, ite_le_m1, ite_eq_m1, ite_eq_m2, ite_m1_m1, ite_m2_m2, ite_T, ite_F, ite_nz, ite_zz, ite_m1_le, ite_m1_eq, oi_none, oi_some, ob_some, lw_def, ck_true, ckp_su, ite_lt_t, ite_lt_f, ite_le_t, ite_le_f, ite_eq_t, ite_eq_f, ck_inb, nI_add, sb_nI, mu_nI, nI_clamp, sO_at, sO_sO, Nat.add_sub_cancel, Nat.zero_add, Nat.add_zero, li_0, li_1, li_2, li_3, li_4, li_5, li_6, li_7, li_8, li_9, li_10, li_11, li_12, li_16, li_20, li_24, li_31, li_32, li_48, li_49, li_73, li_74, li_75, li_97, li_98, li_99, li_100, li_101, li_109, li_110, li_255, li_680, li_700, li_9999, li_65536, li_65537]
        exact q1
      | some b =>
        have hbl := bt_lt j hb
        have hle2 := lm_le (D := D) (T := T) (k := b)
        have e3 : btS D T (j + 1) = if lmS D T j < lmS D T b then some j else some b := by
          show (match btS D T j with | none => some j | some b => if lmS D T j < lmS D T b then some j else some b) = _
          rw [hb]
        rw [hb] at h33
        have h33' : (w 11 0).1 33 = nI (lmS D T b) := h33
        rw [oi2_s]
        by_cases c : lmS D T j < lmS D T b
        · rw [if_pos c] at e3
          obtain ⟨w2, q1, q2, q3⟩ := up _ rfl e3
          refine ⟨w2, ?_, (SW.i (by decide)).tr q2, q3⟩
          unfold fX11_asks_93
          simp (disch := omega) only [↓mo_1, ↓mo_2, ad_m1, ite_m1_lt, ite_m2_lt, ite_le_m1, ite_eq_m1, ite_eq_m2, ite_m1_m1, ite_m2_m2, ite_T, ite_F, ite_nz, ite_zz, ite_m1_le, ite_m1_eq, oi_none, oi_some, ob_some, lw_def, ck_true, ckp_su, ite_lt_t, ite_lt_f, ite_le_t, ite_le_f, ite_eq_t, ite_eq_f, ck_inb, nI_add, sb_nI, mu_nI, nI_clamp, sO_at, sO_sO, Nat.add_sub_cancel, Nat.zero_add, Nat.add_zero, li_0, li_1, li_2, li_3, li_4, li_5, li_6, li_7, li_8, li_9, li_10, li_11, li_12, li_16, li_20, li_24, li_31, li_32, li_48, li_49, li_73, li_74, li_75, li_97, li_98, li_99, li_100, li_101, li_109, li_110, li_255, li_680, li_700, li_9999, li_65536, li_65537, h33']
          exact q1
        · rw [if_neg c] at e3
          obtain ⟨w2, q1, q2, q3⟩ := ih (j + 1) (by omega) m w (by omega) hp h6 h29 h32 (by rw [e3]; exact h33)
          rw [e3, oi2_s] at q1
          refine ⟨w2, ?_, q2, q3⟩
          simp (disch := omega) only [↓mo_1, ↓mo_2, ad_m1, ite_m1_lt, ite_m2_lt, ite_le_m1, ite_eq_m1, ite_eq_m2, ite_m1_m1, ite_m2_m2, ite_T, ite_F, ite_nz, ite_zz, ite_m1_le, ite_m1_eq, oi_none, oi_some, ob_some, lw_def, ck_true, ckp_su, ite_lt_t, ite_lt_f, ite_le_t, ite_le_f, ite_eq_t, ite_eq_f, ck_inb, nI_add, sb_nI, mu_nI, nI_clamp, sO_at, sO_sO, Nat.add_sub_cancel, Nat.zero_add, Nat.add_zero, li_0, li_1, li_2, li_3, li_4, li_5, li_6, li_7, li_8, li_9, li_10, li_11, li_12, li_16, li_20, li_24, li_31, li_32, li_48, li_49, li_73, li_74, li_75, li_97, li_98, li_99, li_100, li_101, li_109, li_110, li_255, li_680, li_700, li_9999, li_65536, li_65537, h33']
          exact q1
    obtain ⟨w2, q1, q2, q3⟩ := st
    refine ⟨w2, ?_, q2, q3⟩
    rw [fX11_asks_17.eq_2]
    unfold lmS at q1
    by_cases c : obS D T j (2 ^ T.2.2.1.1) < ctp (fitB D T) (2 ^ T.2.2.1.1) - obS D T j (2 ^ T.2.2.1.1)
    · rw [if_pos c] at q1
      simp (disch := omega) only [↓mo_1, ↓mo_2, ad_m1, ite_m1_lt, ite_m2_lt, ite_le_m1, ite_eq_m1, ite_eq_m2, ite_m1_m1, ite_m2_m2, ite_T, ite_F, ite_nz, ite_zz, ite_m1_le, ite_m1_eq, oi_none, oi_some, ob_some, lw_def, ck_true, ckp_su, ite_lt_t, ite_lt_f, ite_le_t, ite_le_f, ite_eq_t, ite_eq_f, ck_inb, nI_add, sb_nI, mu_nI, nI_clamp, sO_at, sO_sO, Nat.add_sub_cancel, Nat.zero_add, Nat.add_zero, li_0, li_1, li_2, li_3, li_4, li_5, li_6, li_7, li_8, li_9, li_10, li_11, li_12, li_16, li_20, li_24, li_31, li_32, li_48, li_49, li_73, li_74, li_75, li_97, li_98, li_99, li_100, li_101, li_109, li_110, li_255, li_680, li_700, li_9999, li_65536, li_65537, hp, h6, h29, hj32]
      exact q1
    · rw [if_neg c] at q1
      by_cases c2 : obS D T j (2 ^ T.2.2.1.1) = ctp (fitB D T) (2 ^ T.2.2.1.1) - obS D T j (2 ^ T.2.2.1.1)
      · rw [c2] at q1
        simp (disch := omega) only [↓mo_1, ↓mo_2, ad_m1, ite_m1_lt, ite_m2_lt, ite_le_m1, ite_eq_m1, ite_eq_m2, ite_m1_m1, ite_m2_m2, ite_T, ite_F, ite_nz, ite_zz, ite_m1_le, ite_m1_eq, oi_none, oi_some, ob_some, lw_def, ck_true, ckp_su, ite_lt_t, ite_lt_f, ite_le_t, ite_le_f, ite_eq_t, ite_eq_f, ck_inb, nI_add, sb_nI, mu_nI, nI_clamp, sO_at, sO_sO, Nat.add_sub_cancel, Nat.zero_add, Nat.add_zero, li_0, li_1, li_2, li_3, li_4, li_5, li_6, li_7, li_8, li_9, li_10, li_11, li_12, li_16, li_20, li_24, li_31, li_32, li_48, li_49, li_73, li_74, li_75, li_97, li_98, li_99, li_100, li_101, li_109, li_110, li_255, li_680, li_700, li_9999, li_65536, li_65537, hp, h6, h29, hj32]
        exact q1
      · simp (disch := omega) only [↓mo_1, ↓mo_2, ad_m1, ite_m1_lt, ite_m2_lt, ite_le_m1, ite_eq_m1, ite_eq_m2, ite_m1_m1, ite_m2_m2, ite_T, ite_F, ite_nz, ite_zz, ite_m1_le, ite_m1_eq, oi_none, oi_some, ob_some, lw_def, ck_true, ckp_su, ite_lt_t, ite_lt_f, ite_le_t, ite_le_f, ite_eq_t, ite_eq_f, ck_inb, nI_add, sb_nI, mu_nI, nI_clamp, sO_at, sO_sO, Nat.add_sub_cancel, Nat.zero_add, Nat.add_zero, li_0, li_1, li_2, li_3, li_4, li_5, li_6, li_7, li_8, li_9, li_10, li_11, li_12, li_16, li_20, li_24, li_31, li_32, li_48, li_49, li_73, li_74, li_75, li_97, li_98, li_99, li_100, li_101, li_109, li_110, li_255, li_680, li_700, li_9999, li_65536, li_65537, hp, h6, h29, hj32]
        exact q1
theorem m_asks {w : Wd} {d : Nat} (hD : WFD D) (hT : WFT D T) (hd : d < nd) (hp : (w 11 0).2.2.1 3 = d + 1) (hR : RDm (w 10 d) D) (hTm : RTm (w 10 d) D T) : ∃ w2 : Wd, fX11_asks nd w = some (oi2 (btA D T), w2) ∧ SW w w2 ∧ (w2 11 0).1 33 = alS D T (btA D T) := by
  have h4 := hT.2.2.1.1
  have hp2 := p2_16 h4
  have hcle := ctp_le (fitB D T) (2 ^ T.2.2.1.1)
  obtain ⟨w1, e1, e2, e3, e4, e5, e6⟩ := m_fitting (x := m1) hD hT hd hp hR hTm
  have s1 : SW w1 (sI w1 11 0 33 m2) := SW.i (by decide)
  have p1 : (sI w1 11 0 33 m2 11 0).2.2.1 3 = d + 1 := by rw [sI_2, e2.2.1]; exact hp
  have t1 : (sI w1 11 0 33 m2 10 d).1 6 = nI T.2.2.1.1 := by rw [sI_nc (by decide), e2.1 10 d (by omega)]; exact hTm.2.2.2.1.1
  have v1 : (sI w1 11 0 33 m2 11 0).1 29 = nI (ctp (fitB D T) (2 ^ T.2.2.1.1)) := by rw [sI_n (by decide)]; exact e3
  unfold fX11_asks btA
  by_cases c : ctp (fitB D T) (2 ^ T.2.2.1.1) = 0
  · rw [if_pos c]
    refine ⟨sI w1 11 0 33 m2, ?_, e2.tr s1, sI_i⟩
    rw [c] at v1
    simp (disch := omega) only [↓mo_1, ↓mo_2, ad_m1, ite_m1_lt, ite_m2_lt, ite_le_m1, ite_eq_m1, ite_eq_m2, ite_m1_m1, ite_m2_m2, ite_T, ite_F, ite_nz, ite_zz, ite_m1_le, ite_m1_eq, oi_none, oi_some, ob_some, lw_def, ck_true, ckp_su, ite_lt_t, ite_lt_f, ite_le_t, ite_le_f, ite_eq_t, ite_eq_f, ck_inb, nI_add, sb_nI, mu_nI, nI_clamp, sO_at, sO_sO, Nat.add_sub_cancel, Nat.zero_add, Nat.add_zero, li_0, li_1, li_2, li_3, li_4, li_5, li_6, li_7, li_8, li_9, li_10, li_11, li_12, li_16, li_20, li_24, li_31, li_32, li_48, li_49, li_73, li_74, li_75, li_97, li_98, li_99, li_100, li_101, li_109, li_110, li_255, li_680, li_700, li_9999, li_65536, li_65537, e1]
    show fX11_asks_17 nd (999999 + 1) (sI w1 11 0 33 m2) m2 (nI 0) = _
    rw [fX11_asks_17.eq_2]
    by_cases c2 : T.2.2.1.1 = 0
    · rw [c2] at t1
      simp (disch := omega) only [↓mo_1, ↓mo_2, ad_m1, ite_m1_lt, ite_m2_lt, ite_le_m1, ite_eq_m1, ite_eq_m2, ite_m1_m1, ite_m2_m2, ite_T, ite_F, ite_nz, ite_zz, ite_m1_le, ite_m1_eq, oi_none, oi_some, ob_some, lw_def, ck_true, ckp_su, ite_lt_t, ite_lt_f, ite_le_t, ite_le_f, ite_eq_t, ite_eq_f, ck_inb, nI_add, sb_nI, mu_nI, nI_clamp, sO_at, sO_sO, Nat.add_sub_cancel, Nat.zero_add, Nat.add_zero, li_0, li_1, li_2, li_3, li_4, li_5, li_6, li_7, li_8, li_9, li_10, li_11, li_12, li_16, li_20, li_24, li_31, li_32, li_48, li_49, li_73, li_74, li_75, li_97, li_98, li_99, li_100, li_101, li_109, li_110, li_255, li_680, li_700, li_9999, li_65536, li_65537, p1, t1, oi2_n]
    · simp (disch := omega) only [↓mo_1, ↓mo_2, ad_m1, ite_m1_lt, ite_m2_lt, ite_le_m1, ite_eq_m1, ite_eq_m2, ite_m1_m1, ite_m2_m2, ite_T, ite_F, ite_nz, ite_zz, ite_m1_le, ite_m1_eq, oi_none, oi_some, ob_some, lw_def, ck_true, ckp_su, ite_lt_t, ite_lt_f, ite_le_t, ite_le_f, ite_eq_t, ite_eq_f, ck_inb, nI_add, sb_nI, mu_nI, nI_clamp, sO_at, sO_sO, Nat.add_sub_cancel, Nat.zero_add, Nat.add_zero, li_0, li_1, li_2, li_3, li_4, li_5, li_6, li_7, li_8, li_9, li_10, li_11, li_12, li_16, li_20, li_24, li_31, li_32, li_48, li_49, li_73, li_74, li_75, li_97, li_98, li_99, li_100, li_101, li_109, li_110, li_255, li_680, li_700, li_9999, li_65536, li_65537, p1, t1, v1, oi2_n]
  · rw [if_neg c]
    obtain ⟨w2, q1, q2, q3⟩ := m_asksl hT hd c T.2.2.1.1 0 (Nat.zero_add _) fuel0 _ (by unfold fuel0; omega) p1 t1 v1 (by rw [sI_2]; exact e6) (by rw [sI_i]; rfl)
    refine ⟨w2, ?_, e2.tr (s1.tr q2), q3⟩
    simp (disch := omega) only [↓mo_1, ↓mo_2, ad_m1, ite_m1_lt, ite_m2_lt, ite_le_m1, ite_eq_m1, ite_eq_m2, ite_m1_m1, ite_m2_m2, ite_T, ite_F, ite_nz, ite_zz, ite_m1_le, ite_m1_eq, oi_none, oi_some, ob_some, lw_def, ck_true, ckp_su, ite_lt_t, ite_lt_f, ite_le_t, ite_le_f, ite_eq_t, ite_eq_f, ck_inb, nI_add, sb_nI, mu_nI, nI_clamp, sO_at, sO_sO, Nat.add_sub_cancel, Nat.zero_add, Nat.add_zero, li_0, li_1, li_2, li_3, li_4, li_5, li_6, li_7, li_8, li_9, li_10, li_11, li_12, li_16, li_20, li_24, li_31, li_32, li_48, li_49, li_73, li_74, li_75, li_97, li_98, li_99, li_100, li_101, li_109, li_110, li_255, li_680, li_700, li_9999, li_65536, li_65537, e1]
    exact q1
end FM
