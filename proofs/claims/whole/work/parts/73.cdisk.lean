/-! ===== disk ===== -/
def D0 : Dk := (0, fun _ => 0, 0, 0, false)
def P0 : Pk := (0, fun _ => 0, fun _ => nI 0)
def T0 : Tk := (P0, P0, P0, P0)
def zOb : Ob := (fun _ => nI 0, fun _ _ => nI 0, fun _ => 0, fun _ => 0)
theorem d0_wp : WP D0 T0 := ⟨Nat.zero_le _, fun b hb => absurd hb (Nat.not_lt_zero b), Nat.zero_le _, fun h => absurd h (Nat.lt_irrefl 0), fun _ => ⟨rfl, rfl, rfl, rfl, rfl⟩, ⟨Nat.zero_le _, fun i hi => absurd hi (Nat.not_lt_zero i)⟩, ⟨Nat.zero_le _, fun i hi => absurd hi (Nat.not_lt_zero i)⟩, ⟨Nat.zero_le _, fun i hi => absurd hi (Nat.not_lt_zero i), fun i k _ hk => absurd hk (Nat.not_lt_zero k)⟩, ⟨Nat.zero_le _, fun i hi => absurd hi (Nat.not_lt_zero i)⟩⟩
def paA (X : Tx) : (Nat × Nat) ⊕ (Dk × Tk) := paS X (X.1 + 1) D0 T0 0
theorem wp_wfd {D : Dk} {T : Tk} (h : WP D T) (h0 : 0 < D.1) : WFD D ∧ WFT D T := by
  have hd := h.d
  obtain ⟨k1, k2, k3, k4, k5, k6⟩ := h
  have ho : 0 < D.2.2.1 := by
    by_cases c : 0 < D.2.2.1
    · exact c
    · have := (k5 c).1
      omega
  have hp := k4 ho
  exact ⟨⟨by omega, by omega, fun b hb => by have := k2 b hb; omega, by omega, k3, ho, by omega, hp.2⟩, k6⟩
section CD
variable {w w2 : Wd} {X : Tx} {D : Dk} {T : Tk} {q nd d : Nat}
theorem sI_o {c j k : Nat} {v : Int32} {c2 j2 : Nat} (h : ¬ (c2 = c ∧ j2 = j)) : sI w c j k v c2 j2 = w c2 j2 := sO_ne h
theorem sP_o {c j k v : Nat} {c2 j2 : Nat} (h : ¬ (c2 = c ∧ j2 = j)) : sP w c j k v c2 j2 = w c2 j2 := sO_ne h
theorem sP_1 {c j k v : Nat} : (sP w c j k v c j).1 = (w c j).1 := by unfold sP; rw [sO_at]; rfl
theorem sP_r {c j k v : Nat} : (sP w c j k v c j).2.1 = (w c j).2.1 := by unfold sP; rw [sO_at]; rfl
theorem sP_a {c j k v : Nat} : (sP w c j k v c j).2.2.1 k = v := by unfold sP; rw [sO_at]; exact va_up_self _ _ _
theorem sP_n {c j k v m : Nat} (h : m ≠ k) : (sP w c j k v c j).2.2.1 m = (w c j).2.2.1 m := by unfold sP; rw [sO_at]; exact va_up_ne _ _ h
theorem x_empty {s : Nat} : ∃ w2 : Wd, fX8_empty s w = some ((), w2) ∧ (∀ c i, ¬ (c = 5 ∧ i = s) → ¬ (c = 3 ∧ 4 * s ≤ i ∧ i < 4 * s + 4) → w2 c i = w c i) ∧ RSh (w2 5 s) D0 ∧ RT w2 s T0 := by
  refine ⟨sI (sI (sI (sI (sI (sI (sI (sI (sI w 5 s 3 (nI 0)) 5 s 4 (nI 0)) 5 s 5 (nI 0)) 5 s 6 (nI 0)) 5 s 7 (nI 0)) 3 (4 * s) 2 (nI 0)) 3 (4 * s + 1) 2 (nI 0)) 3 (4 * s + 2) 2 (nI 0)) 3 (4 * s + 3) 2 (nI 0), rfl, fun c i a b => ?_, ?_, ?_⟩
  · rw [sI_o (by omega), sI_o (by omega), sI_o (by omega), sI_o (by omega), sI_o a, sI_o a, sI_o a, sI_o a, sI_o a]
  · rw [sI_nc (by decide), sI_nc (by decide), sI_nc (by decide), sI_nc (by decide)]
    refine ⟨fun b hb => absurd hb (Nat.not_lt_zero b), fun t ht => absurd ht (Nat.not_lt_zero t), ?_, ?_, ?_, ?_, ?_⟩
    · rw [sI_n (by decide), sI_n (by decide), sI_n (by decide), sI_n (by decide), sI_i]; rfl
    · rw [sI_n (by decide), sI_n (by decide), sI_n (by decide), sI_i]; rfl
    · rw [sI_n (by decide), sI_n (by decide), sI_i]; rfl
    · rw [sI_n (by decide), sI_i]; rfl
    · rw [sI_i]; rfl
  · have z : ∀ o : Ob, o.1 2 = nI 0 → RP o P0 := fun o h => ⟨h, fun i hi => absurd hi (Nat.not_lt_zero i), fun i hi => absurd hi (Nat.not_lt_zero i)⟩
    refine ⟨z _ ?_, z _ ?_, z _ ?_, z _ ?_⟩
    · rw [sI_nj (by omega), sI_nj (by omega), sI_nj (by omega), sI_i]
    · rw [sI_nj (by omega), sI_nj (by omega), sI_i]
    · rw [sI_nj (by omega), sI_i]
    · rw [sI_i]
theorem x_tell (hX : TxO X) {s : Nat} (hs : s < 2) (ht : ∀ i, i < X.1 → (w 9 0).2.1 0 i = X.2 i) : match paA X with
    | .inl (f, pl) => (1 ≤ f ∧ f ≤ 6 ∧ pl ≤ X.1) ∧ ∃ w2 : Wd, fX4_tellAll s w (nI X.1) = some ((), w2) ∧ XB w w2 s f pl
    | .inr (D2, T2) => (WP D2 T2 ∧ 0 < D2.1) ∧ ∃ w2 : Wd, fX4_tellAll s w (nI X.1) = some ((), w2) ∧ XF s w w2 ∧ RSh (w2 5 s) D2 ∧ RT w2 s T2 ∧ (w2 4 0).1 8 = nI 0 ∧ (w2 4 0).1 9 = nI 0 := by
  have h7 := hX.1
  obtain ⟨w5, a1, a2, a3, a4⟩ := x_empty (w := sP (sI w 4 0 1 (nI X.1)) 4 0 2 (s + 1)) (s := s)
  have e4 : w5 4 0 = sP (sI w 4 0 1 (nI X.1)) 4 0 2 (s + 1) 4 0 := a2 4 0 (by omega) (by omega)
  have f1 : (w5 4 0).1 1 = nI X.1 := by rw [e4, sP_1, sI_i]
  have f2 : (w5 4 0).2.2.1 2 = s + 1 := by rw [e4, sP_a]
  have f9 : w5 9 0 = w 9 0 := by rw [a2 9 0 (by omega) (by omega), sP_o (by omega), sI_o (by omega)]
  have hW : XF s w w5 := fun c i x y z => by rw [a2 c i y z, sP_o x, sI_o x]
  generalize hw9 : sI (sI (sI (sI w5 4 0 3 (nI 0)) 4 0 6 (nI 0)) 4 0 8 (nI 0)) 4 0 9 (nI 0) = w9
  have o9 : ∀ c i, ¬ (c = 4 ∧ i = 0) → w9 c i = w5 c i := fun c i x => by rw [← hw9, sI_o x, sI_o x, sI_o x, sI_o x]
  have k1 : (w9 4 0).1 1 = nI X.1 := by rw [← hw9, sI_n (by decide), sI_n (by decide), sI_n (by decide), sI_n (by decide)]; exact f1
  have k2 : (w9 4 0).2.2.1 2 = s + 1 := by rw [← hw9, sI_2, sI_2, sI_2, sI_2]; exact f2
  have k3 : (w9 4 0).1 3 = nI 0 := by rw [← hw9, sI_n (by decide), sI_n (by decide), sI_n (by decide), sI_i]
  have k6 : (w9 4 0).1 6 = nI 0 := by rw [← hw9, sI_n (by decide), sI_n (by decide), sI_i]
  have k8 : (w9 4 0).1 8 = nI 0 := by rw [← hw9, sI_n (by decide), sI_i]
  have k9 : (w9 4 0).1 9 = nI 0 := by rw [← hw9, sI_i]
  have hE : XE w9 X := ⟨k1, fun i hi => by rw [o9 9 0 (by omega), f9]; exact ht i hi⟩
  obtain ⟨w11, b1, b2, b3, -⟩ := x_moveOn hX hE (Nat.zero_le _) k6
  have p11 : PX w11 s X D0 T0 (tk X 0) := by
    refine ⟨hE.s4 b2, b3, by rw [b2.2.1]; exact k2, by rw [b2.2.2 3 (by decide) (by decide) (by decide) (by decide), k3]; rfl, by rw [b2.1 5 s (by omega), o9 5 s (by omega)]; exact a3, ?_⟩
    unfold RT
    rw [b2.1 3 _ (by omega), b2.1 3 _ (by omega), b2.1 3 _ (by omega), b2.1 3 _ (by omega), o9 3 _ (by omega), o9 3 _ (by omega), o9 3 _ (by omega), o9 3 _ (by omega)]
    exact a4
  have xf : XF s w w11 := hW.tr (fun c i x y z => (b2.1 c i x).trans (o9 c i x))
  have r := x_loop (o2 := s) hX hs (X.1 + 1) 0 0 D0 T0 (Nat.zero_le _) (by omega) (Nat.le_refl _) d0_wp fuel0 w11 (by unfold fuel0; omega) p11 (by rw [b2.2.2 8 (by decide) (by decide) (by decide) (by decide)]; exact k8) (by rw [b2.2.2 9 (by decide) (by decide) (by decide) (by decide)]; exact k9)
  have u : fX4_tellAll s w (nI X.1) = fX4_tellAll_54 s fuel0 w11 (nI 1) (nI 0) := by
    have f2' : (sP (sI w 4 0 1 (nI X.1)) 4 0 2 (s + 1) 4 0).2.2.1 2 = s + 1 := sP_a
    unfold fX4_tellAll
    simp (disch := omega) only [↓mo_1, ↓mo_2, ad_m1, ite_m1_lt, ite_m2_lt, ite_le_m1, ite_eq_m1, ite_eq_m2, ite_m1_m1, ite_m2_m2, ite_T, ite_F, ite_nz, ite_zz, ite_m1_le, ite_m1_eq, oi_none, oi_some, ob_some, lw_def, ck_true, ckp_su, ite_lt_t, ite_lt_f, ite_le_t, ite_le_f, ite_eq_t, ite_eq_f, ck_inb, nI_add, sb_nI, mu_nI, nI_clamp, sO_at, sO_sO, Nat.add_sub_cancel, Nat.zero_add, Nat.add_zero, li_0, li_1, li_2, li_3, li_4, li_5, li_6, li_7, li_8, li_9, li_10, li_11, li_12, li_16, li_20, li_24, li_31, li_32, li_48, li_49, li_73, li_74, li_75, li_97, li_98, li_99, li_100, li_101, li_109, li_110, li_255, li_680, li_700, li_9999, li_65536, li_65537, f2', a1, hw9, b1]
  unfold paA
  rw [u]
  cases e : paS X (X.1 + 1) D0 T0 0 with
  | inl z =>
    obtain ⟨f, pl⟩ := z
    rw [e] at r
    obtain ⟨r1, w2, r2, r3, r4⟩ := r
    exact ⟨r1, w2, r2, xf.tr r3, r4⟩
  | inr z =>
    obtain ⟨D2, T2⟩ := z
    rw [e] at r
    obtain ⟨r1, w2, r2, r3, r4⟩ := r
    exact ⟨r1, w2, r2, xf.tr r3, r4⟩
/-! the class begins anew -/
theorem fit_oi {k : Nat} : fitB D T k = true ↔ wrS D T (nI k) = none := by
  unfold fitB
  cases wrS D T (nI k) with
  | none => exact ⟨fun _ => rfl, fun _ => rfl⟩
  | some i => exact ⟨(fun h => by cases h), (fun h => by cases h)⟩
theorem x_ba36 (hD : WFD D) (hT : WFT D T) (hq : q < 2) : ∀ r k, k + r = 2 ^ T.2.2.1.1 → ∀ (m : Nat) (w : Wd), r < m → (w 9 0).2.2.1 2 = q + 1 → RSh (w 5 q) D → RT w q T → RF (w 1 0) (fitL D T k) → ∃ w2 : Wd, fX9_beginAnew_36 m w (nI k) = some ((), w2) ∧ RF (w2 1 0) (fitA D T) ∧ ∀ c i, ¬ (c = 7 ∧ i = 1) → ¬ (c = 1 ∧ i = 0) → w2 c i = w c i := by
  have hu := hT.2.2.1.1
  have hp2 := p2_16 hu
  intro r
  induction r with
  | zero =>
    intro k hk m w hm hp hS hR hF
    obtain ⟨m, rfl⟩ : ∃ z, m = z + 1 := ⟨m - 1, by omega⟩
    have e : k = 2 ^ T.2.2.1.1 := by omega
    have hc := hR.2.2.1.1
    refine ⟨w, ?_, by unfold fitA; rw [← e]; exact hF, fun _ _ _ _ => rfl⟩
    rw [fX9_beginAnew_36.eq_2]
    by_cases c : k = 16
    · rw [c]
      simp (disch := omega) only [↓mo_1, ↓mo_2, ad_m1, ite_m1_lt, ite_m2_lt, ite_le_m1, ite_eq_m1, ite_eq_m2, ite_m1_m1, ite_m2_m2, ite_T, ite_F, ite_nz, ite_zz, ite_m1_le, ite_m1_eq, oi_none, oi_some, ob_some, lw_def, ck_true, ckp_su, ite_lt_t, ite_lt_f, ite_le_t, ite_le_f, ite_eq_t, ite_eq_f, ck_inb, nI_add, sb_nI, mu_nI, nI_clamp, sO_at, sO_sO, Nat.add_sub_cancel, Nat.zero_add, Nat.add_zero, li_0, li_1, li_2, li_3, li_4, li_5, li_6, li_7, li_8, li_9, li_10, li_11, li_12, li_16, li_20, li_24, li_31, li_32, li_48, li_49, li_73, li_74, li_75, li_97, li_98, li_99, li_100, li_101, li_109, li_110, li_255, li_680, li_700, li_9999, li_65536, li_65537]
    · simp (disch := omega) only [↓mo_1, ↓mo_2, ad_m1, ite_m1_lt, ite_m2_lt, ite_le_m1, ite_eq_m1, ite_eq_m2, ite_m1_m1, ite_m2_m2, ite_T, ite_F, ite_nz, ite_zz, ite_m1_le, ite_m1_eq, oi_none, oi_some, ob_some, lw_def, ck_true, ckp_su, ite_lt_t, ite_lt_f, ite_le_t, ite_le_f, ite_eq_t, ite_eq_f, ck_inb, nI_add, sb_nI, mu_nI, nI_clamp, sO_at, sO_sO, Nat.add_sub_cancel, Nat.zero_add, Nat.add_zero, li_0, li_1, li_2, li_3, li_4, li_5, li_6, li_7, li_8, li_9, li_10, li_11, li_12, li_16, li_20, li_24, li_31, li_32, li_48, li_49, li_73, li_74, li_75, li_97, li_98, li_99, li_100, li_101, li_109, li_110, li_255, li_680, li_700, li_9999, li_65536, li_65537, hp, hc]
      have es := shl_u hu
      rw [es]
      simp (disch := omega) only [↓mo_1, ↓mo_2, ad_m1, ite_m1_lt, ite_m2_lt, ite_le_m1, ite_eq_m1, ite_eq_m2, ite_m1_m1, ite_m2_m2, ite_T, ite_F, ite_nz, ite_zz, ite_m1_le, ite_m1_eq, oi_none, oi_some, ob_some, lw_def, ck_true, ckp_su, ite_lt_t, ite_lt_f, ite_le_t, ite_le_f, ite_eq_t, ite_eq_f, ck_inb, nI_add, sb_nI, mu_nI, nI_clamp, sO_at, sO_sO, Nat.add_sub_cancel, Nat.zero_add, Nat.add_zero, li_0, li_1, li_2, li_3, li_4, li_5, li_6, li_7, li_8, li_9, li_10, li_11, li_12, li_16, li_20, li_24, li_31, li_32, li_48, li_49, li_73, li_74, li_75, li_97, li_98, li_99, li_100, li_101, li_109, li_110, li_255, li_680, li_700, li_9999, li_65536, li_65537]
  | succ r ih =>
    intro k hk m w hm hp hS hR hF
    obtain ⟨m, rfl⟩ : ∃ z, m = z + 1 := ⟨m - 1, by omega⟩
    have hc := hR.2.2.1.1
    have es := shl_u hu
    obtain ⟨o2, b1, b2, -⟩ := x_runOn (S := nI k) hD hS hR hT hq hp
    have b3 := x_firstRead (S := nI k) hD hT hq hp hR b2
    have n1 : ∀ {c i : Nat}, ¬ (c = 7 ∧ i = 1) → sO w 7 1 o2 c i = w c i := fun h => sO_ne h
    have p1 : (sO w 7 1 o2 9 0).2.2.1 2 = q + 1 := by rw [n1 (by omega)]; exact hp
    have s1 : RSh (sO w 7 1 o2 5 q) D := by rw [n1 (by omega)]; exact hS
    have r1 : RT (sO w 7 1 o2) q T := RT_s hR
    have f1 : RF (sO w 7 1 o2 1 0) (fitL D T k) := by rw [n1 (by omega)]; exact hF
    have hl : (fitL D T k).1 ≤ k := by
      rw [fl_1]
      exact ctp_le _ k
    by_cases c : fitB D T k = true
    · have c1 := fit_oi.mp c
      rw [c1, oi2_n] at b3
      have g1 := f1.1
      generalize hw1 : sO w 7 1 o2 = w1 at *
      have a1 : fX1_addSet w1 (nI k) = some ((), sO w1 1 0 (oI (oA (w1 1 0) 0 (fitL D T k).1 (nI k)) 1 (nI ((fitL D T k).1 + 1)))) := by
        unfold fX1_addSet
        simp (disch := omega) only [↓mo_1, ↓mo_2, ad_m1, ite_m1_lt, ite_m2_lt, ite_le_m1, ite_eq_m1, ite_eq_m2, ite_m1_m1, ite_m2_m2, ite_T, ite_F, ite_nz, ite_zz, ite_m1_le, ite_m1_eq, oi_none, oi_some, ob_some, lw_def, ck_true, ckp_su, ite_lt_t, ite_lt_f, ite_le_t, ite_le_f, ite_eq_t, ite_eq_f, ck_inb, nI_add, sb_nI, mu_nI, nI_clamp, sO_at, sO_sO, Nat.add_sub_cancel, Nat.zero_add, Nat.add_zero, li_0, li_1, li_2, li_3, li_4, li_5, li_6, li_7, li_8, li_9, li_10, li_11, li_12, li_16, li_20, li_24, li_31, li_32, li_48, li_49, li_73, li_74, li_75, li_97, li_98, li_99, li_100, li_101, li_109, li_110, li_255, li_680, li_700, li_9999, li_65536, li_65537, g1, sA, sI, oA_1]
      have f2 : RF (sO w1 1 0 (oI (oA (w1 1 0) 0 (fitL D T k).1 (nI k)) 1 (nI ((fitL D T k).1 + 1))) 1 0) (fitL D T (k + 1)) := by
        rw [sO_at, fl_t c]
        refine ⟨oI_a, fun i hi => ?_⟩
        have hi : i < (fitL D T k).1 + 1 := hi
        rw [oI_2, oA_a]
        show _ = nI (va_up (fitL D T k).2 (fitL D T k).1 k i)
        by_cases y : i = (fitL D T k).1
        · rw [y, upd_at, va_up_self]
        · rw [upd_ne y, va_up_ne _ _ y]
          exact f1.2 i (by omega)
      have n2 : ∀ {o : Ob} {c i : Nat}, ¬ (c = 1 ∧ i = 0) → sO w1 1 0 o c i = w1 c i := fun h => sO_ne h
      obtain ⟨w2, i1, i2, i3⟩ := ih (k + 1) (by omega) m _ (by omega) (by rw [n2 (by omega)]; exact p1) (by rw [n2 (by omega)]; exact s1) (by unfold RT; rw [n2 (by omega), n2 (by omega), n2 (by omega), n2 (by omega)]; exact r1) f2
      refine ⟨w2, ?_, i2, fun c i x y => by rw [i3 c i x y, n2 y, ← hw1, sO_ne x]⟩
      rw [fX9_beginAnew_36.eq_2]
      simp (disch := omega) only [↓mo_1, ↓mo_2, ad_m1, ite_m1_lt, ite_m2_lt, ite_le_m1, ite_eq_m1, ite_eq_m2, ite_m1_m1, ite_m2_m2, ite_T, ite_F, ite_nz, ite_zz, ite_m1_le, ite_m1_eq, oi_none, oi_some, ob_some, lw_def, ck_true, ckp_su, ite_lt_t, ite_lt_f, ite_le_t, ite_le_f, ite_eq_t, ite_eq_f, ck_inb, nI_add, sb_nI, mu_nI, nI_clamp, sO_at, sO_sO, Nat.add_sub_cancel, Nat.zero_add, Nat.add_zero, li_0, li_1, li_2, li_3, li_4, li_5, li_6, li_7, li_8, li_9, li_10, li_11, li_12, li_16, li_20, li_24, li_31, li_32, li_48, li_49, li_73, li_74, li_75, li_97, li_98, li_99, li_100, li_101, li_109, li_110, li_255, li_680, li_700, li_9999, li_65536, li_65537, hp, hc]
      rw [es]
      simp (disch := omega) only [↓mo_1, ↓mo_2, ad_m1, ite_m1_lt, ite_m2_lt, ite_le_m1, ite_eq_m1, ite_eq_m2, ite_m1_m1, ite_m2_m2, ite_T, ite_F, ite_nz, ite_zz, ite_m1_le, ite_m1_eq, oi_none, oi_some, ob_some, lw_def, ck_true, ckp_su, ite_lt_t, ite_lt_f, ite_le_t, ite_le_f, ite_eq_t, ite_eq_f, ck_inb, nI_add, sb_nI, mu_nI, nI_clamp, sO_at, sO_sO, Nat.add_sub_cancel, Nat.zero_add, Nat.add_zero, li_0, li_1, li_2, li_3, li_4, li_5, li_6, li_7, li_8, li_9, li_10, li_11, li_12, li_16, li_20, li_24, li_31, li_32, li_48, li_49, li_73, li_74, li_75, li_97, li_98, li_99, li_100, li_101, li_109, li_110, li_255, li_680, li_700, li_9999, li_65536, li_65537, b1, b3, a1]
      exact i1
    · have c1 : ∃ z, wrS D T (nI k) = some z := by
        cases y : wrS D T (nI k) with
        | none => exact absurd (fit_oi.mpr y) c
        | some z => exact ⟨z, rfl⟩
      obtain ⟨z, c1⟩ := c1
      rw [c1] at b3
      have hz : z < 2 ^ 31 := by
        have : ∀ n z, wrR D T (goS D T (nI k) T.2.1.1) n = some z → z < n := by
          intro n
          induction n with
          | zero => intro z h; cases h
          | succ n ihn =>
            intro z h
            have h : (match wrR D T (goS D T (nI k) T.2.1.1) n with
              | some i => some i
              | none => if vaS (goS D T (nI k) T.2.1.1) (T.2.2.2.2.1 n) = T.2.2.2.2.2 n then none else some n) = some z := h
            cases y : wrR D T (goS D T (nI k) T.2.1.1) n with
            | some i => rw [y] at h; cases h; have := ihn _ y; omega
            | none =>
              rw [y] at h
              by_cases x : vaS (goS D T (nI k) T.2.1.1) (T.2.2.2.2.1 n) = T.2.2.2.2.2 n
              · simp only [if_pos x] at h; cases h
              · simp only [if_neg x] at h; cases h; omega
        have h6 := hT.2.2.2.1
        have := this _ z c1
        omega
      obtain ⟨w2, i1, i2, i3⟩ := ih (k + 1) (by omega) m (sO w 7 1 o2) (by omega) p1 s1 r1 (by rw [fl_f c]; exact f1)
      refine ⟨w2, ?_, i2, fun c i x y => by rw [i3 c i x y, sO_ne x]⟩
      have b3 : fX9_firstReadOtherwise (sO w 7 1 o2) = some (nI z, sO w 7 1 o2) := b3
      rw [fX9_beginAnew_36.eq_2]
      simp (disch := omega) only [↓mo_1, ↓mo_2, ad_m1, ite_m1_lt, ite_m2_lt, ite_le_m1, ite_eq_m1, ite_eq_m2, ite_m1_m1, ite_m2_m2, ite_T, ite_F, ite_nz, ite_zz, ite_m1_le, ite_m1_eq, oi_none, oi_some, ob_some, lw_def, ck_true, ckp_su, ite_lt_t, ite_lt_f, ite_le_t, ite_le_f, ite_eq_t, ite_eq_f, ck_inb, nI_add, sb_nI, mu_nI, nI_clamp, sO_at, sO_sO, Nat.add_sub_cancel, Nat.zero_add, Nat.add_zero, li_0, li_1, li_2, li_3, li_4, li_5, li_6, li_7, li_8, li_9, li_10, li_11, li_12, li_16, li_20, li_24, li_31, li_32, li_48, li_49, li_73, li_74, li_75, li_97, li_98, li_99, li_100, li_101, li_109, li_110, li_255, li_680, li_700, li_9999, li_65536, li_65537, hp, hc]
      rw [es]
      simp (disch := omega) only [↓mo_1, ↓mo_2, ad_m1, ite_m1_lt, ite_m2_lt, ite_le_m1, ite_eq_m1, ite_eq_m2, ite_m1_m1, ite_m2_m2, ite_T, ite_F, ite_nz, ite_zz, ite_m1_le, ite_m1_eq, oi_none, oi_some, ob_some, lw_def, ck_true, ckp_su, ite_lt_t, ite_lt_f, ite_le_t, ite_le_f, ite_eq_t, ite_eq_f, ck_inb, nI_add, sb_nI, mu_nI, nI_clamp, sO_at, sO_sO, Nat.add_sub_cancel, Nat.zero_add, Nat.add_zero, li_0, li_1, li_2, li_3, li_4, li_5, li_6, li_7, li_8, li_9, li_10, li_11, li_12, li_16, li_20, li_24, li_31, li_32, li_48, li_49, li_73, li_74, li_75, li_97, li_98, li_99, li_100, li_101, li_109, li_110, li_255, li_680, li_700, li_9999, li_65536, li_65537, b1, b3]
      exact i1
theorem x_ba (hD : WFD D) (hT : WFT D T) (hq : q < 2) (hp : (w 9 0).2.2.1 2 = q + 1) (hS : RSh (w 5 q) D) (hR : RT w q T) : ∃ w2 : Wd, fX9_beginAnew w = some ((), w2) ∧ RF (w2 1 0) (fitA D T) ∧ RX (w2 7 0) (bgS T) ∧ ((w2 2 0).1 2 = nI 0 ∧ (w2 2 0).1 1 = (w 2 0).1 1) ∧ w2 9 0 = oI (w 9 0) 12 (nI 0) ∧ ∀ c i, ¬ (c = 7 ∧ i = 1) → ¬ (c = 7 ∧ i = 0) → ¬ (c = 1 ∧ i = 0) → ¬ (c = 2 ∧ i = 0) → ¬ (c = 9 ∧ i = 0) → w2 c i = w c i := by
  obtain ⟨o2, a1, a2, -⟩ := x_begin (w := w) (j := 0) (o := w 7 0) hR.1 hT hD
  rw [sO_id] at a1
  generalize hw7 : sI (sI (sI (sO w 7 0 o2) 2 0 2 (nI 0)) 9 0 12 (nI 0)) 1 0 1 (nI 0) = w7
  have q7 : ∀ c i, ¬ (c = 7 ∧ i = 0) → ¬ (c = 1 ∧ i = 0) → ¬ (c = 2 ∧ i = 0) → ¬ (c = 9 ∧ i = 0) → w7 c i = w c i := fun c i x1 x2 x3 x4 => by rw [← hw7, sI_o x2, sI_o x4, sI_o x3, sO_ne x1]
  have e9 : w7 9 0 = oI (w 9 0) 12 (nI 0) := by
    rw [← hw7, sI_o (by omega)]
    show sO _ 9 0 _ 9 0 = _
    rw [sO_at, sI_o (by omega), sO_ne (by omega)]
  have e7 : w7 7 0 = o2 := by rw [← hw7, sI_o (by omega), sI_o (by omega), sI_o (by omega), sO_at]
  have e2 : (w7 2 0).1 2 = nI 0 ∧ (w7 2 0).1 1 = (w 2 0).1 1 := by
    rw [← hw7, sI_o (by omega), sI_o (by omega)]
    exact ⟨sI_i, by rw [sI_n (by decide), sO_ne (by omega)]⟩
  have e1 : (w7 1 0).1 1 = nI 0 := by rw [← hw7]; exact sI_i
  obtain ⟨w2, b1, b2, b3⟩ := x_ba36 hD hT hq (2 ^ T.2.2.1.1) 0 (Nat.zero_add _) fuel0 w7 (by have := p2_16 hT.2.2.1.1; unfold fuel0; omega) (by rw [e9]; exact hp) (by rw [q7 5 q (by omega) (by omega) (by omega) (by omega)]; exact hS) (by unfold RT; rw [q7 3 _ (by omega) (by omega) (by omega) (by omega), q7 3 _ (by omega) (by omega) (by omega) (by omega), q7 3 _ (by omega) (by omega) (by omega) (by omega), q7 3 _ (by omega) (by omega) (by omega) (by omega)]; exact hR) ⟨e1, fun i hi => absurd hi (Nat.not_lt_zero i)⟩
  refine ⟨w2, ?_, b2, by rw [b3 7 0 (by omega) (by omega), e7]; exact a2, by rw [b3 2 0 (by omega) (by omega)]; exact e2, by rw [b3 9 0 (by omega) (by omega)]; exact e9, fun c i x1 x2 x3 x4 x5 => by rw [b3 c i x1 x3, q7 c i x2 x3 x4 x5]⟩
  unfold fX9_beginAnew fX2_forget
  simp (disch := omega) only [↓mo_1, ↓mo_2, ad_m1, ite_m1_lt, ite_m2_lt, ite_le_m1, ite_eq_m1, ite_eq_m2, ite_m1_m1, ite_m2_m2, ite_T, ite_F, ite_nz, ite_zz, ite_m1_le, ite_m1_eq, oi_none, oi_some, ob_some, lw_def, ck_true, ckp_su, ite_lt_t, ite_lt_f, ite_le_t, ite_le_f, ite_eq_t, ite_eq_f, ck_inb, nI_add, sb_nI, mu_nI, nI_clamp, sO_at, sO_sO, Nat.add_sub_cancel, Nat.zero_add, Nat.add_zero, li_0, li_1, li_2, li_3, li_4, li_5, li_6, li_7, li_8, li_9, li_10, li_11, li_12, li_16, li_20, li_24, li_31, li_32, li_48, li_49, li_73, li_74, li_75, li_97, li_98, li_99, li_100, li_101, li_109, li_110, li_255, li_680, li_700, li_9999, li_65536, li_65537, hp, a1, hw7]
  exact b1
end CD
