/-! ===== led ===== -/
/-- the class: some track, or it throws -/
def fX9_led_4 : Nat → Wd → Int32 → Int32 → Int32 → Option (Option Int32 × Wd)
  | 0, _, _, _, _ => none
  | n + 1, w, x1, x2, x3 =>
    ckp ((w 9 0).2.2.1 2) 2 fun q1 =>
    if (((w 5 q1).1 4) : Int32) ≤ x3 then
      some (none, w)
    else
      ob (fX7_livePlaceOf 0 w (x3)) fun r3 w4 =>
      if (0 : Int32) ≤ r3 then
        lw (x3 + 1) fun x3_6 =>
        fX9_led_4 n w4 (x1) (x2) (x3_6)
      else
        if (x2 : Int32) = x1 then
          some (some x3, w4)
        else
          lw (x2 + 1) fun x2_8 =>
          lw (x3 + 1) fun x3_9 =>
          fX9_led_4 n w4 (x1) (x2_8) (x3_9)
def fX9_led (w : Wd) (x1 : Int32) : Option (Option Int32 × Wd) := fX9_led_4 fuel0 w x1 (0) (0)
def ldS (s : Sd) (x : Int32) : Nat → Nat → Nat → Option Nat
  | 0, _, _ => none
  | r + 1, t, c => match lpS s t with
    | none => if nI c = x then some t else ldS s x r (t + 1) (c + 1)
    | some _ => ldS s x r (t + 1) c
theorem ld_n {s : Sd} {x : Int32} {r t c : Nat} (h : lpS s t = none) : ldS s x (r + 1) t c = if nI c = x then some t else ldS s x r (t + 1) (c + 1) := by
  show (match lpS s t with
    | none => if nI c = x then some t else ldS s x r (t + 1) (c + 1)
    | some _ => ldS s x r (t + 1) c) = _
  rw [h]
theorem ld_s {s : Sd} {x : Int32} {r t c i : Nat} (h : lpS s t = some i) : ldS s x (r + 1) t c = ldS s x r (t + 1) c := by
  show (match lpS s t with
    | none => if nI c = x then some t else ldS s x r (t + 1) (c + 1)
    | some _ => ldS s x r (t + 1) c) = _
  rw [h]
theorem sA_1 {w : Wd} {c j k i : Nat} {v : Int32} : (sA w c j k i v c j).1 = (w c j).1 := by unfold sA; rw [sO_at]; rfl
theorem f0_31 {nd : Nat} : ∀ (m : Nat) (w : Wd) (x y : Int32) (a : Unit) (w' : Wd), fX11_bandsAsTold_31 nd m w x y = some (a, w') → (w' 11 0).1 0 = (w 11 0).1 0 := by
  intro m
  induction m with
  | zero => intro w x y a w' h; cases h
  | succ m ih =>
    intro w x y a w' h
    rw [fX11_bandsAsTold_31.eq_2] at h
    by_cases c : ((w 11 0).1 23 : Int32) ≤ y
    · have h := if_t c h
      cases h
      rfl
    · have h := if_f c h
      obtain ⟨-, h⟩ := ck_e h
      obtain ⟨w8, rfl, h⟩ := lw_e h
      obtain ⟨q9, -, -, h⟩ := ckp_e h
      obtain ⟨-, h⟩ := ck_e h
      obtain ⟨-, h⟩ := ck_e h
      obtain ⟨w12, rfl, h⟩ := lw_e h
      obtain ⟨-, h⟩ := ck_e h
      obtain ⟨z1, -, h⟩ := lw_e h
      obtain ⟨z2, -, h⟩ := lw_e h
      rw [ih _ _ _ _ _ h, sA_1, sA_1]
theorem f0_b {nd : Nat} {w w' : Wd} {a : Unit} (h : fX11_bandsAsTold nd w = some (a, w')) : (w' 11 0).1 0 = (w 11 0).1 0 := by
  unfold fX11_bandsAsTold at h
  obtain ⟨q1, -, -, h⟩ := ckp_e h
  obtain ⟨w2, rfl, h⟩ := lw_e h
  obtain ⟨q3, -, -, h⟩ := ckp_e h
  obtain ⟨w4, rfl, h⟩ := lw_e h
  obtain ⟨w5, rfl, h⟩ := lw_e h
  rw [f0_31 _ _ _ _ _ _ h, sI_n (by decide), sI_n (by decide), sI_n (by decide)]
theorem f0_w2 {nd : Nat} : ∀ (m : Nat) (w : Wd) (x : Int32) (a : Unit) (w' : Wd), fX11_works_2 nd m w x = some (a, w') → (w' 11 0).1 0 = (w 11 0).1 0 := by
  intro m
  induction m with
  | zero => intro w x a w' h; cases h
  | succ m ih =>
    intro w x a w' h
    rw [fX11_works_2.eq_2] at h
    by_cases c : (110 : Int32) ≤ x
    · have h := if_t c h
      obtain ⟨r, w3, h1, h⟩ := ob_e h
      cases h
      exact f0_b h1
    · have h := if_f c h
      obtain ⟨-, h⟩ := ck_e h
      obtain ⟨-, h⟩ := ck_e h
      obtain ⟨w6, rfl, h⟩ := lw_e h
      obtain ⟨z1, -, h⟩ := lw_e h
      rw [ih _ _ _ _ h, sA_1]
section LED
variable {w w2 : Wd} {D : Dk} {T : Tk} {s : Sd} {q nd d : Nat} {x : Int32} {A : Ab} {g : Nat → Int32}
theorem x_led4 (hD : WFD D) (hW : WFS D s) (hq : q < 2) (hp : (w 9 0).2.2.1 2 = q + 1) (hS : RSh (w 5 q) D) (hR : RX (w 7 0) s) : ∀ r t c, t + r = dnt D → c ≤ t → ∀ m, r < m → fX9_led_4 m w x (nI c) (nI t) = some ((ldS s x r t c).map nI, w) := by
  have h48 := hD.2.2.2.1
  have h4 := hS.2.2.2.1
  intro r
  induction r with
  | zero =>
    intro t c ht hc m hm
    obtain ⟨m, rfl⟩ : ∃ z, m = z + 1 := ⟨m - 1, by omega⟩
    rw [fX9_led_4.eq_2]
    simp (disch := omega) only [↓mo_1, ↓mo_2, ad_m1, ite_m1_lt, ite_m2_lt, ite_le_m1, ite_eq_m1, ite_eq_m2, ite_m1_m1, ite_m2_m2, ite_T, ite_F, ite_nz, ite_zz, ite_m1_le, ite_m1_eq, oi_none, oi_some, ob_some, lw_def, ck_true, ckp_su, ite_lt_t, ite_lt_f, ite_le_t, ite_le_f, ite_eq_t, ite_eq_f, ck_inb, nI_add, sb_nI, mu_nI, nI_clamp, sO_at, sO_sO, Nat.add_sub_cancel, Nat.zero_add, Nat.add_zero, li_0, li_1, li_2, li_3, li_4, li_5, li_6, li_7, li_8, li_9, li_10, li_11, li_12, li_16, li_20, li_24, li_31, li_32, li_48, li_49, li_73, li_74, li_75, li_97, li_98, li_99, li_100, li_101, li_109, li_110, li_255, li_680, li_700, li_9999, li_65536, li_65537, hp, h4]
    rfl
  | succ r ih =>
    intro t c ht hc m hm
    obtain ⟨m, rfl⟩ : ∃ z, m = z + 1 := ⟨m - 1, by omega⟩
    have e := x_livePlaceOf (w := w) (j := 0) (o := w 7 0) hD hW hR (show t < 2 ^ 31 by omega)
    rw [sO_id] at e
    rw [fX9_led_4.eq_2]
    simp (disch := omega) only [↓mo_1, ↓mo_2, ad_m1, ite_m1_lt, ite_m2_lt, ite_le_m1, ite_eq_m1, ite_eq_m2, ite_m1_m1, ite_m2_m2, ite_T, ite_F, ite_nz, ite_zz, ite_m1_le, ite_m1_eq, oi_none, oi_some, ob_some, lw_def, ck_true, ckp_su, ite_lt_t, ite_lt_f, ite_le_t, ite_le_f, ite_eq_t, ite_eq_f, ck_inb, nI_add, sb_nI, mu_nI, nI_clamp, sO_at, sO_sO, Nat.add_sub_cancel, Nat.zero_add, Nat.add_zero, li_0, li_1, li_2, li_3, li_4, li_5, li_6, li_7, li_8, li_9, li_10, li_11, li_12, li_16, li_20, li_24, li_31, li_32, li_48, li_49, li_73, li_74, li_75, li_97, li_98, li_99, li_100, li_101, li_109, li_110, li_255, li_680, li_700, li_9999, li_65536, li_65537, hp, h4, e]
    cases y : lpS s t with
    | none =>
      rw [ld_n y]
      simp (disch := omega) only [↓mo_1, ↓mo_2, ad_m1, ite_m1_lt, ite_m2_lt, ite_le_m1, ite_eq_m1, ite_eq_m2, ite_m1_m1, ite_m2_m2, ite_T, ite_F, ite_nz, ite_zz, ite_m1_le, ite_m1_eq, oi_none, oi_some, ob_some, lw_def, ck_true, ckp_su, ite_lt_t, ite_lt_f, ite_le_t, ite_le_f, ite_eq_t, ite_eq_f, ck_inb, nI_add, sb_nI, mu_nI, nI_clamp, sO_at, sO_sO, Nat.add_sub_cancel, Nat.zero_add, Nat.add_zero, li_0, li_1, li_2, li_3, li_4, li_5, li_6, li_7, li_8, li_9, li_10, li_11, li_12, li_16, li_20, li_24, li_31, li_32, li_48, li_49, li_73, li_74, li_75, li_97, li_98, li_99, li_100, li_101, li_109, li_110, li_255, li_680, li_700, li_9999, li_65536, li_65537]
      by_cases z : nI c = x
      · rw [if_pos z, if_pos z]
        rfl
      · rw [if_neg z, if_neg z]
        exact ih (t + 1) (c + 1) (by omega) (by omega) m (by omega)
    | some i =>
      have hi := (lpS_lt y).1
      have hn := hW.n24 hD
      rw [ld_s y]
      simp (disch := omega) only [↓mo_1, ↓mo_2, ad_m1, ite_m1_lt, ite_m2_lt, ite_le_m1, ite_eq_m1, ite_eq_m2, ite_m1_m1, ite_m2_m2, ite_T, ite_F, ite_nz, ite_zz, ite_m1_le, ite_m1_eq, oi_none, oi_some, ob_some, lw_def, ck_true, ckp_su, ite_lt_t, ite_lt_f, ite_le_t, ite_le_f, ite_eq_t, ite_eq_f, ck_inb, nI_add, sb_nI, mu_nI, nI_clamp, sO_at, sO_sO, Nat.add_sub_cancel, Nat.zero_add, Nat.add_zero, li_0, li_1, li_2, li_3, li_4, li_5, li_6, li_7, li_8, li_9, li_10, li_11, li_12, li_16, li_20, li_24, li_31, li_32, li_48, li_49, li_73, li_74, li_75, li_97, li_98, li_99, li_100, li_101, li_109, li_110, li_255, li_680, li_700, li_9999, li_65536, li_65537]
      exact ih (t + 1) c (by omega) (by omega) m (by omega)
theorem m_led20 (hD : WFD D) (hW : WFS D s) (hd : d < nd) (hp : (w 11 0).2.2.1 3 = d + 1) (h3 : (w 10 d).1 3 = nI (dnt D)) (hM : RM g s) : ∀ r t c, t + r = dnt D → c ≤ t → ∀ m, r < m → fX11_led_20 nd m (mX w g) x (nI c) (nI t) = (match ldS s x r t c with
    | some u => some (nI u, mX w g)
    | none => some (nI 0, sI (mX w g) 11 0 0 (nI 1))) := by
  have h48 := hD.2.2.2.1
  have p2 : (mX w g 11 0).2.2.1 3 = d + 1 := by rw [mX_p]; exact hp
  have q2 : (mX w g 10 d).1 3 = nI (dnt D) := by rw [mX_c (by decide)]; exact h3
  intro r
  induction r with
  | zero =>
    intro t c ht hc m hm
    obtain ⟨m, rfl⟩ : ∃ z, m = z + 1 := ⟨m - 1, by omega⟩
    rw [fX11_led_20.eq_2]
    simp (disch := omega) only [↓mo_1, ↓mo_2, ad_m1, ite_m1_lt, ite_m2_lt, ite_le_m1, ite_eq_m1, ite_eq_m2, ite_m1_m1, ite_m2_m2, ite_T, ite_F, ite_nz, ite_zz, ite_m1_le, ite_m1_eq, oi_none, oi_some, ob_some, lw_def, ck_true, ckp_su, ite_lt_t, ite_lt_f, ite_le_t, ite_le_f, ite_eq_t, ite_eq_f, ck_inb, nI_add, sb_nI, mu_nI, nI_clamp, sO_at, sO_sO, Nat.add_sub_cancel, Nat.zero_add, Nat.add_zero, li_0, li_1, li_2, li_3, li_4, li_5, li_6, li_7, li_8, li_9, li_10, li_11, li_12, li_16, li_20, li_24, li_31, li_32, li_48, li_49, li_73, li_74, li_75, li_97, li_98, li_99, li_100, li_101, li_109, li_110, li_255, li_680, li_700, li_9999, li_65536, li_65537, p2, q2]
    rfl
  | succ r ih =>
    intro t c ht hc m hm
    obtain ⟨m, rfl⟩ : ∃ z, m = z + 1 := ⟨m - 1, by omega⟩
    have e := m_liveOf (nd := nd) (w := w) hD hW hM (show t < 2 ^ 31 by omega)
    rw [fX11_led_20.eq_2]
    simp (disch := omega) only [↓mo_1, ↓mo_2, ad_m1, ite_m1_lt, ite_m2_lt, ite_le_m1, ite_eq_m1, ite_eq_m2, ite_m1_m1, ite_m2_m2, ite_T, ite_F, ite_nz, ite_zz, ite_m1_le, ite_m1_eq, oi_none, oi_some, ob_some, lw_def, ck_true, ckp_su, ite_lt_t, ite_lt_f, ite_le_t, ite_le_f, ite_eq_t, ite_eq_f, ck_inb, nI_add, sb_nI, mu_nI, nI_clamp, sO_at, sO_sO, Nat.add_sub_cancel, Nat.zero_add, Nat.add_zero, li_0, li_1, li_2, li_3, li_4, li_5, li_6, li_7, li_8, li_9, li_10, li_11, li_12, li_16, li_20, li_24, li_31, li_32, li_48, li_49, li_73, li_74, li_75, li_97, li_98, li_99, li_100, li_101, li_109, li_110, li_255, li_680, li_700, li_9999, li_65536, li_65537, p2, q2, e]
    cases y : lpS s t with
    | none =>
      rw [ld_n y]
      simp (disch := omega) only [↓mo_1, ↓mo_2, ad_m1, ite_m1_lt, ite_m2_lt, ite_le_m1, ite_eq_m1, ite_eq_m2, ite_m1_m1, ite_m2_m2, ite_T, ite_F, ite_nz, ite_zz, ite_m1_le, ite_m1_eq, oi_none, oi_some, ob_some, lw_def, ck_true, ckp_su, ite_lt_t, ite_lt_f, ite_le_t, ite_le_f, ite_eq_t, ite_eq_f, ck_inb, nI_add, sb_nI, mu_nI, nI_clamp, sO_at, sO_sO, Nat.add_sub_cancel, Nat.zero_add, Nat.add_zero, li_0, li_1, li_2, li_3, li_4, li_5, li_6, li_7, li_8, li_9, li_10, li_11, li_12, li_16, li_20, li_24, li_31, li_32, li_48, li_49, li_73, li_74, li_75, li_97, li_98, li_99, li_100, li_101, li_109, li_110, li_255, li_680, li_700, li_9999, li_65536, li_65537]
      by_cases z : nI c = x
      · rw [if_pos z, if_pos z]
      · rw [if_neg z, if_neg z]
        exact ih (t + 1) (c + 1) (by omega) (by omega) m (by omega)
    | some i =>
      have hi := (lpS_lt y).1
      have hn := hW.n24 hD
      rw [ld_s y]
      simp (disch := omega) only [↓mo_1, ↓mo_2, ad_m1, ite_m1_lt, ite_m2_lt, ite_le_m1, ite_eq_m1, ite_eq_m2, ite_m1_m1, ite_m2_m2, ite_T, ite_F, ite_nz, ite_zz, ite_m1_le, ite_m1_eq, oi_none, oi_some, ob_some, lw_def, ck_true, ckp_su, ite_lt_t, ite_lt_f, ite_le_t, ite_le_f, ite_eq_t, ite_eq_f, ck_inb, nI_add, sb_nI, mu_nI, nI_clamp, sO_at, sO_sO, Nat.add_sub_cancel, Nat.zero_add, Nat.add_zero, li_0, li_1, li_2, li_3, li_4, li_5, li_6, li_7, li_8, li_9, li_10, li_11, li_12, li_16, li_20, li_24, li_31, li_32, li_48, li_49, li_73, li_74, li_75, li_97, li_98, li_99, li_100, li_101, li_109, li_110, li_255, li_680, li_700, li_9999, li_65536, li_65537]
      exact ih (t + 1) c (by omega) (by omega) m (by omega)
def lgT (o : Option Nat) : Int32 := match o with
  | some t => nI t
  | none => nI 0
def lgF (o : Option Nat) : Int32 := match o with
  | some _ => nI 0
  | none => nI 1
theorem c_led (hA : AOK A) : ∃ o : Option Nat, (∀ w, XRel w A → fX9_led w x = some (o.map nI, w)) ∧ ∀ nd w, MRel nd w A → ∃ w2, fX11_led nd w x = some (lgT o, w2) ∧ MRel nd w2 A ∧ FM w w2 ∧ (w2 11 0).1 0 = lgF o := by
  have s1 : ∀ {w : Wd}, SM w (sI w 11 0 0 (nI 0)) := fun {w} => SM.i (by decide)
  have s2 : ∀ {w : Wd}, SM w (sI w 11 0 0 (nI 1)) := fun {w} => SM.i (by decide)
  cases hd : A.2.2.2.2 with
  | none =>
    refine ⟨none, fun w hw => ?_, fun nd w hw => ?_⟩
    · obtain ⟨q, a1, a2, a3, a4, a5, a6, a7, a8, a9⟩ := hw
      rw [hd] at a9
      have h4 := a9.1.2.1
      show fX9_led_4 fuel0 w x _ _ = _
      rw [show fuel0 = (fuel0 - 1) + 1 from rfl, fX9_led_4.eq_2]
      simp (disch := omega) only [↓mo_1, ↓mo_2, ad_m1, ite_m1_lt, ite_m2_lt, ite_le_m1, ite_eq_m1, ite_eq_m2, ite_m1_m1, ite_m2_m2, ite_T, ite_F, ite_nz, ite_zz, ite_m1_le, ite_m1_eq, oi_none, oi_some, ob_some, lw_def, ck_true, ckp_su, ite_lt_t, ite_lt_f, ite_le_t, ite_le_f, ite_eq_t, ite_eq_f, ck_inb, nI_add, sb_nI, mu_nI, nI_clamp, sO_at, sO_sO, Nat.add_sub_cancel, Nat.zero_add, Nat.add_zero, li_0, li_1, li_2, li_3, li_4, li_5, li_6, li_7, li_8, li_9, li_10, li_11, li_12, li_16, li_20, li_24, li_31, li_32, li_48, li_49, li_73, li_74, li_75, li_97, li_98, li_99, li_100, li_101, li_109, li_110, li_255, li_680, li_700, li_9999, li_65536, li_65537, a2, h4]
      rfl
    · have h6 := hw.2.2.2.2.2
      rw [hd] at h6
      have p1 : (sI w 11 0 0 (nI 0) 11 0).2.2.1 3 = 0 := by rw [sI_2]; exact h6
      have t := (s1 (w := w)).tr s2
      refine ⟨_, ?_, hw.sm t, t.fm, sI_i⟩
      unfold fX11_led
      rw [li_0, lw_def, if_pos p1, show fuel0 = (fuel0 - 1) + 1 from rfl, fX11_led_20.eq_2]
      simp (disch := omega) only [↓mo_1, ↓mo_2, ad_m1, ite_m1_lt, ite_m2_lt, ite_le_m1, ite_eq_m1, ite_eq_m2, ite_m1_m1, ite_m2_m2, ite_T, ite_F, ite_nz, ite_zz, ite_m1_le, ite_m1_eq, oi_none, oi_some, ob_some, lw_def, ck_true, ckp_su, ite_lt_t, ite_lt_f, ite_le_t, ite_le_f, ite_eq_t, ite_eq_f, ck_inb, nI_add, sb_nI, mu_nI, nI_clamp, sO_at, sO_sO, Nat.add_sub_cancel, Nat.zero_add, Nat.add_zero, li_0, li_1, li_2, li_3, li_4, li_5, li_6, li_7, li_8, li_9, li_10, li_11, li_12, li_16, li_20, li_24, li_31, li_32, li_48, li_49, li_73, li_74, li_75, li_97, li_98, li_99, li_100, li_101, li_109, li_110, li_255, li_680, li_700, li_9999, li_65536, li_65537, p1]
      rfl
  | some v =>
    obtain ⟨D, T, s, h, im⟩ := v
    have hok := hA.2.2
    rw [hd] at hok
    obtain ⟨hD, -, -, hW, -⟩ := hok
    refine ⟨ldS s x (dnt D) 0 0, fun w hw => ?_, fun nd w hw => ?_⟩
    · obtain ⟨q, a1, a2, a3, a4, a5, a6, a7, a8, a9⟩ := hw
      rw [hd] at a9
      have h48 := hD.2.2.2.1
      exact x_led4 hD hW a1 a2 a9.1 a9.2.2.1 (dnt D) 0 0 (Nat.zero_add _) (Nat.le_refl _) fuel0 (by unfold fuel0; omega)
    · have h6 := hw.2.2.2.2.2
      rw [hd] at h6
      have h48 := hD.2.2.2.1
      obtain ⟨d, b1, b2, b3, b4, b5, b6⟩ := h6
      have k10 : sI w 11 0 0 (nI 0) 10 d = w 10 d := sI_nc (by decide)
      have p1 : (sI w 11 0 0 (nI 0) 11 0).2.2.1 3 = d + 1 := by rw [sI_2]; exact b1
      obtain ⟨w4, g, e1, e2, e3, e4, -⟩ := m_works (w := sI w 11 0 0 (nI 0)) (nd := nd) hD b2 p1 (by rw [k10]; exact b3) hW (by rw [sI_2]; exact b5)
      have e := m_led20 (x := x) (nd := nd) hD hW b2 (by rw [e4.2.1]; exact p1) (by rw [e4.1 10 d (by omega), k10]; exact b4.1) e3 (dnt D) 0 0 (Nat.zero_add _) (Nat.le_refl _) fuel0 (by unfold fuel0; omega)
      have t : SM w (mX w4 g) := (s1.tr e4).tr SM.x
      have u : fX11_led nd w x = fX11_led_20 nd fuel0 (mX w4 g) x (nI 0) (nI 0) := by
        unfold fX11_led
        simp (disch := omega) only [↓mo_1, ↓mo_2, ad_m1, ite_m1_lt, ite_m2_lt, ite_le_m1, ite_eq_m1, ite_eq_m2, ite_m1_m1, ite_m2_m2, ite_T, ite_F, ite_nz, ite_zz, ite_m1_le, ite_m1_eq, oi_none, oi_some, ob_some, lw_def, ck_true, ckp_su, ite_lt_t, ite_lt_f, ite_le_t, ite_le_f, ite_eq_t, ite_eq_f, ck_inb, nI_add, sb_nI, mu_nI, nI_clamp, sO_at, sO_sO, Nat.add_sub_cancel, Nat.zero_add, Nat.add_zero, li_0, li_1, li_2, li_3, li_4, li_5, li_6, li_7, li_8, li_9, li_10, li_11, li_12, li_16, li_20, li_24, li_31, li_32, li_48, li_49, li_73, li_74, li_75, li_97, li_98, li_99, li_100, li_101, li_109, li_110, li_255, li_680, li_700, li_9999, li_65536, li_65537, p1, e1]
      rw [u, e]
      cases y : ldS s x (dnt D) 0 0 with
      | some z =>
        refine ⟨mX w4 g, rfl, hw.sm t, t.fm, ?_⟩
        rw [f0_w2 _ _ _ _ _ e1, sI_i]
        rfl
      | none =>
        have t2 := t.tr s2
        exact ⟨_, rfl, hw.sm t2, t2.fm, sI_i⟩
end LED
