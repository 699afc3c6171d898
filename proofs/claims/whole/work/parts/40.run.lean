/-! ===== the run ===== -/
def bt' (S : Int32) (u : Nat) : Prop := ((S >>> (nI u &&& nI 31)) &&& nI 1) = nI 1
def fu (uk : Nat → Nat) (k : Nat) : Nat → Option Nat
  | 0 => none
  | n + 1 => match fu uk k n with
    | some u => some u
    | none => if uk n = k then some n else none
theorem fu_s {uk : Nat → Nat} {k u : Nat} : ∀ {n : Nat}, fu uk k n = some u → u < n ∧ uk u = k ∧ ∀ v, v < u → uk v ≠ k
  | 0, h => by cases h
  | n + 1, h => by
    unfold fu at h
    cases hq : fu uk k n with
    | some z =>
      rw [hq] at h
      cases h
      have := fu_s hq
      exact ⟨by omega, this.2⟩
    | none =>
      rw [hq] at h
      by_cases c : uk n = k
      · have h' : (if uk n = k then some n else none) = some u := h
        rw [if_pos c] at h'
        cases h'
        refine ⟨by omega, c, fun v hv e => ?_⟩
        have : ∀ {n : Nat}, fu uk k n = none → ∀ v, v < n → uk v ≠ k := by
          intro n
          induction n with
          | zero => intro _ v hv; exact absurd hv (Nat.not_lt_zero v)
          | succ n ih =>
            intro hn v hv
            unfold fu at hn
            cases hz : fu uk k n with
            | some z => rw [hz] at hn; cases hn
            | none =>
              rw [hz] at hn
              have hn' : (if uk n = k then some n else none) = none := hn
              by_cases c : uk n = k
              · rw [if_pos c] at hn'; cases hn'
              · by_cases e : v = n
                · rw [e]; exact c
                · exact ih hz v (by omega)
        exact this hq v hv e
      · have h' : (if uk n = k then some n else none) = some u := h
        rw [if_neg c] at h'
        cases h'
theorem fu_n {uk : Nat → Nat} {k : Nat} : ∀ {n : Nat}, (∀ v, v < n → uk v ≠ k) → fu uk k n = none
  | 0, _ => rfl
  | n + 1, h => by
    unfold fu
    rw [fu_n (fun v hv => h v (by omega))]
    show (if uk n = k then some n else none) = none
    rw [if_neg (h n (by omega))]
theorem fu_m {uk : Nat → Nat} {k u : Nat} (hu : uk u = k) (h : ∀ v, v < u → uk v ≠ k) : ∀ {n : Nat}, u < n → fu uk k n = some u
  | 0, hn => absurd hn (Nat.not_lt_zero u)
  | n + 1, hn => by
    unfold fu
    by_cases e : u = n
    · subst e
      rw [fu_n h]
      show (if uk u = k then some u else none) = some u
      rw [if_pos hu]
    · rw [fu_m hu h (n := n) (by omega)]
/-- what a write of the run is of, by a set of unsure ones -/
def wvT (T : Tk) (k : Nat) (S : Int32) : Int32 := match fu T.2.2.1.2.1 k T.2.2.1.1 with
  | some u => if ((S >>> (nI u &&& nI 31)) &&& nI 1) = nI 1 then T.2.2.1.2.2 u else T.2.1.2.2 k
  | none => T.2.1.2.2 k
def goS (D : Dk) (T : Tk) (S : Int32) : Nat → Sd
  | 0 => bgS T
  | k + 1 => adS D (goS D T S k) (T.2.1.2.1 k) (wvT T k S)
def clN (D : Dk) (T : Tk) (S : Int32) : Nat → Int32
  | 0 => nI 0
  | k + 1 => cl1 D (goS D T S k) (clN D T S k)
theorem go_wf {D : Dk} {T : Tk} {S : Int32} (hD : WFD D) (hW : WFT D T) : ∀ k, k ≤ T.2.1.1 → WFS D (goS D T S k) ∧ jn (goS D T S k) = 0 ∧ jf (goS D T S k) = false ∧ sdn (goS D T S k) = false
  | 0, _ => ⟨bg_wf hD, rfl, rfl, rfl⟩
  | k + 1, hk => by
    obtain ⟨h1, h2, h3, h4⟩ := go_wf (S := S) hD hW k (by omega)
    obtain ⟨c1, c2, c3, c4, -⟩ := ad_wf (x := wvT T k S) hD h1 h2 h3 (hW.2.1.2 k (by omega))
    exact ⟨c1, c2, c3, c4.trans h4⟩
section RUN
variable {w : Wd} {a q : Nat} {o : Ob} {D : Dk} {s : Sd} {T : Tk} {nd : Nat} {f : Nat → Int32} {S : Int32}
theorem x_vw (hT : RT w q T) (hW : WFT D T) {k : Nat} (hk : k < T.2.1.1) : ∀ r u, u + r = T.2.2.1.1 → ∀ m, r < m → (∀ v, v < u → T.2.2.1.2.1 v = k → ¬ ((S >>> (nI v &&& nI 31)) &&& nI 1) = nI 1) → fX8_valueWritten_2 q m w (nI k) S (nI u) = some (wvT T k S, w) := by
  have h16 := hW.2.1.1
  have h4 := hW.2.2.1.1
  have l1 := pl_1 (q := q) (k := 1) (by omega)
  have l2 := pl_2 (q := q) (k := 0) (by omega)
  have l3 := pl_2 (q := q) (k := 1) (by omega)
  intro r
  induction r with
  | zero =>
    intro u hu m hm hno
    obtain ⟨m, rfl⟩ : ∃ z, m = z + 1 := ⟨m - 1, by omega⟩
    have e : u = T.2.2.1.1 := by omega
    subst e
    rw [fX8_valueWritten_2.eq_2, hT.2.2.1.1]
    simp (disch := omega) only [↓mo_1, ↓mo_2, ad_m1, ite_m1_lt, ite_m2_lt, ite_le_m1, ite_eq_m1, ite_eq_m2, ite_m1_m1, ite_m2_m2, ite_T, ite_F, ite_nz, ite_zz, ite_m1_le, ite_m1_eq, oi_none, oi_some, ob_some, lw_def, ck_true, ckp_su, ite_lt_t, ite_lt_f, ite_le_t, ite_le_f, ite_eq_t, ite_eq_f, ck_inb, nI_add, sb_nI, mu_nI, nI_clamp, sO_at, sO_sO, Nat.add_sub_cancel, Nat.zero_add, Nat.add_zero, li_0, li_1, li_2, li_3, li_4, li_5, li_6, li_7, li_8, li_9, li_10, li_11, li_12, li_16, li_20, li_24, li_31, li_32, li_48, li_49, li_73, li_74, li_75, li_97, li_98, li_99, li_100, li_101, li_109, li_110, li_255, li_680, li_700, li_9999, li_65536, li_65537, x_ps hT.2.1 hk]
    unfold wvT
    cases hf : fu T.2.2.1.2.1 k T.2.2.1.1 with
    | none => rfl
    | some v =>
      have := fu_s hf
      show some (T.2.1.2.2 k, w) = some (if _ then _ else _, w)
      rw [if_neg (hno v this.1 this.2.1)]
  | succ r ih =>
    intro u hu m hm hno
    obtain ⟨m, rfl⟩ : ∃ z, m = z + 1 := ⟨m - 1, by omega⟩
    have hlt : T.2.2.1.2.1 u < 16 := Nat.lt_of_lt_of_le (hW.2.2.1.2.1 u (by omega)) h16
    rw [fX8_valueWritten_2.eq_2, hT.2.2.1.1]
    simp (disch := omega) only [↓mo_1, ↓mo_2, ad_m1, ite_m1_lt, ite_m2_lt, ite_le_m1, ite_eq_m1, ite_eq_m2, ite_m1_m1, ite_m2_m2, ite_T, ite_F, ite_nz, ite_zz, ite_m1_le, ite_m1_eq, oi_none, oi_some, ob_some, lw_def, ck_true, ckp_su, ite_lt_t, ite_lt_f, ite_le_t, ite_le_f, ite_eq_t, ite_eq_f, ck_inb, nI_add, sb_nI, mu_nI, nI_clamp, sO_at, sO_sO, Nat.add_sub_cancel, Nat.zero_add, Nat.add_zero, li_0, li_1, li_2, li_3, li_4, li_5, li_6, li_7, li_8, li_9, li_10, li_11, li_12, li_16, li_20, li_24, li_31, li_32, li_48, li_49, li_73, li_74, li_75, li_97, li_98, li_99, li_100, li_101, li_109, li_110, li_255, li_680, li_700, li_9999, li_65536, li_65537, x_pf hT.2.2.1, x_ps hT.2.2.1]
    by_cases c : ((S >>> (nI u &&& nI 31)) &&& nI 1) = nI 1
    · rw [if_pos c]
      by_cases c2 : T.2.2.1.2.1 u = k
      · rw [if_pos (by rw [c2])]
        unfold wvT
        rw [fu_m c2 (fun v hv e => hW.2.2.1.2.2 v u hv (by omega) (e.trans c2.symm)) (by omega)]
        show _ = some (if _ then _ else _, w)
        rw [if_pos c]
      · rw [if_neg (fun z => c2 ((nI_eq (by omega) (by omega)).mp z))]
        exact ih (u + 1) (by omega) m (by omega) (fun v hv e => by
          by_cases z : v = u
          · rw [z] at e; exact absurd e c2
          · exact hno v (by omega) e)
    · rw [if_neg c]
      exact ih (u + 1) (by omega) m (by omega) (fun v hv e => by
          by_cases z : v = u
          · rw [z]; exact c
          · exact hno v (by omega) e)
theorem x_valueWritten (hT : RT w q T) (hW : WFT D T) {k : Nat} (hk : k < T.2.1.1) : fX8_valueWritten q w (nI k) S = some (wvT T k S, w) := by
  have h4 := hW.2.2.1.1
  exact x_vw hT hW hk T.2.2.1.1 0 (by omega) fuel0 (by unfold fuel0; omega) (fun v hv => absurd hv (Nat.not_lt_zero v))
theorem RT_s {j : Nat} (h : RT w q T) : RT (sO w 7 j o) q T := by
  unfold RT
  rw [sO_nc (by decide), sO_nc (by decide), sO_nc (by decide), sO_nc (by decide)]
  exact h
theorem x_ro (hD : WFD D) (hS : RSh (w 5 a) D) (hT : RT w q T) (hW : WFT D T) (hq : q < 2) (hp : (w 9 0).2.2.1 2 = q + 1) : ∀ r k, k + r = T.2.1.1 → ∀ (m : Nat) (o : Ob), r < m → RX o (goS D T S k) → o.1 10 = clN D T S k → ∃ o2 : Ob, fX9_runOn_16 a m (sO w 7 1 o) S (nI k) = some ((), sO w 7 1 o2) ∧ RX o2 (goS D T S T.2.1.1) ∧ o2.1 10 = clN D T S T.2.1.1 := by
  have h16 := hW.2.1.1
  have l1 := pl_1 (q := q) (k := 0) (by omega)
  intro r
  induction r with
  | zero =>
    intro k hk m o hm hR hc
    obtain ⟨m, rfl⟩ : ∃ z, m = z + 1 := ⟨m - 1, by omega⟩
    have e : k = T.2.1.1 := by omega
    subst e
    refine ⟨o, ?_, hR, hc⟩
    rw [fX9_runOn_16.eq_2, sO_nc (by decide), hp, ckp_su hq, (RT_s (o := o) (j := 1) hT).2.1.1]
    simp (disch := omega) only [↓mo_1, ↓mo_2, ad_m1, ite_m1_lt, ite_m2_lt, ite_le_m1, ite_eq_m1, ite_eq_m2, ite_m1_m1, ite_m2_m2, ite_T, ite_F, ite_nz, ite_zz, ite_m1_le, ite_m1_eq, oi_none, oi_some, ob_some, lw_def, ck_true, ckp_su, ite_lt_t, ite_lt_f, ite_le_t, ite_le_f, ite_eq_t, ite_eq_f, ck_inb, nI_add, sb_nI, mu_nI, nI_clamp, sO_at, sO_sO, Nat.add_sub_cancel, Nat.zero_add, Nat.add_zero, li_0, li_1, li_2, li_3, li_4, li_5, li_6, li_7, li_8, li_9, li_10, li_11, li_12, li_16, li_20, li_24, li_31, li_32, li_48, li_49, li_73, li_74, li_75, li_97, li_98, li_99, li_100, li_101, li_109, li_110, li_255, li_680, li_700, li_9999, li_65536, li_65537]
  | succ r ih =>
    intro k hk m o hm hR hc
    obtain ⟨m, rfl⟩ : ∃ z, m = z + 1 := ⟨m - 1, by omega⟩
    obtain ⟨g1, g2, g3, -⟩ := go_wf (S := S) hD hW k (by omega)
    have hT2 := RT_s (o := o) (j := 1) hT
    obtain ⟨o3, e1, e2, e3⟩ := x_addEntry (w := w) (j := 1) hD hS g1 hR g2 g3 (t := T.2.1.2.1 k) (x := wvT T k S)
    obtain ⟨o2, e4, e5⟩ := ih (k + 1) (by omega) m o3 (by omega) e2 (by rw [e3, hc]; rfl)
    refine ⟨o2, ?_, e5⟩
    have hp2 : (sO w 7 1 o 9 0).2.2.1 2 = q + 1 := by rw [sO_nc (by decide)]; exact hp
    rw [fX9_runOn_16.eq_2, hp2, ckp_su hq, hT2.2.1.1, ckp_su hq]
    simp (disch := omega) only [↓mo_1, ↓mo_2, ad_m1, ite_m1_lt, ite_m2_lt, ite_le_m1, ite_eq_m1, ite_eq_m2, ite_m1_m1, ite_m2_m2, ite_T, ite_F, ite_nz, ite_zz, ite_m1_le, ite_m1_eq, oi_none, oi_some, ob_some, lw_def, ck_true, ckp_su, ite_lt_t, ite_lt_f, ite_le_t, ite_le_f, ite_eq_t, ite_eq_f, ck_inb, nI_add, sb_nI, mu_nI, nI_clamp, sO_at, sO_sO, Nat.add_sub_cancel, Nat.zero_add, Nat.add_zero, li_0, li_1, li_2, li_3, li_4, li_5, li_6, li_7, li_8, li_9, li_10, li_11, li_12, li_16, li_20, li_24, li_31, li_32, li_48, li_49, li_73, li_74, li_75, li_97, li_98, li_99, li_100, li_101, li_109, li_110, li_255, li_680, li_700, li_9999, li_65536, li_65537, x_pf hT2.2.1, hp2, x_valueWritten hT2 hW, e1]
    exact e4
theorem x_runOn (hD : WFD D) (hS : RSh (w 5 a) D) (hT : RT w q T) (hW : WFT D T) (hq : q < 2) (hp : (w 9 0).2.2.1 2 = q + 1) : ∃ o2 : Ob, fX9_runOn a w S = some ((), sO w 7 1 o2) ∧ RX o2 (goS D T S T.2.1.1) ∧ o2.1 10 = clN D T S T.2.1.1 := by
  have h16 := hW.2.1.1
  obtain ⟨o3, e1, e2, e3⟩ := x_begin (w := w) (j := 1) (o := w 7 1) hT.1 hW hD
  rw [sO_id] at e1
  obtain ⟨o2, e4, e5⟩ := x_ro (S := S) hD hS hT hW hq hp T.2.1.1 0 (by omega) fuel0 o3 (by unfold fuel0; omega) e2 e3
  refine ⟨o2, ?_, e5⟩
  unfold fX9_runOn
  rw [hp, ckp_su hq, e1, ob_some]
  exact e4
theorem m_at (hD : WFD D) {d : Nat} (hd : d < nd) (hp : (w 11 0).2.2.1 3 = d + 1) (hT : RTm (w 10 d) D T) : ∀ k i, i + k = 110 → ∀ (m : Nat) (f : Nat → Int32), k < m → (∀ t, t < i → f t = if t < dnt D then hdF T.1 T.1.1 t else nI 0) → ∃ g : Nat → Int32, fX11_asTold_2 nd m (mX w f) (nI i) = ob (fX11_bandsAsTold nd (mX w g)) (fun _ w3 => some ((), w3)) ∧ ∀ t, t < 110 → g t = if t < dnt D then hdF T.1 T.1.1 t else nI 0 := by
  have h48 := hD.2.2.2.1
  intro k
  induction k with
  | zero =>
    intro i hi m f hm hr
    obtain ⟨m, rfl⟩ : ∃ z, m = z + 1 := ⟨m - 1, by omega⟩
    refine ⟨f, ?_, fun t ht => hr t (by omega)⟩
    rw [fX11_asTold_2.eq_2]
    simp (disch := omega) only [↓mo_1, ↓mo_2, ad_m1, ite_m1_lt, ite_m2_lt, ite_le_m1, ite_eq_m1, ite_eq_m2, ite_m1_m1, ite_m2_m2, ite_T, ite_F, ite_nz, ite_zz, ite_m1_le, ite_m1_eq, oi_none, oi_some, ob_some, lw_def, ck_true, ckp_su, ite_lt_t, ite_lt_f, ite_le_t, ite_le_f, ite_eq_t, ite_eq_f, ck_inb, nI_add, sb_nI, mu_nI, nI_clamp, sO_at, sO_sO, Nat.add_sub_cancel, Nat.zero_add, Nat.add_zero, li_0, li_1, li_2, li_3, li_4, li_5, li_6, li_7, li_8, li_9, li_10, li_11, li_12, li_16, li_20, li_24, li_31, li_32, li_48, li_49, li_73, li_74, li_75, li_97, li_98, li_99, li_100, li_101, li_109, li_110, li_255, li_680, li_700, li_9999, li_65536, li_65537]
  | succ k ih =>
    intro i hi m f hm hr
    obtain ⟨m, rfl⟩ : ∃ z, m = z + 1 := ⟨m - 1, by omega⟩
    obtain ⟨g, e1, e2⟩ := ih (i + 1) (by omega) m (upd f i (if i < dnt D then hdF T.1 T.1.1 i else nI 0)) (by omega) (fun t ht => by
      by_cases z : t = i
      · rw [z, upd_at]
      · rw [upd_ne z]; exact hr t (by omega))
    refine ⟨g, ?_, e2⟩
    rw [fX11_asTold_2.eq_2]
    by_cases c : i < dnt D
    · rw [if_pos c] at e1
      simp (disch := first | omega | decide) only [↓mo_1, ↓mo_2, ad_m1, ite_m1_lt, ite_m2_lt, ite_le_m1, ite_eq_m1, ite_eq_m2, ite_m1_m1, ite_m2_m2, ite_T, ite_F, ite_nz, ite_zz, ite_m1_le, ite_m1_eq, oi_none, oi_some, ob_some, lw_def, ck_true, ckp_su, ite_lt_t, ite_lt_f, ite_le_t, ite_le_f, ite_eq_t, ite_eq_f, ck_inb, nI_add, sb_nI, mu_nI, nI_clamp, sO_at, sO_sO, Nat.add_sub_cancel, Nat.zero_add, Nat.add_zero, li_0, li_1, li_2, li_3, li_4, li_5, li_6, li_7, li_8, li_9, li_10, li_11, li_12, li_16, li_20, li_24, li_31, li_32, li_48, li_49, li_73, li_74, li_75, li_97, li_98, li_99, li_100, li_101, li_109, li_110, li_255, li_680, li_700, li_9999, li_65536, li_65537, mX_p, hp, mX_10, hT.1, hT.2.1 i (by omega), mX_s]
      exact e1
    · rw [if_neg c] at e1
      simp (disch := first | omega | decide) only [↓mo_1, ↓mo_2, ad_m1, ite_m1_lt, ite_m2_lt, ite_le_m1, ite_eq_m1, ite_eq_m2, ite_m1_m1, ite_m2_m2, ite_T, ite_F, ite_nz, ite_zz, ite_m1_le, ite_m1_eq, oi_none, oi_some, ob_some, lw_def, ck_true, ckp_su, ite_lt_t, ite_lt_f, ite_le_t, ite_le_f, ite_eq_t, ite_eq_f, ck_inb, nI_add, sb_nI, mu_nI, nI_clamp, sO_at, sO_sO, Nat.add_sub_cancel, Nat.zero_add, Nat.add_zero, li_0, li_1, li_2, li_3, li_4, li_5, li_6, li_7, li_8, li_9, li_10, li_11, li_12, li_16, li_20, li_24, li_31, li_32, li_48, li_49, li_73, li_74, li_75, li_97, li_98, li_99, li_100, li_101, li_109, li_110, li_255, li_680, li_700, li_9999, li_65536, li_65537, mX_p, hp, mX_10, hT.1, mX_s]
      exact e1
/-- asTold() -/
theorem m_asTold (hD : WFD D) {d : Nat} (hd : d < nd) (hp : (w 11 0).2.2.1 3 = d + 1) (hR : RDm (w 10 d) D) (hT : RTm (w 10 d) D T) (hW : WFT D T) : ∃ (w2 : Wd) (g : Nat → Int32), fX11_asTold nd w = some ((), mX w2 g) ∧ RMs nd w2 D ∧ RM g (bgS T) ∧ SM w w2 ∧ (w2 11 0).1 25 = nI 0 := by
  have h48 := hD.2.2.2.1
  obtain ⟨g, e1, e2⟩ := m_at (nd := nd) (w := w) hD hd hp hT 110 0 (by omega) fuel0 ((w 11 0).2.1 16) (by unfold fuel0; omega) (fun t ht => absurd ht (Nat.not_lt_zero t))
  obtain ⟨w2, e3, e4, e5, e6⟩ := m_bandsAsTold (f := g) hD hd hp hR
  have hz : ∀ t, 48 ≤ t → t < 110 → g t = nI 0 := fun t h1 h2 => by rw [e2 t h2, if_neg (by omega)]
  refine ⟨w2, g, ?_, e4, ?_, e5, e6⟩
  · unfold fX11_asTold
    rw [mX_self] at e1
    rw [li_0, e1, e3]
    rfl
  · refine ⟨fun t ht => ?_, hz 48 (by omega) (by omega), fun p hp => absurd hp (Nat.not_lt_zero p), fun p hp => absurd hp (Nat.not_lt_zero p), hz 99 (by omega) (by omega), fun h => absurd h (Nat.lt_irrefl 0), hz 100 (by omega) (by omega), fun p hp => absurd hp (Nat.not_lt_zero p), hz 97 (by omega) (by omega), hz 109 (by omega) (by omega)⟩
    rw [e2 t (by omega)]
    by_cases c : t < dnt D
    · rw [if_pos c]; rfl
    · rw [if_neg c]
      exact (hdF_out hW.1.2 (by omega) T.1.1 (Nat.le_refl _)).symm
theorem m_bit_t {u : Nat} (c : ((S >>> (nI u &&& nI 31)) &&& nI 1) = nI 1) : fX11_bit nd w S (nI u) = some (nI 1, w) := by
  unfold fX11_bit
  exact if_pos c
theorem m_bit_f {u : Nat} (c : ¬ ((S >>> (nI u &&& nI 31)) &&& nI 1) = nI 1) : fX11_bit nd w S (nI u) = some (nI 0, w) := by
  unfold fX11_bit
  exact if_neg c
theorem m_wo (hW : WFT D T) {d : Nat} (hd : d < nd) (hp : (w 11 0).2.2.1 3 = d + 1) (hT : RTm (w 10 d) D T) {k : Nat} (hk : k < T.2.1.1) : ∀ r u, u + r = T.2.2.1.1 → ∀ m, r < m → (∀ v, v < u → T.2.2.1.2.1 v ≠ k) → fX11_whatOf_2 nd m (mX w f) (nI k) S (nI u) = some (wvT T k S, mX w f) := by
  have h16 := hW.2.1.1
  have h4 := hW.2.2.1.1
  intro r
  induction r with
  | zero =>
    intro u hu m hm hno
    obtain ⟨m, rfl⟩ : ∃ z, m = z + 1 := ⟨m - 1, by omega⟩
    have e : u = T.2.2.1.1 := by omega
    subst e
    rw [fX11_whatOf_2.eq_2]
    simp (disch := omega) only [↓mo_1, ↓mo_2, ad_m1, ite_m1_lt, ite_m2_lt, ite_le_m1, ite_eq_m1, ite_eq_m2, ite_m1_m1, ite_m2_m2, ite_T, ite_F, ite_nz, ite_zz, ite_m1_le, ite_m1_eq, oi_none, oi_some, ob_some, lw_def, ck_true, ckp_su, ite_lt_t, ite_lt_f, ite_le_t, ite_le_f, ite_eq_t, ite_eq_f, ck_inb, nI_add, sb_nI, mu_nI, nI_clamp, sO_at, sO_sO, Nat.add_sub_cancel, Nat.zero_add, Nat.add_zero, li_0, li_1, li_2, li_3, li_4, li_5, li_6, li_7, li_8, li_9, li_10, li_11, li_12, li_16, li_20, li_24, li_31, li_32, li_48, li_49, li_73, li_74, li_75, li_97, li_98, li_99, li_100, li_101, li_109, li_110, li_255, li_680, li_700, li_9999, li_65536, li_65537, mX_p, hp, mX_10, hT.2.2.2.1.1, hT.2.2.1.2.2 k hk]
    unfold wvT
    rw [fu_n hno]
  | succ r ih =>
    intro u hu m hm hno
    obtain ⟨m, rfl⟩ : ∃ z, m = z + 1 := ⟨m - 1, by omega⟩
    have hlt : T.2.2.1.2.1 u < 16 := Nat.lt_of_lt_of_le (hW.2.2.1.2.1 u (by omega)) h16
    rw [fX11_whatOf_2.eq_2]
    simp (disch := omega) only [↓mo_1, ↓mo_2, ad_m1, ite_m1_lt, ite_m2_lt, ite_le_m1, ite_eq_m1, ite_eq_m2, ite_m1_m1, ite_m2_m2, ite_T, ite_F, ite_nz, ite_zz, ite_m1_le, ite_m1_eq, oi_none, oi_some, ob_some, lw_def, ck_true, ckp_su, ite_lt_t, ite_lt_f, ite_le_t, ite_le_f, ite_eq_t, ite_eq_f, ck_inb, nI_add, sb_nI, mu_nI, nI_clamp, sO_at, sO_sO, Nat.add_sub_cancel, Nat.zero_add, Nat.add_zero, li_0, li_1, li_2, li_3, li_4, li_5, li_6, li_7, li_8, li_9, li_10, li_11, li_12, li_16, li_20, li_24, li_31, li_32, li_48, li_49, li_73, li_74, li_75, li_97, li_98, li_99, li_100, li_101, li_109, li_110, li_255, li_680, li_700, li_9999, li_65536, li_65537, mX_p, hp, mX_10, hT.2.2.2.1.1, hT.2.2.2.1.2.1 u (by omega)]
    by_cases c2 : T.2.2.1.2.1 u = k
    · rw [if_pos (by rw [c2])]
      unfold wvT
      rw [fu_m c2 hno (by omega)]
      by_cases c : ((S >>> (nI u &&& nI 31)) &&& nI 1) = nI 1
      · simp (disch := omega) only [↓mo_1, ↓mo_2, ad_m1, ite_m1_lt, ite_m2_lt, ite_le_m1, ite_eq_m1, ite_eq_m2, ite_m1_m1, ite_m2_m2, ite_T, ite_F, ite_nz, ite_zz, ite_m1_le, ite_m1_eq, oi_none, oi_some, ob_some, lw_def, ck_true, ckp_su, ite_lt_t, ite_lt_f, ite_le_t, ite_le_f, ite_eq_t, ite_eq_f, ck_inb, nI_add, sb_nI, mu_nI, nI_clamp, sO_at, sO_sO, Nat.add_sub_cancel, Nat.zero_add, Nat.add_zero, li_0, li_1, li_2, li_3, li_4, li_5, li_6, li_7, li_8, li_9, li_10, li_11, li_12, li_16, li_20, li_24, li_31, li_32, li_48, li_49, li_73, li_74, li_75, li_97, li_98, li_99, li_100, li_101, li_109, li_110, li_255, li_680, li_700, li_9999, li_65536, li_65537, m_bit_t c, mX_p, hp, mX_10, hT.2.2.2.1.2.2 u (by omega)]
        rw [if_pos c]
      · simp (disch := omega) only [↓mo_1, ↓mo_2, ad_m1, ite_m1_lt, ite_m2_lt, ite_le_m1, ite_eq_m1, ite_eq_m2, ite_m1_m1, ite_m2_m2, ite_T, ite_F, ite_nz, ite_zz, ite_m1_le, ite_m1_eq, oi_none, oi_some, ob_some, lw_def, ck_true, ckp_su, ite_lt_t, ite_lt_f, ite_le_t, ite_le_f, ite_eq_t, ite_eq_f, ck_inb, nI_add, sb_nI, mu_nI, nI_clamp, sO_at, sO_sO, Nat.add_sub_cancel, Nat.zero_add, Nat.add_zero, li_0, li_1, li_2, li_3, li_4, li_5, li_6, li_7, li_8, li_9, li_10, li_11, li_12, li_16, li_20, li_24, li_31, li_32, li_48, li_49, li_73, li_74, li_75, li_97, li_98, li_99, li_100, li_101, li_109, li_110, li_255, li_680, li_700, li_9999, li_65536, li_65537, m_bit_f c, mX_p, hp, mX_10, hT.2.2.1.2.2 k hk]
        rw [if_neg c]
    · rw [if_neg (fun z => c2 ((nI_eq (by omega) (by omega)).mp z))]
      exact ih (u + 1) (by omega) m (by omega) (fun v hv => by
          by_cases z : v = u
          · rw [z]; exact c2
          · exact hno v (by omega))
theorem m_whatOf (hW : WFT D T) {d : Nat} (hd : d < nd) (hp : (w 11 0).2.2.1 3 = d + 1) (hT : RTm (w 10 d) D T) {k : Nat} (hk : k < T.2.1.1) : fX11_whatOf nd (mX w f) (nI k) S = some (wvT T k S, mX w f) := by
  have h4 := hW.2.2.1.1
  exact m_wo hW hd hp hT hk T.2.2.1.1 0 (by omega) fuel0 (by unfold fuel0; omega) (fun v hv => absurd hv (Nat.not_lt_zero v))
theorem m_go (hD : WFD D) (hW : WFT D T) {d : Nat} (hd : d < nd) : ∀ r k, k + r = T.2.1.1 → ∀ (m : Nat) (w : Wd) (f : Nat → Int32), r < m → RMs nd w D → (w 11 0).2.2.1 3 = d + 1 → RTm (w 10 d) D T → RM f (goS D T S k) → (w 11 0).1 25 = clN D T S k → ∃ g : Nat → Int32, fX11_goes_2 nd m (mX w f) S (nI k) = some ((), mX (mC w (clN D T S T.2.1.1)) g) ∧ RM g (goS D T S T.2.1.1) := by
  have h16 := hW.2.1.1
  intro r
  induction r with
  | zero =>
    intro k hk m w f hm hS hp hT hR hc
    obtain ⟨m, rfl⟩ : ∃ z, m = z + 1 := ⟨m - 1, by omega⟩
    have e : k = T.2.1.1 := by omega
    subst e
    refine ⟨f, ?_, hR⟩
    rw [← hc, mC_id, fX11_goes_2.eq_2]
    simp (disch := omega) only [↓mo_1, ↓mo_2, ad_m1, ite_m1_lt, ite_m2_lt, ite_le_m1, ite_eq_m1, ite_eq_m2, ite_m1_m1, ite_m2_m2, ite_T, ite_F, ite_nz, ite_zz, ite_m1_le, ite_m1_eq, oi_none, oi_some, ob_some, lw_def, ck_true, ckp_su, ite_lt_t, ite_lt_f, ite_le_t, ite_le_f, ite_eq_t, ite_eq_f, ck_inb, nI_add, sb_nI, mu_nI, nI_clamp, sO_at, sO_sO, Nat.add_sub_cancel, Nat.zero_add, Nat.add_zero, li_0, li_1, li_2, li_3, li_4, li_5, li_6, li_7, li_8, li_9, li_10, li_11, li_12, li_16, li_20, li_24, li_31, li_32, li_48, li_49, li_73, li_74, li_75, li_97, li_98, li_99, li_100, li_101, li_109, li_110, li_255, li_680, li_700, li_9999, li_65536, li_65537, mX_p, hp, mX_10, hT.2.2.1.1]
  | succ r ih =>
    intro k hk m w f hm hS hp hT hR hc
    obtain ⟨m, rfl⟩ : ∃ z, m = z + 1 := ⟨m - 1, by omega⟩
    obtain ⟨g1, g2, g3, -⟩ := go_wf (S := S) hD hW k (by omega)
    obtain ⟨g, e1, e2⟩ := m_writes hD hS g1 hR g2 g3 (t := T.2.1.2.1 k) (x := wvT T k S)
    obtain ⟨g5, e4, e5⟩ := ih (k + 1) (by omega) m (mC w (cl1 D (goS D T S k) ((w 11 0).1 25))) g (by omega) (mC_R hS) (by rw [mC_2]; exact hp) (by rw [mC_10]; exact hT) e2 (by rw [mC_a, hc]; rfl)
    rw [mC_mC] at e4
    refine ⟨g5, ?_, e5⟩
    rw [fX11_goes_2.eq_2]
    simp (disch := omega) only [↓mo_1, ↓mo_2, ad_m1, ite_m1_lt, ite_m2_lt, ite_le_m1, ite_eq_m1, ite_eq_m2, ite_m1_m1, ite_m2_m2, ite_T, ite_F, ite_nz, ite_zz, ite_m1_le, ite_m1_eq, oi_none, oi_some, ob_some, lw_def, ck_true, ckp_su, ite_lt_t, ite_lt_f, ite_le_t, ite_le_f, ite_eq_t, ite_eq_f, ck_inb, nI_add, sb_nI, mu_nI, nI_clamp, sO_at, sO_sO, Nat.add_sub_cancel, Nat.zero_add, Nat.add_zero, li_0, li_1, li_2, li_3, li_4, li_5, li_6, li_7, li_8, li_9, li_10, li_11, li_12, li_16, li_20, li_24, li_31, li_32, li_48, li_49, li_73, li_74, li_75, li_97, li_98, li_99, li_100, li_101, li_109, li_110, li_255, li_680, li_700, li_9999, li_65536, li_65537, mX_p, hp, mX_10, hT.2.2.1.1, hT.2.2.1.2.1 k (by omega), m_whatOf hW hd hp hT, e1]
    exact e4
/-- goes(), behind asTold() -/
theorem m_goes (hD : WFD D) (hS : RMs nd w D) (hW : WFT D T) {d : Nat} (hd : d < nd) (hp : (w 11 0).2.2.1 3 = d + 1) (hT : RTm (w 10 d) D T) (hR : RM f (bgS T)) (hc : (w 11 0).1 25 = nI 0) : ∃ g : Nat → Int32, fX11_goes nd (mX w f) S = some ((), mX (mC w (clN D T S T.2.1.1)) g) ∧ RM g (goS D T S T.2.1.1) := by
  have h16 := hW.2.1.1
  exact m_go hD hW hd T.2.1.1 0 (by omega) fuel0 w f (by unfold fuel0; omega) hS hp hT hR hc
end RUN
