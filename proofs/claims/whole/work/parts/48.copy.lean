/-! ===== copies of a state ===== -/
theorem cpy_in {α : Type} {f g : Nat → α} {n k : Nat} (h : k < n) : va_cpy f g 0 0 n k = f k := by
  unfold va_cpy
  rw [if_pos (by omega)]
  congr 1
  omega
theorem isb_b2i {b : Bool} : isb (b2i b) = true := by cases b <;> rfl
section COPY
variable {w : Wd} {a b : Nat} {o : Ob} {D : Dk} {s : Sd}
theorem x_copy (hD : WFD D) (hW : WFS D s) (hne : b ≠ a) (hR : RX (w 7 b) s) : ∃ o2 : Ob, fX7_copyFrom a b (sO w 7 a o) = some ((), sO w 7 a o2) ∧ RX o2 s ∧ o2.1 10 = (w 7 b).1 10 := by
  have hn := hW.n24 hD
  have hj := hW.j8 hD
  refine ⟨oI (oI (oI (oI (oI (oI (oI (oR (oR (oR (oR o 0 (va_cpy ((w 7 b).2.1 0) (o.2.1 0) 0 0 48)) 1 (va_cpy ((w 7 b).2.1 1) (o.2.1 1) 0 0 24)) 2 (va_cpy ((w 7 b).2.1 2) (o.2.1 2) 0 0 24)) 3 (va_cpy ((w 7 b).2.1 3) (o.2.1 3) 0 0 8)) 4 ((w 7 b).1 4)) 5 ((w 7 b).1 5)) 6 ((w 7 b).1 6)) 7 ((w 7 b).1 7)) 8 ((w 7 b).1 8)) 9 ((w 7 b).1 9)) 10 ((w 7 b).1 10), ?_, ?_, oI_a⟩
  · have e7 : isb ((w 7 b).1 7) = true := by rw [hR.2.2.2.2.2.2.1]; exact isb_b2i
    have e8 : isb ((w 7 b).1 8) = true := by rw [hR.2.2.2.2.2.2.2.2.1]; exact isb_b2i
    have q1 : ∀ f, (oR o 0 f).2.1 1 = o.2.1 1 := fun f => oR_n (by decide)
    have q2 : ∀ f g, (oR (oR o 0 f) 1 g).2.1 2 = o.2.1 2 := fun f g => by rw [oR_n (by decide), oR_n (by decide)]
    have q3 : ∀ f g h, (oR (oR (oR o 0 f) 1 g) 2 h).2.1 3 = o.2.1 3 := fun f g h => by rw [oR_n (by decide), oR_n (by decide), oR_n (by decide)]
    unfold fX7_copyFrom
    simp only [lw_def, sR_s, sI_s, sO_at, sO_nj hne, e7, e8, ck_true, q1, q2, q3]
  · refine ⟨fun t ht => ?_, ?_, fun i hi => ?_, fun i hi => ?_, ?_, fun h => ?_, ?_, fun i hi => ?_, ?_, ?_⟩
    · simp (disch := decide) only [oI_s, oR_n, oR_a]
      rw [cpy_in ht]; exact hR.1 t ht
    · simp (disch := decide) only [oI_n, oI_a]; exact hR.2.1
    · simp (disch := decide) only [oI_s, oR_n, oR_a]
      rw [cpy_in (by omega)]; exact hR.2.2.1 i hi
    · simp (disch := decide) only [oI_s, oR_n, oR_a]
      rw [cpy_in (by omega)]; exact hR.2.2.2.1 i hi
    · simp (disch := decide) only [oI_n, oI_a]; exact hR.2.2.2.2.1
    · simp (disch := decide) only [oI_n, oI_a]; exact hR.2.2.2.2.2.1 h
    · simp (disch := decide) only [oI_n, oI_a]; exact hR.2.2.2.2.2.2.1
    · simp (disch := decide) only [oI_s, oR_n, oR_a]
      rw [cpy_in (by omega)]; exact hR.2.2.2.2.2.2.2.1 i hi
    · simp (disch := decide) only [oI_n, oI_a]; exact hR.2.2.2.2.2.2.2.2.1
    · simp (disch := decide) only [oI_n, oI_a]; exact hR.2.2.2.2.2.2.2.2.2
theorem x_copyFrom (hD : WFD D) (hW : WFS D s) (hne : b ≠ a) (hR : RX (w 7 b) s) : ∃ o2 : Ob, fX7_copyFrom a b w = some ((), sO w 7 a o2) ∧ RX o2 s ∧ o2.1 10 = (w 7 b).1 10 := by
  obtain ⟨o2, e1, e2⟩ := x_copy (w := w) (o := w 7 a) hD hW hne hR
  rw [sO_id] at e1
  exact ⟨o2, e1, e2⟩
end COPY
/-! ===== bands cleaned one after the other ===== -/
def ctI (D : Dk) (s : Sd) : Nat → Sd
  | 0 => s
  | k + 1 => match nbS D (ctI D s k) with
    | some b => drS D (ctI D s k) b
    | none => ctI D s k
theorem ct_s {D : Dk} {s : Sd} {k b : Nat} (h : nbS D (ctI D s k) = some b) : ctI D s (k + 1) = drS D (ctI D s k) b := by
  show (match nbS D (ctI D s k) with | some b => drS D (ctI D s k) b | none => ctI D s k) = _
  rw [h]
theorem ct_n {D : Dk} {s : Sd} {k : Nat} (h : nbS D (ctI D s k) = none) : ctI D s (k + 1) = ctI D s k := by
  show (match nbS D (ctI D s k) with | some b => drS D (ctI D s k) b | none => ctI D s k) = _
  rw [h]
theorem ct_nn {D : Dk} {s : Sd} {k : Nat} (h : nbS D (ctI D s k) = none) : ∀ r, ctI D s (k + r) = ctI D s k
  | 0 => rfl
  | r + 1 => by
    have := ct_nn h r
    rw [show k + (r + 1) = k + r + 1 by omega, ct_n (by rw [this]; exact h), this]
theorem ct_wf {D : Dk} {s : Sd} (hW : WFS D s) : ∀ k, WFS D (ctI D s k)
  | 0 => hW
  | k + 1 => by
    cases h : nbS D (ctI D s k) with
    | some b => rw [ct_s h]; exact dr_wf (ct_wf hW k)
    | none => rw [ct_n h]; exact ct_wf hW k
theorem flt_cq {kp : Nat → Bool} {e : Nat → Nat} {v : Nat → Int32} {q : Nat → Bool} : ∀ n, ctp (fun i => q ((flt kp e v n).2.1 i)) (flt kp e v n).1 = ctp (fun i => kp i && q (e i)) n
  | 0 => rfl
  | n + 1 => by
    have ih := flt_cq (kp := kp) (e := e) (v := v) (q := q) n
    by_cases c : kp n = true
    · rw [flt_t c]
      show ctp (fun i => q (va_up (flt kp e v n).2.1 (flt kp e v n).1 (e n) i)) ((flt kp e v n).1 + 1) = _
      have e1 : ctp (fun i => q (va_up (flt kp e v n).2.1 (flt kp e v n).1 (e n) i)) (flt kp e v n).1 = ctp (fun i => q ((flt kp e v n).2.1 i)) (flt kp e v n).1 := ctp_congr (fun i hi => by rw [va_up_ne _ _ (by omega)])
      by_cases d : q (e n) = true
      · rw [ctp_t (by rw [va_up_self]; exact d), ctp_t (by rw [c, d]; rfl), e1, ih]
      · rw [ctp_f (by rw [va_up_self]; exact d), ctp_f (by rw [c]; exact d), e1, ih]
    · rw [flt_f c, ctp_f (fun z => by simp only [Bool.and_eq_true] at z; exact c z.1)]
      exact ih
theorem ctp_imp {p p2 : Nat → Bool} : ∀ {n : Nat}, (∀ i, i < n → p i = true → p2 i = true) → ctp p n ≤ ctp p2 n
  | 0, _ => Nat.le_refl _
  | n + 1, h => by
    have ih := ctp_imp (p := p) (p2 := p2) (n := n) (fun i hi => h i (by omega))
    by_cases c : p n = true
    · rw [ctp_t c, ctp_t (h n (by omega) c)]; omega
    · rw [ctp_f c]
      by_cases d : p2 n = true
      · rw [ctp_t d]; omega
      · rw [ctp_f d]; exact ih
theorem ctp_lt {p p2 : Nat → Bool} {b : Nat} (h1 : p2 b = true) (h2 : ¬ p b = true) : ∀ {n : Nat}, b < n → (∀ i, i < n → p i = true → p2 i = true) → ctp p n < ctp p2 n
  | 0, hb, _ => absurd hb (Nat.not_lt_zero b)
  | n + 1, hb, h => by
    by_cases e : b = n
    · subst e
      have ih := ctp_imp (p := p) (p2 := p2) (n := b) (fun i hi => h i (by omega))
      rw [ctp_f h2, ctp_t h1]; omega
    · have ih := ctp_lt h1 h2 (n := n) (by omega) (fun i hi => h i (by omega))
      by_cases c : p n = true
      · rw [ctp_t c, ctp_t (h n (by omega) c)]; omega
      · rw [ctp_f c]
        by_cases d : p2 n = true
        · rw [ctp_t d]; omega
        · rw [ctp_f d]; exact ih
def nzB (D : Dk) (s : Sd) : Nat := ctp (fun b => decide (0 < cB D s b)) D.1
theorem dr_cB {D : Dk} {s : Sd} {b c : Nat} : cB D (drS D s b) c = ctp (fun i => kpB D s b i && pB D s c i) (sn s) :=
  flt_cq (q := fun t => decide (bo D t = c)) (sn s)
theorem dr_0 {D : Dk} {s : Sd} {b : Nat} : cB D (drS D s b) b = 0 := by
  rw [dr_cB]
  have : ctp (fun i => kpB D s b i && pB D s b i) (sn s) ≤ ctp (fun _ => false) (sn s) := ctp_imp (fun i _ h => by
    unfold kpB pB at h
    cases hd : decide (bo D (se s i) = b) with
    | true => rw [hd] at h; cases h
    | false => rw [hd] at h; cases h)
  have z : ∀ n, ctp (fun _ => false) n = 0 := fun n => by
    induction n with
    | zero => rfl
    | succ n ih => rw [ctp_f (by simp), ih]
  rw [z] at this
  omega
theorem dr_nz {D : Dk} {s : Sd} {b : Nat} (hD : WFD D) (hW : WFS D s) (h : nbS D s = some b) : nzB D (drS D s b) < nzB D s :=
  ctp_lt (b := b) (by rw [decide_eq_true (nb_pos hW h)]) (by rw [dr_0]; simp) (nbS_lt hD hW h).1 (fun i _ hi => by
    have h1 := of_decide_eq_true hi
    rw [dr_cB] at h1
    have h2 : ctp (fun z => kpB D s b z && pB D s i z) (sn s) ≤ cB D s i := ctp_imp (fun z _ hz => by simp only [Bool.and_eq_true] at hz; exact hz.2)
    exact decide_eq_true (by omega))
theorem ct_nz {D : Dk} {s : Sd} (hD : WFD D) (hW : WFS D s) : ∀ k, (∃ b, nbS D (ctI D s k) = some b) → nzB D (ctI D s k) + k ≤ D.1
  | 0, _ => ctp_le _ _
  | k + 1, ⟨b, h⟩ => by
    cases hk : nbS D (ctI D s k) with
    | none => rw [ct_n hk, hk] at h; cases h
    | some c =>
      have ih := ct_nz hD hW k ⟨c, hk⟩
      have := dr_nz hD (ct_wf hW k) hk
      rw [ct_s hk]
      omega
theorem ct_end {D : Dk} {s : Sd} (hD : WFD D) (hW : WFS D s) {i : Nat} (hi : D.1 ≤ i) : nbS D (ctI D s i) = none := by
  cases h : nbS D (ctI D s i) with
  | none => rfl
  | some b =>
    have h1 := ct_nz hD hW i ⟨b, h⟩
    have h2 := nb_pos (ct_wf hW i) h
    have h3 : 0 < nzB D (ctI D s i) := ctp_pos (decide_eq_true h2) (nbS_lt hD (ct_wf hW i) h).1
    omega
theorem nn (x : Int32) (h : ¬ x < nI 0) : ∃ i, i < 2 ^ 31 ∧ x = nI i := by
  rw [Int32.lt_iff_toInt_lt, nI_toInt (by omega)] at h
  have h2 := x.toInt_lt
  refine ⟨x.toInt.toNat, by omega, ?_⟩
  apply Int32.toInt_inj.mp
  rw [nI_toInt (by omega)]
  omega
theorem oi2_n : oi2 none = m2 := id rfl
theorem oi2_s {b : Nat} : oi2 (some b) = nI b := id rfl
section CTH
variable {w : Wd} {D : Dk} {s : Sd} {nd q : Nat}
theorem x_dropn {o : Ob} {a : Nat} {x : Int32} (h : o.1 4 = nI 0) : fX7_dropEntriesOf 1 a (sO w 7 1 o) x = some ((), sO w 7 1 (oI o 4 (nI 0))) := by
  show fX7_dropEntriesOf_5 1 a (999999 + 1) (sO w 7 1 o) x 0 0 = _
  rw [fX7_dropEntriesOf_5.eq_2]
  simp (disch := omega) only [↓mo_1, ↓mo_2, ad_m1, ite_m1_lt, ite_m2_lt, ite_le_m1, ite_eq_m1, ite_eq_m2, ite_m1_m1, ite_m2_m2, ite_T, ite_F, ite_nz, ite_zz, ite_m1_le, ite_m1_eq, oi_none, oi_some, ob_some, lw_def, ck_true, ckp_su, ite_lt_t, ite_lt_f, ite_le_t, ite_le_f, ite_eq_t, ite_eq_f, ck_inb, nI_add, sb_nI, mu_nI, nI_clamp, sO_at, sO_sO, Nat.add_sub_cancel, Nat.zero_add, Nat.add_zero, li_0, li_1, li_2, li_3, li_4, li_5, li_6, li_7, li_8, li_9, li_10, li_11, li_12, li_16, li_20, li_24, li_31, li_32, li_48, li_49, li_73, li_74, li_75, li_97, li_98, li_99, li_100, li_101, li_109, li_110, li_255, li_680, li_700, li_9999, li_65536, li_65537, h, sI_s]
theorem x_cth (hD : WFD D) (hS : RSh (w 5 q) D) (hW : WFS D s) (hq : q < 2) (hp : (w 9 0).2.2.1 2 = q + 1) {i : Nat} (hi : i < 2 ^ 30) : ∀ r k, k + r = i → ∀ (m : Nat) (o : Ob), r < m → RX o (ctI D s k) → ∃ o2 : Ob, fX9_cleansThen_51 m (sO w 7 1 o) (nI i) (nI k) = some (oi2 (nbS D (ctI D s i)), sI (sO w 7 1 o2) 9 0 13 (nI 0)) := by
  intro r
  induction r with
  | zero =>
    intro k hk m o hm hR
    obtain ⟨m, rfl⟩ : ∃ z, m = z + 1 := ⟨m - 1, by omega⟩
    have e : k = i := by omega
    subst e
    refine ⟨o, ?_⟩
    have hp2 : (sO w 7 1 o 9 0).2.2.1 2 = q + 1 := by rw [sO_nc (by decide)]; exact hp
    rw [fX9_cleansThen_51.eq_2]
    simp (disch := omega) only [↓mo_1, ↓mo_2, ad_m1, ite_m1_lt, ite_m2_lt, ite_le_m1, ite_eq_m1, ite_eq_m2, ite_m1_m1, ite_m2_m2, ite_T, ite_F, ite_nz, ite_zz, ite_m1_le, ite_m1_eq, oi_none, oi_some, ob_some, lw_def, ck_true, ckp_su, ite_lt_t, ite_lt_f, ite_le_t, ite_le_f, ite_eq_t, ite_eq_f, ck_inb, nI_add, sb_nI, mu_nI, nI_clamp, sO_at, sO_sO, Nat.add_sub_cancel, Nat.zero_add, Nat.add_zero, li_0, li_1, li_2, li_3, li_4, li_5, li_6, li_7, li_8, li_9, li_10, li_11, li_12, li_16, li_20, li_24, li_31, li_32, li_48, li_49, li_73, li_74, li_75, li_97, li_98, li_99, li_100, li_101, li_109, li_110, li_255, li_680, li_700, li_9999, li_65536, li_65537, hp2, x_nextBand hD hS (ct_wf hW k) hR, x_accept]
  | succ r ih =>
    intro k hk m o hm hR
    obtain ⟨m, rfl⟩ : ∃ z, m = z + 1 := ⟨m - 1, by omega⟩
    have hp2 : (sO w 7 1 o 9 0).2.2.1 2 = q + 1 := by rw [sO_nc (by decide)]; exact hp
    have e1 := x_nextBand (w := w) (j := 1) hD hS (ct_wf hW k) hR
    rw [fX9_cleansThen_51.eq_2]
    cases hb : nbS D (ctI D s k) with
    | none =>
      have h0 : sn (ctI D s k) = 0 := by
        unfold nbS at hb
        by_cases c : sn (ctI D s k) = 0
        · exact c
        · rw [if_neg c] at hb
          by_cases c2 : D.2.2.2.2 = true
          · rw [if_pos c2] at hb; cases hb
          · rw [if_neg c2] at hb; cases hb
      have h4 : o.1 4 = nI 0 := by rw [hR.2.1, h0]
      have hR2 : RX (oI o 4 (nI 0)) (ctI D s k) := ⟨hR.1, by rw [oI_a, h0], hR.2.2.1, hR.2.2.2.1, by rw [oI_n (by decide)]; exact hR.2.2.2.2.1, by rw [oI_n (by decide)]; exact hR.2.2.2.2.2.1, by rw [oI_n (by decide)]; exact hR.2.2.2.2.2.2.1, hR.2.2.2.2.2.2.2.1, by rw [oI_n (by decide)]; exact hR.2.2.2.2.2.2.2.2.1, by rw [oI_n (by decide)]; exact hR.2.2.2.2.2.2.2.2.2⟩
      obtain ⟨o2, e2⟩ := ih (k + 1) (by omega) m (oI o 4 (nI 0)) (by omega) (by rw [ct_n hb]; exact hR2)
      refine ⟨o2, ?_⟩
      simp (disch := omega) only [↓mo_1, ↓mo_2, ad_m1, ite_m1_lt, ite_m2_lt, ite_le_m1, ite_eq_m1, ite_eq_m2, ite_m1_m1, ite_m2_m2, ite_T, ite_F, ite_nz, ite_zz, ite_m1_le, ite_m1_eq, oi_none, oi_some, ob_some, lw_def, ck_true, ckp_su, ite_lt_t, ite_lt_f, ite_le_t, ite_le_f, ite_eq_t, ite_eq_f, ck_inb, nI_add, sb_nI, mu_nI, nI_clamp, sO_at, sO_sO, Nat.add_sub_cancel, Nat.zero_add, Nat.add_zero, li_0, li_1, li_2, li_3, li_4, li_5, li_6, li_7, li_8, li_9, li_10, li_11, li_12, li_16, li_20, li_24, li_31, li_32, li_48, li_49, li_73, li_74, li_75, li_97, li_98, li_99, li_100, li_101, li_109, li_110, li_255, li_680, li_700, li_9999, li_65536, li_65537, hp2, e1, x_dropn h4]
      exact e2
    | some b =>
      have hbl := (nbS_lt hD (ct_wf hW k) hb).1
      obtain ⟨o3, e3, e4, -⟩ := x_drop (w := w) (j := 1) hD hS (ct_wf hW k) hR hbl
      obtain ⟨o2, e2⟩ := ih (k + 1) (by omega) m o3 (by omega) (by rw [ct_s hb]; exact e4)
      refine ⟨o2, ?_⟩
      rw [hb, oi2_s] at e1
      simp (disch := omega) only [↓mo_1, ↓mo_2, ad_m1, ite_m1_lt, ite_m2_lt, ite_le_m1, ite_eq_m1, ite_eq_m2, ite_m1_m1, ite_m2_m2, ite_T, ite_F, ite_nz, ite_zz, ite_m1_le, ite_m1_eq, oi_none, oi_some, ob_some, lw_def, ck_true, ckp_su, ite_lt_t, ite_lt_f, ite_le_t, ite_le_f, ite_eq_t, ite_eq_f, ck_inb, nI_add, sb_nI, mu_nI, nI_clamp, sO_at, sO_sO, Nat.add_sub_cancel, Nat.zero_add, Nat.add_zero, li_0, li_1, li_2, li_3, li_4, li_5, li_6, li_7, li_8, li_9, li_10, li_11, li_12, li_16, li_20, li_24, li_31, li_32, li_48, li_49, li_73, li_74, li_75, li_97, li_98, li_99, li_100, li_101, li_109, li_110, li_255, li_680, li_700, li_9999, li_65536, li_65537, hp2, e1, e3]
      exact e2
theorem m_cth (hD : WFD D) (hS : RMs nd w D) (hW : WFS D s) {i : Nat} (hi : i < 2 ^ 31) : ∀ N k, sn (ctI D s k) ≤ N → k ≤ i → ∀ (m : Nat) (f : Nat → Int32), N < m → RM f (ctI D s k) → ∃ g : Nat → Int32, fX11_cleansThen_33 nd m (mX w f) (nI i) (oi2 (nbS D (ctI D s k))) (nI k) = some (oi2 (nbS D (ctI D s i)), mT (mX w g) (nI 0)) := by
  intro N
  induction N with
  | zero =>
    intro k hN hk m f hm hR
    obtain ⟨m, rfl⟩ : ∃ z, m = z + 1 := ⟨m - 1, by omega⟩
    have hb : nbS D (ctI D s k) = none := by unfold nbS; rw [if_pos (by omega)]
    have e := ct_nn hb (i - k)
    rw [show k + (i - k) = i by omega] at e
    refine ⟨f, ?_⟩
    rw [fX11_cleansThen_33.eq_2, e, hb, oi2_n]
    by_cases c : k = i
    · subst c
      simp (disch := omega) only [↓mo_1, ↓mo_2, ad_m1, ite_m1_lt, ite_m2_lt, ite_le_m1, ite_eq_m1, ite_eq_m2, ite_m1_m1, ite_m2_m2, ite_T, ite_F, ite_nz, ite_zz, ite_m1_le, ite_m1_eq, oi_none, oi_some, ob_some, lw_def, ck_true, ckp_su, ite_lt_t, ite_lt_f, ite_le_t, ite_le_f, ite_eq_t, ite_eq_f, ck_inb, nI_add, sb_nI, mu_nI, nI_clamp, sO_at, sO_sO, Nat.add_sub_cancel, Nat.zero_add, Nat.add_zero, li_0, li_1, li_2, li_3, li_4, li_5, li_6, li_7, li_8, li_9, li_10, li_11, li_12, li_16, li_20, li_24, li_31, li_32, li_48, li_49, li_73, li_74, li_75, li_97, li_98, li_99, li_100, li_101, li_109, li_110, li_255, li_680, li_700, li_9999, li_65536, li_65537, m_good]
    · simp (disch := omega) only [↓mo_1, ↓mo_2, ad_m1, ite_m1_lt, ite_m2_lt, ite_le_m1, ite_eq_m1, ite_eq_m2, ite_m1_m1, ite_m2_m2, ite_T, ite_F, ite_nz, ite_zz, ite_m1_le, ite_m1_eq, oi_none, oi_some, ob_some, lw_def, ck_true, ckp_su, ite_lt_t, ite_lt_f, ite_le_t, ite_le_f, ite_eq_t, ite_eq_f, ck_inb, nI_add, sb_nI, mu_nI, nI_clamp, sO_at, sO_sO, Nat.add_sub_cancel, Nat.zero_add, Nat.add_zero, li_0, li_1, li_2, li_3, li_4, li_5, li_6, li_7, li_8, li_9, li_10, li_11, li_12, li_16, li_20, li_24, li_31, li_32, li_48, li_49, li_73, li_74, li_75, li_97, li_98, li_99, li_100, li_101, li_109, li_110, li_255, li_680, li_700, li_9999, li_65536, li_65537, m_good]
  | succ N ih =>
    intro k hN hk m f hm hR
    obtain ⟨m, rfl⟩ : ∃ z, m = z + 1 := ⟨m - 1, by omega⟩
    rw [fX11_cleansThen_33.eq_2]
    by_cases c : k = i
    · subst c
      refine ⟨f, ?_⟩
      simp (disch := omega) only [↓mo_1, ↓mo_2, ad_m1, ite_m1_lt, ite_m2_lt, ite_le_m1, ite_eq_m1, ite_eq_m2, ite_m1_m1, ite_m2_m2, ite_T, ite_F, ite_nz, ite_zz, ite_m1_le, ite_m1_eq, oi_none, oi_some, ob_some, lw_def, ck_true, ckp_su, ite_lt_t, ite_lt_f, ite_le_t, ite_le_f, ite_eq_t, ite_eq_f, ck_inb, nI_add, sb_nI, mu_nI, nI_clamp, sO_at, sO_sO, Nat.add_sub_cancel, Nat.zero_add, Nat.add_zero, li_0, li_1, li_2, li_3, li_4, li_5, li_6, li_7, li_8, li_9, li_10, li_11, li_12, li_16, li_20, li_24, li_31, li_32, li_48, li_49, li_73, li_74, li_75, li_97, li_98, li_99, li_100, li_101, li_109, li_110, li_255, li_680, li_700, li_9999, li_65536, li_65537, m_good]
    · cases hb : nbS D (ctI D s k) with
      | none =>
        have e := ct_nn hb (i - k)
        rw [show k + (i - k) = i by omega] at e
        refine ⟨f, ?_⟩
        rw [e, hb, oi2_n]
        simp (disch := omega) only [↓mo_1, ↓mo_2, ad_m1, ite_m1_lt, ite_m2_lt, ite_le_m1, ite_eq_m1, ite_eq_m2, ite_m1_m1, ite_m2_m2, ite_T, ite_F, ite_nz, ite_zz, ite_m1_le, ite_m1_eq, oi_none, oi_some, ob_some, lw_def, ck_true, ckp_su, ite_lt_t, ite_lt_f, ite_le_t, ite_le_f, ite_eq_t, ite_eq_f, ck_inb, nI_add, sb_nI, mu_nI, nI_clamp, sO_at, sO_sO, Nat.add_sub_cancel, Nat.zero_add, Nat.add_zero, li_0, li_1, li_2, li_3, li_4, li_5, li_6, li_7, li_8, li_9, li_10, li_11, li_12, li_16, li_20, li_24, li_31, li_32, li_48, li_49, li_73, li_74, li_75, li_97, li_98, li_99, li_100, li_101, li_109, li_110, li_255, li_680, li_700, li_9999, li_65536, li_65537, m_good]
      | some b =>
        have hbl := (nbS_lt hD (ct_wf hW k) hb).1
        have hb24 := hD.2.1
        obtain ⟨g, e3, e4⟩ := m_taken hD hS (ct_wf hW k) hR hbl
        have hpos := nb_pos (ct_wf hW k) hb
        have hct := dr_ct (D := D) (s := ctI D s k) (b := b)
        rw [← ct_s hb] at hct e4
        obtain ⟨g2, e2⟩ := ih (k + 1) (by omega) (by omega) m g (by omega) e4
        refine ⟨g2, ?_⟩
        have e5 := m_nextBand hD hS (ct_wf hW (k + 1)) e4
        rw [oi2_s]
        simp (disch := omega) only [↓mo_1, ↓mo_2, ad_m1, ite_m1_lt, ite_m2_lt, ite_le_m1, ite_eq_m1, ite_eq_m2, ite_m1_m1, ite_m2_m2, ite_T, ite_F, ite_nz, ite_zz, ite_m1_le, ite_m1_eq, oi_none, oi_some, ob_some, lw_def, ck_true, ckp_su, ite_lt_t, ite_lt_f, ite_le_t, ite_le_f, ite_eq_t, ite_eq_f, ck_inb, nI_add, sb_nI, mu_nI, nI_clamp, sO_at, sO_sO, Nat.add_sub_cancel, Nat.zero_add, Nat.add_zero, li_0, li_1, li_2, li_3, li_4, li_5, li_6, li_7, li_8, li_9, li_10, li_11, li_12, li_16, li_20, li_24, li_31, li_32, li_48, li_49, li_73, li_74, li_75, li_97, li_98, li_99, li_100, li_101, li_109, li_110, li_255, li_680, li_700, li_9999, li_65536, li_65537, e3, e5]
        exact e2
end CTH
