/-! ===== writes, cuts, recoveries ===== -/
theorem flt_ct {kp : Nat → Bool} {e : Nat → Nat} {v : Nat → Int32} : ∀ i, (flt kp e v i).1 = ctp kp i
  | 0 => rfl
  | i + 1 => by
    have := flt_ct (kp := kp) (e := e) (v := v) i
    by_cases h : kp i = true
    · rw [flt_t h, ctp_t h, this]
    · rw [flt_f h, ctp_f h, this]
theorem ctp_not {p : Nat → Bool} : ∀ k, ctp (fun i => !p i) k + ctp p k = k
  | 0 => rfl
  | k + 1 => by
    have := ctp_not (p := p) k
    cases h : p k with
    | true => rw [ctp_t (p := p) h, ctp_f (p := fun i => !p i) (by simp [h])]; omega
    | false => rw [ctp_f (p := p) (by simp [h]), ctp_t (p := fun i => !p i) (by simp [h])]; omega
theorem dr_ct {D : Dk} {s : Sd} {b : Nat} : sn (drS D s b) + cB D s b = sn s := by
  show (flt (kpB D s b) (se s) (sv s) (sn s)).1 + ctp (pB D s b) (sn s) = sn s
  rw [flt_ct]
  exact ctp_not (p := pB D s b) (sn s)
theorem ctp_pos {p : Nat → Bool} {i : Nat} (hp : p i = true) : ∀ {k : Nat}, i < k → 0 < ctp p k
  | 0, h => absurd h (Nat.not_lt_zero i)
  | k + 1, h => by
    by_cases hk : i = k
    · subst hk; rw [ctp_t hp]; omega
    · have := ctp_pos hp (k := k) (by omega)
      by_cases z : p k = true
      · rw [ctp_t z]; omega
      · rw [ctp_f z]; exact this
theorem bst_max {g : Nat → Nat} : ∀ {n b : Nat}, b < n → g b ≤ (bst g n).2
  | 0, b, h => absurd h (Nat.not_lt_zero b)
  | n + 1, b, h => by
    have e : bst g (n + 1) = if (bst g n).2 < g n then (n, g n) else bst g n := rfl
    rw [e]
    by_cases c : (bst g n).2 < g n
    · rw [if_pos c]
      by_cases hb : b = n
      · subst hb; exact Nat.le_refl _
      · have := bst_max (g := g) (n := n) (b := b) (by omega)
        show g b ≤ g n
        omega
    · rw [if_neg c]
      by_cases hb : b = n
      · subst hb; omega
      · exact bst_max (by omega)
theorem bst_val {g : Nat → Nat} : ∀ {n : Nat}, 0 < (bst g n).2 → g (bst g n).1 = (bst g n).2
  | 0, h => absurd h (Nat.lt_irrefl 0)
  | n + 1, h => by
    have e : bst g (n + 1) = if (bst g n).2 < g n then (n, g n) else bst g n := rfl
    rw [e] at h ⊢
    by_cases c : (bst g n).2 < g n
    · rw [if_pos c]
    · rw [if_neg c] at h ⊢
      exact bst_val h
/-- the band that is cleaned next has an entry -/
theorem nb_pos {D : Dk} {s : Sd} {b : Nat} (hW : WFS D s) (h : nbS D s = some b) : 0 < cB D s b := by
  unfold nbS at h
  split at h
  · cases h
  · rename_i h0
    have hb0 := bo_spec (hW.2.1 0 (by omega))
    have hc0 : 0 < cB D s (bo D (se s 0)) := ctp_pos (i := 0) (by simp [pB]) (by omega)
    split at h
    · cases h; exact hc0
    · cases h
      have := bst_max (g := cB D s) hb0.1
      have h9 := bst_val (g := cB D s) (n := D.1) (by omega)
      rw [h9]
      omega
def apS (s : Sd) (t : Nat) (x : Int32) : Sd := (s.1, (sn s + 1, va_up (se s) (sn s) t, va_up (sv s) (sn s) x), s.2.2.1, sdn s, sct s + nI 1)
/-- a band cleaned -/
def clS (D : Dk) (s : Sd) (b : Nat) : Sd := spS D s b (2 * D.2.1 b + 2)
/-- room made in the log -/
def rmS (D : Dk) (s : Sd) : Sd := if sn s = D.2.2.2.1 then (match nbS D s with | some b => clS D s b | none => s) else s
def adS (D : Dk) (s : Sd) (t : Nat) (x : Int32) : Sd := apS (rmS D s) t x
def cl1 (D : Dk) (s : Sd) (c : Int32) : Int32 := if sn s = D.2.2.2.1 then c + nI 1 else c
theorem cl_wf {D : Dk} {s : Sd} {b : Nat} (hD : WFD D) (hW : WFS D s) (hb : b < D.1) (h0 : jn s = 0) (hf : jf s = false) : WFS D (clS D s b) ∧ jn (clS D s b) = 0 ∧ jf (clS D s b) = false ∧ sdn (clS D s b) = sdn s ∧ sn (clS D s b) + cB D s b = sn s := by
  obtain ⟨i1, i2, i3, i4, i5, i6, i7⟩ := sp_inv hD hW hb h0 hf (2 * D.2.1 b + 1) (by omega)
  refine ⟨sp_wf hD hW hb h0 hf (by omega), ?_, ?_, ?_, ?_⟩
  · unfold clS; rw [sp_end hD hb]; rfl
  · unfold clS; rw [sp_end hD hb]; rfl
  · unfold clS; rw [sp_end hD hb]; exact i6
  · unfold clS; rw [sp_end hD hb]
    show sn (drS D (spS D s b (2 * D.2.1 b + 1)) b) + cB D s b = sn s
    have e1 : sn (spS D s b (2 * D.2.1 b + 1)) = sn s := congrArg (fun q => q.1) i5
    have e2 : se (spS D s b (2 * D.2.1 b + 1)) = se s := congrArg (fun q => q.2.1) i5
    have := dr_ct (D := D) (s := spS D s b (2 * D.2.1 b + 1)) (b := b)
    rw [e1] at this
    have e3 : cB D (spS D s b (2 * D.2.1 b + 1)) b = cB D s b := by
      unfold cB pB
      rw [e1, e2]
    rw [e3] at this
    exact this
theorem rm_wf {D : Dk} {s : Sd} (hD : WFD D) (hW : WFS D s) (h0 : jn s = 0) (hf : jf s = false) : WFS D (rmS D s) ∧ jn (rmS D s) = 0 ∧ jf (rmS D s) = false ∧ sdn (rmS D s) = sdn s ∧ sn (rmS D s) < D.2.2.2.1 := by
  unfold rmS
  by_cases h : sn s = D.2.2.2.1
  · rw [if_pos h]
    have hpl := hD.2.2.2.2.2.2.1
    cases hb : nbS D s with
    | none =>
      exfalso
      unfold nbS at hb
      rw [if_neg (by omega)] at hb
      split at hb <;> cases hb
    | some b =>
      obtain ⟨c1, c2, c3, c4, c5⟩ := cl_wf hD hW (nbS_lt hD hW hb).1 h0 hf
      have := nb_pos hW hb
      exact ⟨c1, c2, c3, c4, by show sn (clS D s b) < _; omega⟩
  · rw [if_neg h]
    have := hW.1
    exact ⟨hW, h0, hf, rfl, by omega⟩
theorem ap_wf {D : Dk} {s : Sd} {t : Nat} {x : Int32} (hW : WFS D s) (hn : sn s < D.2.2.2.1) (ht : t < dnt D) : WFS D (apS s t x) := by
  refine ⟨hn, fun i hi => ?_, hW.2.2.1, hW.2.2.2⟩
  show va_up (se s) (sn s) t i < _
  have : i < sn s + 1 := hi
  by_cases z : i = sn s
  · rw [z, va_up_self]; exact ht
  · rw [va_up_ne _ _ z]; exact hW.2.1 i (by omega)
theorem ad_wf {D : Dk} {s : Sd} {t : Nat} {x : Int32} (hD : WFD D) (hW : WFS D s) (h0 : jn s = 0) (hf : jf s = false) (ht : t < dnt D) : WFS D (adS D s t x) ∧ jn (adS D s t x) = 0 ∧ jf (adS D s t x) = false ∧ sdn (adS D s t x) = sdn s ∧ 0 < sn (adS D s t x) := by
  obtain ⟨c1, c2, c3, c4, c5⟩ := rm_wf hD hW h0 hf
  exact ⟨ap_wf c1 c5 ht, c2, c3, c4, by show 0 < sn (rmS D s) + 1; omega⟩
section ACTS
variable {w : Wd} {j a : Nat} {o : Ob} {D : Dk} {s : Sd} {nd : Nat} {f : Nat → Int32}
theorem x_ap (hD : WFD D) (hR : RX o s) (hn : sn s < 24) {t : Nat} {x : Int32} : ∃ o2 : Ob, fX7_addEntry_41 j a (sO w 7 j o) (nI t) x = some ((), sO w 7 j o2) ∧ RX o2 (apS s t x) ∧ o2.1 10 = o.1 10 := by
  refine ⟨oI (oI (oA (oA o 1 (sn s) (nI t)) 2 (sn s) x) 4 (nI (sn s + 1))) 9 (o.1 9 + nI 1), ?_, ?_, by rw [oI_n (by decide), oI_n (by decide), oA_1, oA_1]⟩
  · unfold fX7_addEntry_41
    simp (disch := first | omega | decide) only [↓mo_1, ↓mo_2, ad_m1, ite_m1_lt, ite_m2_lt, ite_le_m1, ite_eq_m1, ite_eq_m2, ite_m1_m1, ite_m2_m2, ite_T, ite_F, ite_nz, ite_zz, ite_m1_le, ite_m1_eq, oi_none, oi_some, ob_some, lw_def, ck_true, ckp_su, ite_lt_t, ite_lt_f, ite_le_t, ite_le_f, ite_eq_t, ite_eq_f, ck_inb, nI_add, sb_nI, mu_nI, nI_clamp, sO_at, sO_sO, Nat.add_sub_cancel, Nat.zero_add, Nat.add_zero, li_0, li_1, li_2, li_3, li_4, li_5, li_6, li_7, li_8, li_9, li_10, li_11, li_12, li_16, li_20, li_24, li_31, li_32, li_48, li_49, li_73, li_74, li_75, li_97, li_98, li_99, li_100, li_101, li_109, li_110, li_255, li_680, li_700, li_9999, li_65536, li_65537, hR.2.1, sA_s, sI_s, oA_1, oI_n]
  · refine ⟨fun p hp => ?_, ?_, fun p hp => ?_, fun p hp => ?_, ?_, fun h => ?_, ?_, fun p hp => ?_, ?_, ?_⟩
    · rw [oI_2, oI_2, oA_n (by decide), oA_n (by decide)]; exact hR.1 p hp
    · rw [oI_n (by decide), oI_a]; rfl
    · rw [oI_2, oI_2, oA_n (by decide), oA_a]
      show upd _ _ _ p = nI (va_up _ _ _ p)
      have : p < sn s + 1 := hp
      by_cases z : p = sn s
      · rw [z, upd_at, va_up_self]
      · rw [upd_ne z, va_up_ne _ _ z]; exact hR.2.2.1 p (by omega)
    · rw [oI_2, oI_2, oA_a, oA_n (by decide)]
      show upd _ _ _ p = va_up _ _ _ p
      have : p < sn s + 1 := hp
      by_cases z : p = sn s
      · rw [z, upd_at, va_up_self]
      · rw [upd_ne z, va_up_ne _ _ z]; exact hR.2.2.2.1 p (by omega)
    · rw [oI_n (by decide), oI_n (by decide)]; exact hR.2.2.2.2.1
    · rw [oI_n (by decide), oI_n (by decide)]; exact hR.2.2.2.2.2.1 h
    · rw [oI_n (by decide), oI_n (by decide)]; exact hR.2.2.2.2.2.2.1
    · rw [oI_2, oI_2, oA_n (by decide), oA_n (by decide)]; exact hR.2.2.2.2.2.2.2.1 p hp
    · rw [oI_n (by decide), oI_n (by decide)]; exact hR.2.2.2.2.2.2.2.2.1
    · rw [oI_a, hR.2.2.2.2.2.2.2.2.2]; rfl
theorem x_addEntry (hD : WFD D) (hS : RSh (w 5 a) D) (hW : WFS D s) (hR : RX o s) (h0 : jn s = 0) (hf : jf s = false) {t : Nat} {x : Int32} : ∃ o2 : Ob, fX7_addEntry j a (sO w 7 j o) (nI t) x = some ((), sO w 7 j o2) ∧ RX o2 (adS D s t x) ∧ o2.1 10 = cl1 D s (o.1 10) := by
  have hn := hW.n24 hD
  have hpl := hD.2.2.2.2.2.2
  have hS2 : RSh ((sO w 7 j o) 5 a) D := by rw [sO_nc (by decide)]; exact hS
  obtain ⟨-, -, -, -, c5⟩ := rm_wf hD hW h0 hf
  unfold fX7_addEntry
  rw [hS2.2.2.2.2.2.1, sO_at, hR.2.1]
  by_cases h : sn s = D.2.2.2.1
  · have e : rmS D s = match nbS D s with | some b => clS D s b | none => s := if_pos h
    cases hb : nbS D s with
    | none =>
      exfalso
      unfold nbS at hb
      rw [if_neg (by omega)] at hb
      split at hb <;> cases hb
    | some b =>
      rw [hb] at e
      have hbl := (nbS_lt hD hW hb).1
      obtain ⟨o3, e1, e2, e3⟩ := x_doSteps (w := w) (j := j) hD hS hW hR hbl (Nat.le_refl _) h0 hf
      have e4 : RX (oI o3 10 (o3.1 10 + nI 1)) (rmS D s) := by
        rw [e]
        refine ⟨e2.1, ?_, e2.2.2.1, e2.2.2.2.1, ?_, fun z => ?_, ?_, e2.2.2.2.2.2.2.2.1, ?_, ?_⟩
        · rw [oI_n (by decide)]; exact e2.2.1
        · rw [oI_n (by decide)]; exact e2.2.2.2.2.1
        · rw [oI_n (by decide)]; exact e2.2.2.2.2.2.1 z
        · rw [oI_n (by decide)]; exact e2.2.2.2.2.2.2.1
        · rw [oI_n (by decide)]; exact e2.2.2.2.2.2.2.2.2.1
        · rw [oI_n (by decide)]; exact e2.2.2.2.2.2.2.2.2.2
      obtain ⟨o4, g1, g2, g3⟩ := x_ap (w := w) (j := j) (a := a) hD e4 (by omega) (t := t) (x := x)
      refine ⟨o4, ?_, g2, ?_⟩
      · have hnb := x_nextBand (w := w) (j := j) hD hS hW hR
        rw [hb] at hnb
        have hnb2 : fX7_nextBand j a (sO w 7 j o) = some (nI b, sO w 7 j o) := hnb
        simp (disch := omega) only [↓mo_1, ↓mo_2, ad_m1, ite_m1_lt, ite_m2_lt, ite_le_m1, ite_eq_m1, ite_eq_m2, ite_m1_m1, ite_m2_m2, ite_T, ite_F, ite_nz, ite_zz, ite_m1_le, ite_m1_eq, oi_none, oi_some, ob_some, lw_def, ck_true, ckp_su, ite_lt_t, ite_lt_f, ite_le_t, ite_le_f, ite_eq_t, ite_eq_f, ck_inb, nI_add, sb_nI, mu_nI, nI_clamp, sO_at, sO_sO, Nat.add_sub_cancel, Nat.zero_add, Nat.add_zero, li_0, li_1, li_2, li_3, li_4, li_5, li_6, li_7, li_8, li_9, li_10, li_11, li_12, li_16, li_20, li_24, li_31, li_32, li_48, li_49, li_73, li_74, li_75, li_97, li_98, li_99, li_100, li_101, li_109, li_110, li_255, li_680, li_700, li_9999, li_65536, li_65537, hnb2, x_stepsOf hS2 hD hbl, e1, sI_s]
        exact g1
      · rw [g3, oI_a, e3]
        unfold cl1
        rw [if_pos h]
  · have e : rmS D s = s := if_neg h
    have h1 := hW.1
    obtain ⟨o4, g1, g2, g3⟩ := x_ap (w := w) (j := j) (a := a) hD hR (by omega) (t := t) (x := x)
    refine ⟨o4, ?_, by unfold adS; rw [e]; exact g2, ?_⟩
    · simp (disch := omega) only [↓mo_1, ↓mo_2, ad_m1, ite_m1_lt, ite_m2_lt, ite_le_m1, ite_eq_m1, ite_eq_m2, ite_m1_m1, ite_m2_m2, ite_T, ite_F, ite_nz, ite_zz, ite_m1_le, ite_m1_eq, oi_none, oi_some, ob_some, lw_def, ck_true, ckp_su, ite_lt_t, ite_lt_f, ite_le_t, ite_le_f, ite_eq_t, ite_eq_f, ck_inb, nI_add, sb_nI, mu_nI, nI_clamp, sO_at, sO_sO, Nat.add_sub_cancel, Nat.zero_add, Nat.add_zero, li_0, li_1, li_2, li_3, li_4, li_5, li_6, li_7, li_8, li_9, li_10, li_11, li_12, li_16, li_20, li_24, li_31, li_32, li_48, li_49, li_73, li_74, li_75, li_97, li_98, li_99, li_100, li_101, li_109, li_110, li_255, li_680, li_700, li_9999, li_65536, li_65537]
      exact g1
    · rw [g3]
      unfold cl1
      rw [if_neg h]
/-- the reference counts a band more -/
def mC (w : Wd) (c : Int32) : Wd := sI w 11 0 25 c
theorem mC_X {v : Int32} : sI (mX w f) 11 0 25 v = mX (mC w v) f := by
  unfold mX mC sR sI
  rw [sO_at, sO_at, sO_sO, sO_sO]
  rfl
theorem mC_i {c : Int32} {k : Nat} (h : k ≠ 25) : (mC w c 11 0).1 k = (w 11 0).1 k := by
  unfold mC sI
  rw [sO_at, oI_n h]
theorem mC_a {c : Int32} : (mC w c 11 0).1 25 = c := by
  unfold mC sI
  rw [sO_at, oI_a]
theorem mC_2 {c : Int32} : (mC w c 11 0).2 = (w 11 0).2 := by
  unfold mC sI
  rw [sO_at]
  rfl
theorem mC_10 {c : Int32} {q : Nat} : mC w c 10 q = w 10 q := by
  unfold mC sI
  exact sO_nc (by decide)
theorem mC_mC {c d : Int32} : mC (mC w c) d = mC w d := by
  unfold mC
  rw [show sI (sI w 11 0 25 c) 11 0 25 d = sO w 11 0 (oI (oI (w 11 0) 25 c) 25 d) from sI_s]
  unfold sI
  congr 1
  unfold oI
  rw [bx_uu]
theorem mC_id : mC w ((w 11 0).1 25) = w := by
  unfold mC sI oI
  rw [show va_up (w 11 0).1 25 ((w 11 0).1 25) = (w 11 0).1 from ?_]
  · exact sO_id
  · funext k
    by_cases h : k = 25
    · subst h; exact va_up_self _ _ _
    · exact va_up_ne _ _ h
theorem mC_R {c : Int32} (h : RMs nd w D) : RMs nd (mC w c) D := by
  obtain ⟨h1, h2, h3, d, h4, h5, h6, h7⟩ := h
  refine ⟨by rw [mC_i (by decide)]; exact h1, by rw [mC_i (by decide)]; exact h2, fun b hb => by rw [mC_2]; exact h3 b hb, d, by rw [mC_2]; exact h4, h5, by rw [mC_10]; exact h6, by rw [mC_10]; exact h7⟩
theorem m_stepsOf (hD : WFD D) (hS : RMs nd w D) {b : Nat} (hb : b < D.1) : fX11_stepsOf nd (mX w f) (nI b) = some (nI (2 * D.2.1 b + 2), mX w f) := by
  have h1 := hS.2.2.1 b hb
  have h2 := hD.2.1
  unfold fX11_stepsOf
  simp (disch := first | omega | decide) only [↓mo_1, ↓mo_2, ad_m1, ite_m1_lt, ite_m2_lt, ite_le_m1, ite_eq_m1, ite_eq_m2, ite_m1_m1, ite_m2_m2, ite_T, ite_F, ite_nz, ite_zz, ite_m1_le, ite_m1_eq, oi_none, oi_some, ob_some, lw_def, ck_true, ckp_su, ite_lt_t, ite_lt_f, ite_le_t, ite_le_f, ite_eq_t, ite_eq_f, ck_inb, nI_add, sb_nI, mu_nI, nI_clamp, sO_at, sO_sO, Nat.add_sub_cancel, Nat.zero_add, Nat.add_zero, li_0, li_1, li_2, li_3, li_4, li_5, li_6, li_7, li_8, li_9, li_10, li_11, li_12, li_16, li_20, li_24, li_31, li_32, li_48, li_49, li_73, li_74, li_75, li_97, li_98, li_99, li_100, li_101, li_109, li_110, li_255, li_680, li_700, li_9999, li_65536, li_65537, mX_r, h1.2]
theorem m_cleans (hD : WFD D) (hS : RMs nd w D) (hW : WFS D s) (hR : RM f s) (h0 : jn s = 0) (hf : jf s = false) {b : Nat} (hb : b < D.1) : ∃ g : Nat → Int32, fX11_cleans nd (mX w f) (nI b) = some (nI (cB D s b), mX (mC w ((w 11 0).1 25 + nI 1)) g) ∧ RM g (clS D s b) := by
  obtain ⟨g, e1, e2⟩ := m_stepsTo hD hS hW hR hb (Nat.le_refl _) h0 hf
  refine ⟨g, ?_, e2⟩
  have h3 := m_entriesOf hD hS hW hR hb
  rw [li_0] at h3
  unfold fX11_cleans
  simp (disch := omega) only [↓mo_1, ↓mo_2, ad_m1, ite_m1_lt, ite_m2_lt, ite_le_m1, ite_eq_m1, ite_eq_m2, ite_m1_m1, ite_m2_m2, ite_T, ite_F, ite_nz, ite_zz, ite_m1_le, ite_m1_eq, oi_none, oi_some, ob_some, lw_def, ck_true, ckp_su, ite_lt_t, ite_lt_f, ite_le_t, ite_le_f, ite_eq_t, ite_eq_f, ck_inb, nI_add, sb_nI, mu_nI, nI_clamp, sO_at, sO_sO, Nat.add_sub_cancel, Nat.zero_add, Nat.add_zero, li_0, li_1, li_2, li_3, li_4, li_5, li_6, li_7, li_8, li_9, li_10, li_11, li_12, li_16, li_20, li_24, li_31, li_32, li_48, li_49, li_73, li_74, li_75, li_97, li_98, li_99, li_100, li_101, li_109, li_110, li_255, li_680, li_700, li_9999, li_65536, li_65537, h3, m_stepsOf hD hS hb, e1, mC_X, mX_i]
theorem m_ap (hD : WFD D) (hW : WFS D s) (hR : RM f s) (hn : sn s < 24) {t : Nat} {x : Int32} : ∃ g : Nat → Int32, fX11_writes_23 nd (mX w f) (nI t) x = some (nI (sn s), mX w g) ∧ RM g (apS s t x) := by
  have hj : 0 < jn s → jn s ≤ 8 := fun h => Nat.le_trans (hW.2.2.1 h).2 (hD.2.2.1 _ (hW.2.2.1 h).1).2
  refine ⟨upd (upd (upd (upd f (49 + sn s) (nI t)) (73 + sn s) x) 48 (nI (sn s + 1))) 109 (sct s + nI 1), ?_, ?_⟩
  · unfold fX11_writes_23
    simp (disch := first | omega | decide) only [↓mo_1, ↓mo_2, ad_m1, ite_m1_lt, ite_m2_lt, ite_le_m1, ite_eq_m1, ite_eq_m2, ite_m1_m1, ite_m2_m2, ite_T, ite_F, ite_nz, ite_zz, ite_m1_le, ite_m1_eq, oi_none, oi_some, ob_some, lw_def, ck_true, ckp_su, ite_lt_t, ite_lt_f, ite_le_t, ite_le_f, ite_eq_t, ite_eq_f, ck_inb, nI_add, sb_nI, mu_nI, nI_clamp, sO_at, sO_sO, Nat.add_sub_cancel, Nat.zero_add, Nat.add_zero, li_0, li_1, li_2, li_3, li_4, li_5, li_6, li_7, li_8, li_9, li_10, li_11, li_12, li_16, li_20, li_24, li_31, li_32, li_48, li_49, li_73, li_74, li_75, li_97, li_98, li_99, li_100, li_101, li_109, li_110, li_255, li_680, li_700, li_9999, li_65536, li_65537, mX_x, hR.2.1, m_enters, mX_s, upd_ne, hR.2.2.2.2.2.2.2.2.2]
  · refine ⟨fun p hp => ?_, ?_, fun p hp => ?_, fun p hp => ?_, ?_, fun h => ?_, ?_, fun p hp => ?_, ?_, upd_at⟩
    · simp (disch := omega) only [upd_ne]; exact hR.1 p hp
    · simp (disch := omega) only [upd_ne, upd_at]; rfl
    · show _ = nI (va_up _ _ _ p)
      have : p < sn s + 1 := hp
      by_cases z : p = sn s
      · subst z
        simp (disch := omega) only [upd_ne, upd_at, va_up_self]
      · simp (disch := omega) only [upd_ne, va_up_ne]; exact hR.2.2.1 p (by omega)
    · show _ = va_up _ _ _ p
      have : p < sn s + 1 := hp
      by_cases z : p = sn s
      · subst z
        simp (disch := omega) only [upd_ne, upd_at, va_up_self]
      · simp (disch := omega) only [upd_ne, va_up_ne]; exact hR.2.2.2.1 p (by omega)
    · simp (disch := omega) only [upd_ne]; exact hR.2.2.2.2.1
    · simp (disch := omega) only [upd_ne]; exact hR.2.2.2.2.2.1 h
    · simp (disch := omega) only [upd_ne]; exact hR.2.2.2.2.2.2.1
    · have : p < jn s := hp
      simp (disch := omega) only [upd_ne]; exact hR.2.2.2.2.2.2.2.1 p hp
    · simp (disch := omega) only [upd_ne]; exact hR.2.2.2.2.2.2.2.2.1
theorem m_writes (hD : WFD D) (hS : RMs nd w D) (hW : WFS D s) (hR : RM f s) (h0 : jn s = 0) (hf : jf s = false) {t : Nat} {x : Int32} : ∃ g : Nat → Int32, fX11_writes nd (mX w f) (nI t) x = some (nI (sn (rmS D s)), mX (mC w (cl1 D s ((w 11 0).1 25))) g) ∧ RM g (adS D s t x) := by
  have hn := hW.n24 hD
  have hpl := hD.2.2.2.2.2.2
  obtain ⟨c1, -, -, -, c5⟩ := rm_wf hD hW h0 hf
  unfold fX11_writes
  simp (disch := omega) only [↓mo_1, ↓mo_2, ad_m1, ite_m1_lt, ite_m2_lt, ite_le_m1, ite_eq_m1, ite_eq_m2, ite_m1_m1, ite_m2_m2, ite_T, ite_F, ite_nz, ite_zz, ite_m1_le, ite_m1_eq, oi_none, oi_some, ob_some, lw_def, ck_true, ckp_su, ite_lt_t, ite_lt_f, ite_le_t, ite_le_f, ite_eq_t, ite_eq_f, ck_inb, nI_add, sb_nI, mu_nI, nI_clamp, sO_at, sO_sO, Nat.add_sub_cancel, Nat.zero_add, Nat.add_zero, li_0, li_1, li_2, li_3, li_4, li_5, li_6, li_7, li_8, li_9, li_10, li_11, li_12, li_16, li_20, li_24, li_31, li_32, li_48, li_49, li_73, li_74, li_75, li_97, li_98, li_99, li_100, li_101, li_109, li_110, li_255, li_680, li_700, li_9999, li_65536, li_65537, mX_x, hR.2.1, mX_i, hS.2.1]
  by_cases h : sn s = D.2.2.2.1
  · have e : rmS D s = match nbS D s with | some b => clS D s b | none => s := if_pos h
    cases hb : nbS D s with
    | none =>
      exfalso
      unfold nbS at hb
      rw [if_neg (by omega)] at hb
      split at hb <;> cases hb
    | some b =>
      rw [hb] at e
      have e' : rmS D s = clS D s b := e
      have hbl := (nbS_lt hD hW hb).1
      obtain ⟨g, e1, e2⟩ := m_cleans hD hS hW hR h0 hf hbl
      obtain ⟨g2, e3, e4⟩ := m_ap (nd := nd) (w := mC w ((w 11 0).1 25 + nI 1)) hD (s := rmS D s) c1 (by rw [e']; exact e2) (by omega) (t := t) (x := x)
      refine ⟨g2, ?_, e4⟩
      have hnb := m_nextBand hD hS hW hR
      rw [hb] at hnb
      have hnb2 : fX11_nextBand nd (mX w f) = some (nI b, mX w f) := hnb
      unfold cl1
      simp (disch := omega) only [↓mo_1, ↓mo_2, ad_m1, ite_m1_lt, ite_m2_lt, ite_le_m1, ite_eq_m1, ite_eq_m2, ite_m1_m1, ite_m2_m2, ite_T, ite_F, ite_nz, ite_zz, ite_m1_le, ite_m1_eq, oi_none, oi_some, ob_some, lw_def, ck_true, ckp_su, ite_lt_t, ite_lt_f, ite_le_t, ite_le_f, ite_eq_t, ite_eq_f, ck_inb, nI_add, sb_nI, mu_nI, nI_clamp, sO_at, sO_sO, Nat.add_sub_cancel, Nat.zero_add, Nat.add_zero, li_0, li_1, li_2, li_3, li_4, li_5, li_6, li_7, li_8, li_9, li_10, li_11, li_12, li_16, li_20, li_24, li_31, li_32, li_48, li_49, li_73, li_74, li_75, li_97, li_98, li_99, li_100, li_101, li_109, li_110, li_255, li_680, li_700, li_9999, li_65536, li_65537, hnb2, e1, if_pos h]
      exact e3
  · have e : rmS D s = s := if_neg h
    have h1 := hW.1
    obtain ⟨g2, e3, e4⟩ := m_ap (nd := nd) (w := w) hD hW hR (by omega) (t := t) (x := x)
    refine ⟨g2, ?_, by unfold adS; rw [e]; exact e4⟩
    unfold cl1
    rw [if_neg h, mC_id, e]
    simp (disch := omega) only [↓mo_1, ↓mo_2, ad_m1, ite_m1_lt, ite_m2_lt, ite_le_m1, ite_eq_m1, ite_eq_m2, ite_m1_m1, ite_m2_m2, ite_T, ite_F, ite_nz, ite_zz, ite_m1_le, ite_m1_eq, oi_none, oi_some, ob_some, lw_def, ck_true, ckp_su, ite_lt_t, ite_lt_f, ite_le_t, ite_le_f, ite_eq_t, ite_eq_f, ck_inb, nI_add, sb_nI, mu_nI, nI_clamp, sO_at, sO_sO, Nat.add_sub_cancel, Nat.zero_add, Nat.add_zero, li_0, li_1, li_2, li_3, li_4, li_5, li_6, li_7, li_8, li_9, li_10, li_11, li_12, li_16, li_20, li_24, li_31, li_32, li_48, li_49, li_73, li_74, li_75, li_97, li_98, li_99, li_100, li_101, li_109, li_110, li_255, li_680, li_700, li_9999, li_65536, li_65537]
    exact e3
end ACTS
