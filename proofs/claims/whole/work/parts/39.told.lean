/-! ===== what a text tells: had, the run, unsure writes, reads ===== -/
abbrev Pk : Type := Nat × (Nat → Nat) × (Nat → Int32)
abbrev Tk : Type := Pk × Pk × Pk × Pk
def RP (o : Ob) (p : Pk) : Prop := o.1 2 = nI p.1 ∧ (∀ i, i < p.1 → o.2.1 0 i = nI (p.2.1 i)) ∧ ∀ i, i < p.1 → o.2.1 1 i = p.2.2 i
/-- of the class's Told -/
def RT (w : Wd) (q : Nat) (T : Tk) : Prop := RP (w 3 (4 * q)) T.1 ∧ RP (w 3 (4 * q + 1)) T.2.1 ∧ RP (w 3 (4 * q + 2)) T.2.2.1 ∧ RP (w 3 (4 * q + 3)) T.2.2.2
def WFT (D : Dk) (T : Tk) : Prop := (T.1.1 ≤ 12 ∧ ∀ i, i < T.1.1 → T.1.2.1 i < dnt D) ∧ (T.2.1.1 ≤ 16 ∧ ∀ i, i < T.2.1.1 → T.2.1.2.1 i < dnt D) ∧ (T.2.2.1.1 ≤ 4 ∧ (∀ i, i < T.2.2.1.1 → T.2.2.1.2.1 i < T.2.1.1) ∧ ∀ i k, i < k → k < T.2.2.1.1 → T.2.2.1.2.1 i ≠ T.2.2.1.2.1 k) ∧ (T.2.2.2.1 ≤ 6 ∧ ∀ i, i < T.2.2.2.1 → T.2.2.2.2.1 i < dnt D)
def hdF (p : Pk) : Nat → Nat → Int32
  | 0 => fun _ => nI 0
  | i + 1 => upd (hdF p i) (p.2.1 i) (p.2.2 i)
/-- of the reference's Disk -/
def RTm (o : Ob) (D : Dk) (T : Tk) : Prop := o.1 3 = nI (dnt D) ∧ (∀ t, t < 48 → o.2.1 10 t = hdF T.1 T.1.1 t) ∧ (o.1 5 = nI T.2.1.1 ∧ (∀ i, i < T.2.1.1 → o.2.1 11 i = nI (T.2.1.2.1 i)) ∧ ∀ i, i < T.2.1.1 → o.2.1 12 i = T.2.1.2.2 i) ∧ (o.1 6 = nI T.2.2.1.1 ∧ (∀ i, i < T.2.2.1.1 → o.2.1 13 i = nI (T.2.2.1.2.1 i)) ∧ ∀ i, i < T.2.2.1.1 → o.2.1 14 i = T.2.2.1.2.2 i) ∧ (o.1 7 = nI T.2.2.2.1 ∧ (∀ i, i < T.2.2.2.1 → o.2.1 15 i = nI (T.2.2.2.2.1 i)) ∧ ∀ i, i < T.2.2.2.1 → o.2.1 16 i = T.2.2.2.2.2 i)
/-- the disk of the reference: its bands -/
def RDm (o : Ob) (D : Dk) : Prop := o.1 0 = nI D.2.2.1 ∧ o.1 1 = nI D.2.2.2.1 ∧ o.1 2 = nI D.1 ∧ o.1 8 = b2i D.2.2.2.2 ∧ (∀ b, b < D.1 → o.2.1 9 b = nI (D.2.1 b)) ∧ D.1 ≤ 6
def bgS (T : Tk) : Sd := (hdF T.1 T.1.1, (0, fun _ => 0, fun _ => 0), (0, 0, false, fun _ => 0), false, nI 0)
theorem hdF_out {D : Dk} {p : Pk} (h : ∀ i, i < p.1 → p.2.1 i < dnt D) {t : Nat} (ht : dnt D ≤ t) : ∀ i, i ≤ p.1 → hdF p i t = nI 0
  | 0, _ => rfl
  | i + 1, hi => by
    have h1 := h i (by omega)
    show upd (hdF p i) _ _ t = _
    rw [upd_ne (by omega)]
    exact hdF_out h ht i (by omega)
theorem pl_0 {q : Nat} {k : Nat} (hk : k < 2) : aln 3 (4 * q) k = 12 := by
  rcases (show k = 0 ∨ k = 1 by omega) with rfl | rfl <;> (show pln (4 * q) = 12; unfold pln; rw [if_pos (by omega)])
theorem pl_1 {q : Nat} {k : Nat} (hk : k < 2) : aln 3 (4 * q + 1) k = 16 := by
  rcases (show k = 0 ∨ k = 1 by omega) with rfl | rfl <;> (show pln (4 * q + 1) = 16; unfold pln; rw [if_neg (by omega), if_pos (by omega)])
theorem pl_2 {q : Nat} {k : Nat} (hk : k < 2) : aln 3 (4 * q + 2) k = 4 := by
  rcases (show k = 0 ∨ k = 1 by omega) with rfl | rfl <;> (show pln (4 * q + 2) = 4; unfold pln; rw [if_neg (by omega), if_neg (by omega), if_pos (by omega)])
theorem pl_3 {q : Nat} {k : Nat} (hk : k < 2) : aln 3 (4 * q + 3) k = 6 := by
  rcases (show k = 0 ∨ k = 1 by omega) with rfl | rfl <;> (show pln (4 * q + 3) = 6; unfold pln; rw [if_neg (by omega), if_neg (by omega), if_neg (by omega)])
theorem x_pf {w : Wd} {j i : Nat} {p : Pk} (hR : RP (w 3 j) p) (hi : i < p.1) (hl : p.1 ≤ aln 3 j 0) (hs : aln 3 j 0 < 2 ^ 31) : fX3_firstOf j w (nI i) = some (nI (p.2.1 i), w) := by
  unfold fX3_firstOf
  rw [at_in (by omega) hs, hR.2.1 i hi]
  rfl
theorem x_ps {w : Wd} {j i : Nat} {p : Pk} (hR : RP (w 3 j) p) (hi : i < p.1) (hl : p.1 ≤ aln 3 j 1) (hs : aln 3 j 1 < 2 ^ 31) : fX3_secondOf j w (nI i) = some (p.2.2 i, w) := by
  unfold fX3_secondOf
  rw [at_in (by omega) hs, hR.2.2 i hi]
  rfl
/-! ===== the beginning ===== -/
section BEG
variable {w : Wd} {j q : Nat} {o : Ob} {D : Dk} {s : Sd} {T : Tk} {nd : Nat} {f : Nat → Int32}
theorem x_b2 (hT : RP (w 3 (4 * q)) T.1) (hW : WFT D T) (hD : WFD D) : ∀ k i, i + k = T.1.1 → ∀ (m : Nat) (o : Ob), k < m → (∀ t, t < 48 → o.2.1 0 t = hdF T.1 i t) → ∃ o2 : Ob, fX7_begin_26 j (4 * q) m (sO w 7 j o) (nI i) = some ((), sO w 7 j o2) ∧ RX o2 (bgS T) ∧ o2.1 10 = nI 0 := by
  have h12 := hW.1.1
  have h48 := hD.2.2.2.1
  have hT2 : ∀ o : Ob, RP ((sO w 7 j o) 3 (4 * q)) T.1 := fun o => by rw [sO_nc (by decide)]; exact hT
  intro k
  induction k with
  | zero =>
    intro i hi m o hm hr
    obtain ⟨m, rfl⟩ : ∃ z, m = z + 1 := ⟨m - 1, by omega⟩
    have e : i = T.1.1 := by omega
    subst e
    refine ⟨oI (oI (oI (oI (oI (oI (oI o 4 (nI 0)) 5 (nI 0)) 6 m1) 7 (nI 0)) 8 (nI 0)) 9 (nI 0)) 10 (nI 0), ?_, ?_, oI_a⟩
    · rw [fX7_begin_26.eq_2, (hT2 o).1]
      have e1 : ∀ o : Ob, fX7_emptyJournal j (sO w 7 j o) = some ((), sO w 7 j (oI (oI (oI o 5 (nI 0)) 6 m1) 7 (nI 0))) := fun o => by
        unfold fX7_emptyJournal
        simp (disch := omega) only [↓mo_1, ↓mo_2, ad_m1, ite_m1_lt, ite_m2_lt, ite_le_m1, ite_eq_m1, ite_eq_m2, ite_m1_m1, ite_m2_m2, ite_T, ite_F, ite_nz, ite_zz, ite_m1_le, ite_m1_eq, oi_none, oi_some, ob_some, lw_def, ck_true, ckp_su, ite_lt_t, ite_lt_f, ite_le_t, ite_le_f, ite_eq_t, ite_eq_f, ck_inb, nI_add, sb_nI, mu_nI, nI_clamp, sO_at, sO_sO, Nat.add_sub_cancel, Nat.zero_add, Nat.add_zero, li_0, li_1, li_2, li_3, li_4, li_5, li_6, li_7, li_8, li_9, li_10, li_11, li_12, li_16, li_20, li_24, li_31, li_32, li_48, li_49, li_73, li_74, li_75, li_97, li_98, li_99, li_100, li_101, li_109, li_110, li_255, li_680, li_700, li_9999, li_65536, li_65537, sI_s]
      simp (disch := omega) only [↓mo_1, ↓mo_2, ad_m1, ite_m1_lt, ite_m2_lt, ite_le_m1, ite_eq_m1, ite_eq_m2, ite_m1_m1, ite_m2_m2, ite_T, ite_F, ite_nz, ite_zz, ite_m1_le, ite_m1_eq, oi_none, oi_some, ob_some, lw_def, ck_true, ckp_su, ite_lt_t, ite_lt_f, ite_le_t, ite_le_f, ite_eq_t, ite_eq_f, ck_inb, nI_add, sb_nI, mu_nI, nI_clamp, sO_at, sO_sO, Nat.add_sub_cancel, Nat.zero_add, Nat.add_zero, li_0, li_1, li_2, li_3, li_4, li_5, li_6, li_7, li_8, li_9, li_10, li_11, li_12, li_16, li_20, li_24, li_31, li_32, li_48, li_49, li_73, li_74, li_75, li_97, li_98, li_99, li_100, li_101, li_109, li_110, li_255, li_680, li_700, li_9999, li_65536, li_65537, sI_s, e1]
    · refine ⟨hr, ?_, fun p hp => absurd hp (Nat.not_lt_zero p), fun p hp => absurd hp (Nat.not_lt_zero p), ?_, fun h => absurd h (Nat.lt_irrefl 0), ?_, fun p hp => absurd hp (Nat.not_lt_zero p), ?_, ?_⟩
      · simp (disch := decide) only [oI_n, oI_a]; rfl
      · simp (disch := decide) only [oI_n, oI_a]; rfl
      · simp (disch := decide) only [oI_n, oI_a]; rfl
      · simp (disch := decide) only [oI_n, oI_a]; rfl
      · simp (disch := decide) only [oI_n, oI_a]; rfl
  | succ k ih =>
    intro i hi m o hm hr
    obtain ⟨m, rfl⟩ : ∃ z, m = z + 1 := ⟨m - 1, by omega⟩
    have h1 := hW.1.2 i (by omega)
    obtain ⟨o2, e1, e2⟩ := ih (i + 1) (by omega) m (oA o 0 (T.1.2.1 i) (T.1.2.2 i)) (by omega) (fun t ht => by
      rw [oA_a]
      show upd _ _ _ t = upd (hdF T.1 i) _ _ t
      by_cases z : t = T.1.2.1 i
      · rw [z, upd_at, upd_at]
      · rw [upd_ne z, upd_ne z]; exact hr t ht)
    refine ⟨o2, ?_, e2⟩
    have l0 := pl_0 (q := q) (k := 0) (by omega)
    have l1 := pl_0 (q := q) (k := 1) (by omega)
    rw [fX7_begin_26.eq_2, (hT2 o).1]
    simp (disch := omega) only [↓mo_1, ↓mo_2, ad_m1, ite_m1_lt, ite_m2_lt, ite_le_m1, ite_eq_m1, ite_eq_m2, ite_m1_m1, ite_m2_m2, ite_T, ite_F, ite_nz, ite_zz, ite_m1_le, ite_m1_eq, oi_none, oi_some, ob_some, lw_def, ck_true, ckp_su, ite_lt_t, ite_lt_f, ite_le_t, ite_le_f, ite_eq_t, ite_eq_f, ck_inb, nI_add, sb_nI, mu_nI, nI_clamp, sO_at, sO_sO, Nat.add_sub_cancel, Nat.zero_add, Nat.add_zero, li_0, li_1, li_2, li_3, li_4, li_5, li_6, li_7, li_8, li_9, li_10, li_11, li_12, li_16, li_20, li_24, li_31, li_32, li_48, li_49, li_73, li_74, li_75, li_97, li_98, li_99, li_100, li_101, li_109, li_110, li_255, li_680, li_700, li_9999, li_65536, li_65537, x_pf (hT2 o), x_ps (hT2 o), sA_s]
    exact e1
theorem x_b1 (hT : RP (w 3 (4 * q)) T.1) (hW : WFT D T) (hD : WFD D) : ∀ k i, i + k = 48 → ∀ (m : Nat) (o : Ob), k < m → (∀ t, t < i → o.2.1 0 t = nI 0) → ∃ o2 : Ob, fX7_begin_2 j (4 * q) m (sO w 7 j o) (nI i) = some ((), sO w 7 j o2) ∧ RX o2 (bgS T) ∧ o2.1 10 = nI 0 := by
  have h12 := hW.1.1
  intro k
  induction k with
  | zero =>
    intro i hi m o hm hr
    obtain ⟨m, rfl⟩ : ∃ z, m = z + 1 := ⟨m - 1, by omega⟩
    obtain ⟨o2, e1, e2⟩ := x_b2 (j := j) hT hW hD T.1.1 0 (by omega) fuel0 o (by unfold fuel0; omega) (fun t ht => hr t (by omega))
    refine ⟨o2, ?_, e2⟩
    rw [fX7_begin_2.eq_2]
    simp (disch := omega) only [↓mo_1, ↓mo_2, ad_m1, ite_m1_lt, ite_m2_lt, ite_le_m1, ite_eq_m1, ite_eq_m2, ite_m1_m1, ite_m2_m2, ite_T, ite_F, ite_nz, ite_zz, ite_m1_le, ite_m1_eq, oi_none, oi_some, ob_some, lw_def, ck_true, ckp_su, ite_lt_t, ite_lt_f, ite_le_t, ite_le_f, ite_eq_t, ite_eq_f, ck_inb, nI_add, sb_nI, mu_nI, nI_clamp, sO_at, sO_sO, Nat.add_sub_cancel, Nat.zero_add, Nat.add_zero, li_0, li_1, li_2, li_3, li_4, li_5, li_6, li_7, li_8, li_9, li_10, li_11, li_12, li_16, li_20, li_24, li_31, li_32, li_48, li_49, li_73, li_74, li_75, li_97, li_98, li_99, li_100, li_101, li_109, li_110, li_255, li_680, li_700, li_9999, li_65536, li_65537]
    exact e1
  | succ k ih =>
    intro i hi m o hm hr
    obtain ⟨m, rfl⟩ : ∃ z, m = z + 1 := ⟨m - 1, by omega⟩
    obtain ⟨o2, e1, e2⟩ := ih (i + 1) (by omega) m (oA o 0 i (nI 0)) (by omega) (fun t ht => by
      rw [oA_a]
      by_cases z : t = i
      · rw [z, upd_at]
      · rw [upd_ne z]; exact hr t (by omega))
    refine ⟨o2, ?_, e2⟩
    rw [fX7_begin_2.eq_2]
    simp (disch := omega) only [↓mo_1, ↓mo_2, ad_m1, ite_m1_lt, ite_m2_lt, ite_le_m1, ite_eq_m1, ite_eq_m2, ite_m1_m1, ite_m2_m2, ite_T, ite_F, ite_nz, ite_zz, ite_m1_le, ite_m1_eq, oi_none, oi_some, ob_some, lw_def, ck_true, ckp_su, ite_lt_t, ite_lt_f, ite_le_t, ite_le_f, ite_eq_t, ite_eq_f, ck_inb, nI_add, sb_nI, mu_nI, nI_clamp, sO_at, sO_sO, Nat.add_sub_cancel, Nat.zero_add, Nat.add_zero, li_0, li_1, li_2, li_3, li_4, li_5, li_6, li_7, li_8, li_9, li_10, li_11, li_12, li_16, li_20, li_24, li_31, li_32, li_48, li_49, li_73, li_74, li_75, li_97, li_98, li_99, li_100, li_101, li_109, li_110, li_255, li_680, li_700, li_9999, li_65536, li_65537, sA_s]
    exact e1
theorem x_begin (hT : RP (w 3 (4 * q)) T.1) (hW : WFT D T) (hD : WFD D) : ∃ o2 : Ob, fX7_begin j (4 * q) (sO w 7 j o) = some ((), sO w 7 j o2) ∧ RX o2 (bgS T) ∧ o2.1 10 = nI 0 :=
  x_b1 (j := j) hT hW hD 48 0 (by omega) fuel0 o (by unfold fuel0; omega) (fun t ht => absurd ht (Nat.not_lt_zero t))
theorem bg_wf (hD : WFD D) : WFS D (bgS T) := ⟨Nat.zero_le _, fun i hi => absurd hi (Nat.not_lt_zero i), fun h => absurd h (Nat.lt_irrefl 0), (fun h => by cases h)⟩
/-! the reference: what a call may leave behind -/
def SM (w w2 : Wd) : Prop := (∀ c i, ¬ (c = 11 ∧ i = 0) → w2 c i = w c i) ∧ (w2 11 0).2.2.1 = (w 11 0).2.2.1 ∧ (∀ k, k ∈ [1, 2, 6, 12, 19, 20, 29, 30, 31, 33] → (w2 11 0).1 k = (w 11 0).1 k) ∧ ∀ k, k ∈ [5, 15, 17, 18, 32] → (w2 11 0).2.1 k = (w 11 0).2.1 k
theorem SM.rf : SM w w := ⟨fun _ _ _ => rfl, rfl, fun _ _ => rfl, fun _ _ => rfl⟩
theorem SM.tr {w1 w2 w3 : Wd} (h : SM w1 w2) (h2 : SM w2 w3) : SM w1 w3 := ⟨fun c i z => (h2.1 c i z).trans (h.1 c i z), h2.2.1.trans h.2.1, fun k z => (h2.2.2.1 k z).trans (h.2.2.1 k z), fun k z => (h2.2.2.2 k z).trans (h.2.2.2 k z)⟩
theorem SM.i {k : Nat} {v : Int32} (hk : k ∉ [1, 2, 6, 12, 19, 20, 29, 30, 31, 33]) : SM w (sI w 11 0 k v) := by
  unfold sI
  refine ⟨fun c i z => sO_ne z, by rw [sO_at]; rfl, fun q hq => ?_, fun q _ => by rw [sO_at]; rfl⟩
  rw [sO_at]
  exact oI_n (fun e => hk (by rw [← e]; exact hq))
theorem SM.a {k i : Nat} {v : Int32} (hk : k ∉ [5, 15, 17, 18, 32]) : SM w (sA w 11 0 k i v) := by
  unfold sA
  refine ⟨fun c i z => sO_ne z, by rw [sO_at]; rfl, fun q hq => by rw [sO_at]; rfl, fun q hq => ?_⟩
  rw [sO_at]
  exact oA_n (fun e => hk (by rw [← e]; exact hq))
theorem SM.x : SM w (mX w f) := by
  unfold mX sR
  refine ⟨fun c i z => sO_ne z, by rw [sO_at]; rfl, fun q hq => by rw [sO_at]; rfl, fun q hq => ?_⟩
  rw [sO_at, oR_n (fun e => by subst e; revert hq; decide)]
theorem SM.c {v : Int32} : SM w (mC w v) := SM.i (by decide)
theorem mX_I {k : Nat} {v : Int32} : sI (mX w f) 11 0 k v = mX (sI w 11 0 k v) f := by
  unfold mX sR sI
  rw [sO_at, sO_at, sO_sO, sO_sO]
  rfl
theorem mX_A {k i : Nat} {v : Int32} (h : k ≠ 16) : sA (mX w f) 11 0 k i v = mX (sA w 11 0 k i v) f := by
  unfold mX sR sA
  rw [sO_at, sO_at, sO_sO, sO_sO]
  congr 1
  unfold oA oR
  show ((w 11 0).1, va_up (va_up (w 11 0).2.1 16 f) k (upd (va_up (w 11 0).2.1 16 f k) i v), (w 11 0).2.2) = ((w 11 0).1, va_up (va_up (w 11 0).2.1 k (upd ((w 11 0).2.1 k) i v)) 16 f, (w 11 0).2.2)
  rw [va_up_ne _ _ h]
  congr 2
  funext p
  by_cases z : p = k
  · subst z; rw [va_up_self, va_up_ne _ _ h, va_up_self]
  · rw [va_up_ne _ _ z]
    by_cases z2 : p = 16
    · subst z2; rw [va_up_self, va_up_self]
    · rw [va_up_ne _ _ z2, va_up_ne _ _ z2, va_up_ne _ _ z]
theorem m_bt (hD : WFD D) {d : Nat} (hd : d < nd) : ∀ k b, b + k = D.1 → ∀ (m : Nat) (w : Wd), k < m → (w 11 0).2.2.1 3 = d + 1 → RDm (w 10 d) D → (w 11 0).1 23 = nI D.1 → (w 11 0).1 24 = nI D.2.2.2.1 → (∀ c, c < b → (w 11 0).2.1 21 c = nI (dfst D.2.1 c) ∧ (w 11 0).2.1 22 c = nI (D.2.1 c)) →
    ∃ w2 : Wd, fX11_bandsAsTold_31 nd m (mX w f) (nI (dfst D.2.1 b)) (nI b) = some ((), mX w2 f) ∧ RMs nd w2 D ∧ SM w w2 ∧ (w2 11 0).1 25 = (w 11 0).1 25 := by
  have h24 := hD.2.1
  intro k
  induction k with
  | zero =>
    intro b hb m w hm hp hR h23 h24' hr
    obtain ⟨m, rfl⟩ : ∃ z, m = z + 1 := ⟨m - 1, by omega⟩
    have e : b = D.1 := by omega
    subst e
    refine ⟨w, ?_, ⟨h23, h24', hr, d, hp, hd, hR.1, hR.2.2.2.1⟩, SM.rf, rfl⟩
    rw [fX11_bandsAsTold_31.eq_2, mX_i, h23]
    simp (disch := omega) only [↓mo_1, ↓mo_2, ad_m1, ite_m1_lt, ite_m2_lt, ite_le_m1, ite_eq_m1, ite_eq_m2, ite_m1_m1, ite_m2_m2, ite_T, ite_F, ite_nz, ite_zz, ite_m1_le, ite_m1_eq, oi_none, oi_some, ob_some, lw_def, ck_true, ckp_su, ite_lt_t, ite_lt_f, ite_le_t, ite_le_f, ite_eq_t, ite_eq_f, ck_inb, nI_add, sb_nI, mu_nI, nI_clamp, sO_at, sO_sO, Nat.add_sub_cancel, Nat.zero_add, Nat.add_zero, li_0, li_1, li_2, li_3, li_4, li_5, li_6, li_7, li_8, li_9, li_10, li_11, li_12, li_16, li_20, li_24, li_31, li_32, li_48, li_49, li_73, li_74, li_75, li_97, li_98, li_99, li_100, li_101, li_109, li_110, li_255, li_680, li_700, li_9999, li_65536, li_65537]
  | succ k ih =>
    intro b hb m w hm hp hR h23 h24' hr
    obtain ⟨m, rfl⟩ : ∃ z, m = z + 1 := ⟨m - 1, by omega⟩
    have h6 := hR.2.2.2.2.2
    have h9 := hR.2.2.2.2.1 b (by omega)
    have a1 : (sA w 11 0 21 b (nI (dfst D.2.1 b)) 11 0).2.2.1 3 = d + 1 := by unfold sA; rw [sO_at]; exact hp
    have a2 : ∀ v, (sA (sA w 11 0 21 b (nI (dfst D.2.1 b))) 11 0 22 b v 11 0).2.1 22 b = v := fun v => by unfold sA; rw [sO_at, oA_a, upd_at]
    have a3 : sA w 11 0 21 b (nI (dfst D.2.1 b)) 10 d = w 10 d := by unfold sA; exact sO_nc (by decide)
    obtain ⟨w2, e1, e2, e3, e4⟩ := ih (b + 1) (by omega) m (sA (sA w 11 0 21 b (nI (dfst D.2.1 b))) 11 0 22 b (nI (D.2.1 b))) (by omega) (by unfold sA; rw [sO_at]; exact a1) (by unfold sA; rw [sO_nc (by decide), sO_nc (by decide)]; exact hR) (by unfold sA; rw [sO_at, sO_at]; exact h23) (by unfold sA; rw [sO_at, sO_at]; exact h24') (fun c hc => by
      unfold sA
      rw [sO_at, sO_at, oA_n (by decide), oA_a, oA_a, oA_n (by decide)]
      by_cases z : c = b
      · subst z; rw [upd_at, upd_at]; exact ⟨rfl, rfl⟩
      · rw [upd_ne z, upd_ne z]; exact hr c (by omega))
    refine ⟨w2, ?_, e2, (SM.a (by decide)).tr ((SM.a (by decide)).tr e3), by rw [e4]; unfold sA; rw [sO_at, sO_at]; rfl⟩
    rw [fX11_bandsAsTold_31.eq_2, mX_i, h23]
    simp (disch := first | omega | decide) only [↓mo_1, ↓mo_2, ad_m1, ite_m1_lt, ite_m2_lt, ite_le_m1, ite_eq_m1, ite_eq_m2, ite_m1_m1, ite_m2_m2, ite_T, ite_F, ite_nz, ite_zz, ite_m1_le, ite_m1_eq, oi_none, oi_some, ob_some, lw_def, ck_true, ckp_su, ite_lt_t, ite_lt_f, ite_le_t, ite_le_f, ite_eq_t, ite_eq_f, ck_inb, nI_add, sb_nI, mu_nI, nI_clamp, sO_at, sO_sO, Nat.add_sub_cancel, Nat.zero_add, Nat.add_zero, li_0, li_1, li_2, li_3, li_4, li_5, li_6, li_7, li_8, li_9, li_10, li_11, li_12, li_16, li_20, li_24, li_31, li_32, li_48, li_49, li_73, li_74, li_75, li_97, li_98, li_99, li_100, li_101, li_109, li_110, li_255, li_680, li_700, li_9999, li_65536, li_65537, mX_A, mX_p, a1, mX_10, a3, h9, mX_r, a2]
    exact e1
theorem m_bandsAsTold (hD : WFD D) {d : Nat} (hd : d < nd) (hp : (w 11 0).2.2.1 3 = d + 1) (hR : RDm (w 10 d) D) : ∃ w2 : Wd, fX11_bandsAsTold nd (mX w f) = some ((), mX w2 f) ∧ RMs nd w2 D ∧ SM w w2 ∧ (w2 11 0).1 25 = nI 0 := by
  have h24 := hD.2.1
  have b1 : ∀ v, (sI w 11 0 23 v 11 0).2.2.1 3 = d + 1 := fun v => by unfold sI; rw [sO_at]; exact hp
  have b2 : ∀ v, sI w 11 0 23 v 10 d = w 10 d := fun v => by unfold sI; exact sO_nc (by decide)
  obtain ⟨w2, e1, e2, e3, e4⟩ := m_bt (f := f) hD hd D.1 0 (by omega) fuel0 (sI (sI (sI w 11 0 23 (nI D.1)) 11 0 24 (nI D.2.2.2.1)) 11 0 25 (nI 0)) (by unfold fuel0; omega) (by unfold sI; rw [sO_at, sO_at, sO_at]; exact hp) (by unfold sI; rw [sO_nc (by decide), sO_nc (by decide), sO_nc (by decide)]; exact hR) (by unfold sI; rw [sO_at, sO_at, sO_at, oI_n (by decide), oI_n (by decide), oI_a]) (by unfold sI; rw [sO_at, sO_at, sO_at, oI_n (by decide), oI_a]) (fun c hc => absurd hc (Nat.not_lt_zero c))
  refine ⟨w2, ?_, e2, (SM.i (by decide)).tr ((SM.i (by decide)).tr ((SM.i (by decide)).tr e3)), by rw [e4]; unfold sI; rw [sO_at, oI_a]⟩
  unfold fX11_bandsAsTold
  simp (disch := first | omega | decide) only [↓mo_1, ↓mo_2, ad_m1, ite_m1_lt, ite_m2_lt, ite_le_m1, ite_eq_m1, ite_eq_m2, ite_m1_m1, ite_m2_m2, ite_T, ite_F, ite_nz, ite_zz, ite_m1_le, ite_m1_eq, oi_none, oi_some, ob_some, lw_def, ck_true, ckp_su, ite_lt_t, ite_lt_f, ite_le_t, ite_le_f, ite_eq_t, ite_eq_f, ck_inb, nI_add, sb_nI, mu_nI, nI_clamp, sO_at, sO_sO, Nat.add_sub_cancel, Nat.zero_add, Nat.add_zero, li_0, li_1, li_2, li_3, li_4, li_5, li_6, li_7, li_8, li_9, li_10, li_11, li_12, li_16, li_20, li_24, li_31, li_32, li_48, li_49, li_73, li_74, li_75, li_97, li_98, li_99, li_100, li_101, li_109, li_110, li_255, li_680, li_700, li_9999, li_65536, li_65537, mX_p, hp, mX_10, hR.2.2.1, mX_I, b1, b2, hR.2.1]
  exact e1
theorem m_wk : ∀ k i, i + k = 110 → ∀ (m : Nat) (f : Nat → Int32), k < m → (∀ t, t < i → f t = (w 11 0).2.1 15 t) → ∃ g : Nat → Int32, fX11_works_2 nd m (mX w f) (nI i) = ob (fX11_bandsAsTold nd (mX w g)) (fun _ w3 => some ((), w3)) ∧ ∀ t, t < 110 → g t = (w 11 0).2.1 15 t := by
  intro k
  induction k with
  | zero =>
    intro i hi m f hm hr
    obtain ⟨m, rfl⟩ : ∃ z, m = z + 1 := ⟨m - 1, by omega⟩
    refine ⟨f, ?_, fun t ht => hr t (by omega)⟩
    rw [fX11_works_2.eq_2]
    simp (disch := omega) only [↓mo_1, ↓mo_2, ad_m1, ite_m1_lt, ite_m2_lt, ite_le_m1, ite_eq_m1, ite_eq_m2, ite_m1_m1, ite_m2_m2, ite_T, ite_F, ite_nz, ite_zz, ite_m1_le, ite_m1_eq, oi_none, oi_some, ob_some, lw_def, ck_true, ckp_su, ite_lt_t, ite_lt_f, ite_le_t, ite_le_f, ite_eq_t, ite_eq_f, ck_inb, nI_add, sb_nI, mu_nI, nI_clamp, sO_at, sO_sO, Nat.add_sub_cancel, Nat.zero_add, Nat.add_zero, li_0, li_1, li_2, li_3, li_4, li_5, li_6, li_7, li_8, li_9, li_10, li_11, li_12, li_16, li_20, li_24, li_31, li_32, li_48, li_49, li_73, li_74, li_75, li_97, li_98, li_99, li_100, li_101, li_109, li_110, li_255, li_680, li_700, li_9999, li_65536, li_65537]
  | succ k ih =>
    intro i hi m f hm hr
    obtain ⟨m, rfl⟩ : ∃ z, m = z + 1 := ⟨m - 1, by omega⟩
    obtain ⟨g, e1, e2⟩ := ih (i + 1) (by omega) m (upd f i ((w 11 0).2.1 15 i)) (by omega) (fun t ht => by
      by_cases z : t = i
      · rw [z, upd_at]
      · rw [upd_ne z]; exact hr t (by omega))
    refine ⟨g, ?_, e2⟩
    rw [fX11_works_2.eq_2]
    simp (disch := first | omega | decide) only [↓mo_1, ↓mo_2, ad_m1, ite_m1_lt, ite_m2_lt, ite_le_m1, ite_eq_m1, ite_eq_m2, ite_m1_m1, ite_m2_m2, ite_T, ite_F, ite_nz, ite_zz, ite_m1_le, ite_m1_eq, oi_none, oi_some, ob_some, lw_def, ck_true, ckp_su, ite_lt_t, ite_lt_f, ite_le_t, ite_le_f, ite_eq_t, ite_eq_f, ck_inb, nI_add, sb_nI, mu_nI, nI_clamp, sO_at, sO_sO, Nat.add_sub_cancel, Nat.zero_add, Nat.add_zero, li_0, li_1, li_2, li_3, li_4, li_5, li_6, li_7, li_8, li_9, li_10, li_11, li_12, li_16, li_20, li_24, li_31, li_32, li_48, li_49, li_73, li_74, li_75, li_97, li_98, li_99, li_100, li_101, li_109, li_110, li_255, li_680, li_700, li_9999, li_65536, li_65537, mX_r, mX_s]
    exact e1
theorem RM.cg {g : Nat → Int32} (hn : sn s ≤ 24) (hj : jn s ≤ 8) (h : RM f s) (e : ∀ t, t < 110 → g t = f t) : RM g s := by
  refine ⟨fun t ht => ?_, ?_, fun p hp => ?_, fun p hp => ?_, ?_, fun z => ?_, ?_, fun p hp => ?_, ?_, ?_⟩
  · rw [e _ (by omega)]; exact h.1 t ht
  · rw [e _ (by omega)]; exact h.2.1
  · rw [e _ (by omega)]; exact h.2.2.1 p hp
  · rw [e _ (by omega)]; exact h.2.2.2.1 p hp
  · rw [e _ (by omega)]; exact h.2.2.2.2.1
  · rw [e _ (by omega)]; exact h.2.2.2.2.2.1 z
  · rw [e _ (by omega)]; exact h.2.2.2.2.2.2.1
  · rw [e _ (by omega)]; exact h.2.2.2.2.2.2.2.1 p hp
  · rw [e _ (by omega)]; exact h.2.2.2.2.2.2.2.2.1
  · rw [e _ (by omega)]; exact h.2.2.2.2.2.2.2.2.2
theorem WFS.j8 (hD : WFD D) (hW : WFS D s) : jn s ≤ 8 := by
  by_cases h : 0 < jn s
  · exact Nat.le_trans (hW.2.2.1 h).2 (hD.2.2.1 _ (hW.2.2.1 h).1).2
  · omega
/-- works(): the row of now is worked on, the bands are as told -/
theorem m_works (hD : WFD D) {d : Nat} (hd : d < nd) (hp : (w 11 0).2.2.1 3 = d + 1) (hR : RDm (w 10 d) D) (hW : WFS D s) (hM : RM ((w 11 0).2.1 15) s) : ∃ (w2 : Wd) (g : Nat → Int32), fX11_works nd w = some ((), mX w2 g) ∧ RMs nd w2 D ∧ RM g s ∧ SM w w2 ∧ (w2 11 0).1 25 = nI 0 := by
  obtain ⟨g, e1, e2⟩ := m_wk (nd := nd) (w := w) 110 0 (by omega) fuel0 ((w 11 0).2.1 16) (by unfold fuel0; omega) (fun t ht => absurd ht (Nat.not_lt_zero t))
  obtain ⟨w2, e3, e4, e5, e6⟩ := m_bandsAsTold (f := g) hD hd hp hR
  refine ⟨w2, g, ?_, e4, hM.cg (hW.n24 hD) (hW.j8 hD) e2, e5, e6⟩
  unfold fX11_works
  rw [mX_self, li_0] at *
  rw [e1, e3]
  rfl
end BEG
