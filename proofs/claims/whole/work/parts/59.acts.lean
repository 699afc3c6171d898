/-! ===== acts: what a call may change ===== -/
def XA (w w1 : Wd) : Prop := (w1 9 0).2 = (w 9 0).2 ∧ (∀ k, k ≠ 12 → (w1 9 0).1 k = (w 9 0).1 k) ∧ FX w w1
def MA (w w1 : Wd) : Prop := (w1 11 0).1 6 = (w 11 0).1 6 ∧ (w1 11 0).1 12 = (w 11 0).1 12 ∧ (w1 11 0).2.1 5 = (w 11 0).2.1 5 ∧ FM w w1
/-- an act: refused, or done on both sides -/
def Ac {α : Type} (F : Wd → Option (α × Wd)) (H : Nat → Wd → Option (α × Wd)) : Prop := ∀ d, DOK d → (∃ r k, (k < 4 ∨ 4 < k) ∧ k < 9 ∧ (∀ w q, q < 2 → (w 9 0).2.2.1 2 = q + 1 → XD w q d → ∃ w1, XS w w1 ∧ F w = some (r, sI w1 9 0 13 (nI k))) ∧ ∀ nd w w1, w1 = sI w 11 0 0 (nI 0) → MD nd w1 d → ∃ w2, SM w1 w2 ∧ H nd w = some (r, mT w2 (nI k))) ∨ ∃ r d2, DOK d2 ∧ (∀ w q, q < 2 → (w 9 0).2.2.1 2 = q + 1 → XD w q d → ∃ w1, XA w w1 ∧ XD w1 q d2 ∧ F w = some (r, sI w1 9 0 13 (nI 0))) ∧ ∀ nd w w1, w1 = sI w 11 0 0 (nI 0) → MD nd w1 d → ∃ w2, MA w1 w2 ∧ MD nd w2 d2 ∧ H nd w = some (r, mT w2 (nI 0))
theorem Ac.cl {α : Type} {F : Wd → Option (α × Wd)} {H : Nat → Wd → Option (α × Wd)} (h : Ac F H) : Cl F H := by
  intro A hA
  rcases h A.2.2.2.2 hA.2.2 with ⟨r, k, h1, h2, h3, h4⟩ | ⟨r, d2, h1, h3, h4⟩
  · refine ⟨r, (nI k, A.2), hA, fun w hw => ?_, fun nd w hw => ?_⟩
    · have hw' := hw
      obtain ⟨q, a1, a2, a3, a4, a5, a6, a7, a8, a9⟩ := hw'
      obtain ⟨w1, b1, b2⟩ := h3 w q a1 a2 a9
      refine ⟨_, b2, hw.qy b1, fun c j hc => ?_⟩
      rw [sI_nc (by omega)]
      exact b1 c j (by omega) (by omega) (by omega)
    · have s1 : SM w (sI w 11 0 0 (nI 0)) := SM.i (by decide)
      obtain ⟨w2, b1, b2⟩ := h4 nd w _ rfl (hw.2.2.2.2.2.sm s1)
      refine ⟨_, b2, hw.qy (s1.tr b1) h1 h2, fun c j hc hd => ?_⟩
      unfold mT
      rw [sI_nc hd, sI_nc hd]
      exact (s1.tr b1).fm c j hc hd
  · refine ⟨r, (nI 0, A.2.1, A.2.2.1, A.2.2.2.1, d2), ⟨hA.1, hA.2.1, h1⟩, fun w hw => ?_, fun nd w hw => ?_⟩
    · obtain ⟨q, a1, a2, a3, a4, a5, a6, a7, a8, a9⟩ := hw
      obtain ⟨w1, b1, b2, b3⟩ := h3 w q a1 a2 a9
      refine ⟨_, b3, ⟨q, a1, by rw [sI_2, b1.1]; exact a2, by rw [sI_2, b1.1]; exact a3, sI_i, by rw [sI_n (by decide), b1.2.1 14 (by decide)]; exact a5, by rw [sI_n (by decide), b1.2.1 15 (by decide)]; exact a6, by rw [sI_n (by decide), b1.2.1 1 (by decide)]; exact a7, by rw [sI_2, b1.1]; exact a8, ?_⟩, fun c j hc => ?_⟩
      · exact XD.cg a1 b2 (sI_nc (by decide)) (fun j => sI_nc (by decide)) (fun j _ => sI_nc (by decide)) (sI_nc (by decide)) (sI_nc (by decide)) (sI_n (by decide))
      · rw [sI_nc (by omega)]; exact b1.2.2 c j hc
    · have s1 : SM w (sI w 11 0 0 (nI 0)) := SM.i (by decide)
      obtain ⟨w2, b1, b2, b3⟩ := h4 nd w _ rfl (hw.2.2.2.2.2.sm s1)
      obtain ⟨c1, c2, c3, c4, c5, c6⟩ := hw
      refine ⟨_, b3, ?_, fun c j hc hd => ?_⟩
      · unfold mT
        refine ⟨by rw [sI_n (by decide), sI_i], by rw [sI_n (by decide), sI_n (by decide), b1.2.1, sI_n (by decide)]; exact c2, ?_, by rw [sI_n (by decide), sI_n (by decide), b1.1, sI_n (by decide)]; exact c4, by rw [sI_2, sI_2, b1.2.2.1, sI_2]; exact c5, ?_⟩
        · show _ = if nI 0 = nI 4 then A.2.2.1 else m1
          rw [sI_i, if_neg (by decide)]
        · refine MD.cg b2 (fun j => by rw [sI_nc (by decide), sI_nc (by decide)]) (by rw [sI_2, sI_2]) (fun k hk => ?_) (fun k hk => by rw [sI_2, sI_2])
          have : k ≠ 1 ∧ k ≠ 2 := by simp only [List.mem_cons, List.not_mem_nil, or_false] at hk; omega
          rw [sI_n this.2, sI_n this.1]
      · unfold mT
        rw [sI_nc hd, sI_nc hd, b1.2.2.2 c j hc hd, sI_nc hd]
/-- one more to be undone -/
def hpu (h : Nat × (Nat → Sd)) (s : Sd) : Nat × (Nat → Sd) := if h.1 = 16 then (16, fun i => if i < 15 then h.2 (i + 1) else s) else (h.1 + 1, va_up h.2 h.1 s)
theorem hpu_16 {h : Nat × (Nat → Sd)} {s : Sd} (e : h.1 = 16) : hpu h s = (16, fun i => if i < 15 then h.2 (i + 1) else s) := if_pos e
theorem hpu_n {h : Nat × (Nat → Sd)} {s : Sd} (e : ¬ h.1 = 16) : hpu h s = (h.1 + 1, va_up h.2 h.1 s) := if_neg e
theorem hpu_ok {D : Dk} {h : Nat × (Nat → Sd)} {s : Sd} (h1 : h.1 ≤ 16) (h2 : ∀ i, i < h.1 → WFS D (h.2 i) ∧ QT (h.2 i)) (hW : WFS D s) (hQ : QT s) : (hpu h s).1 ≤ 16 ∧ ∀ i, i < (hpu h s).1 → WFS D ((hpu h s).2 i) ∧ QT ((hpu h s).2 i) := by
  by_cases e : h.1 = 16
  · rw [hpu_16 e]
    refine ⟨Nat.le_refl _, fun i hi => ?_⟩
    have hi' : i < 16 := hi
    show WFS D (if i < 15 then h.2 (i + 1) else s) ∧ QT (if i < 15 then h.2 (i + 1) else s)
    by_cases c : i < 15
    · rw [if_pos c]; exact h2 _ (by omega)
    · rw [if_neg c]; exact ⟨hW, hQ⟩
  · rw [hpu_n e]
    refine ⟨(show h.1 + 1 ≤ 16 by omega), fun i hi => ?_⟩
    have hi' : i < h.1 + 1 := hi
    show WFS D (va_up h.2 h.1 s i) ∧ QT (va_up h.2 h.1 s i)
    by_cases c : i = h.1
    · rw [c, va_up_self]; exact ⟨hW, hQ⟩
    · rw [va_up_ne _ _ c]; exact h2 _ (by omega)
section KEEP
variable {w : Wd} {D : Dk} {T : Tk} {s : Sd} {h im : Nat × (Nat → Sd)} {q : Nat}
theorem x_copyAt0 {p : Nat} (hp : p < 16) : fX6_copyAt 0 w (nI p) = some (2 + p + 1, w) := by
  have hl : aln 6 0 0 = 16 := rfl
  have hb : sbase 0 = 2 := rfl
  unfold fX6_copyAt
  simp (disch := omega) only [↓mo_1, ↓mo_2, ad_m1, ite_m1_lt, ite_m2_lt, ite_le_m1, ite_eq_m1, ite_eq_m2, ite_m1_m1, ite_m2_m2, ite_T, ite_F, ite_nz, ite_zz, ite_m1_le, ite_m1_eq, oi_none, oi_some, ob_some, lw_def, ck_true, ckp_su, ite_lt_t, ite_lt_f, ite_le_t, ite_le_f, ite_eq_t, ite_eq_f, ck_inb, nI_add, sb_nI, mu_nI, nI_clamp, sO_at, sO_sO, Nat.add_sub_cancel, Nat.zero_add, Nat.add_zero, li_0, li_1, li_2, li_3, li_4, li_5, li_6, li_7, li_8, li_9, li_10, li_11, li_12, li_16, li_20, li_24, li_31, li_32, li_48, li_49, li_73, li_74, li_75, li_97, li_98, li_99, li_100, li_101, li_109, li_110, li_255, li_680, li_700, li_9999, li_65536, li_65537, hl, hb]
theorem x_copyAt1 {p : Nat} (hp : p < 3) : fX6_copyAt 1 w (nI p) = some (18 + p + 1, w) := by
  have hl : aln 6 1 0 = 3 := rfl
  have hb : sbase 1 = 18 := rfl
  unfold fX6_copyAt
  simp (disch := omega) only [↓mo_1, ↓mo_2, ad_m1, ite_m1_lt, ite_m2_lt, ite_le_m1, ite_eq_m1, ite_eq_m2, ite_m1_m1, ite_m2_m2, ite_T, ite_F, ite_nz, ite_zz, ite_m1_le, ite_m1_eq, oi_none, oi_some, ob_some, lw_def, ck_true, ckp_su, ite_lt_t, ite_lt_f, ite_le_t, ite_le_f, ite_eq_t, ite_eq_f, ck_inb, nI_add, sb_nI, mu_nI, nI_clamp, sO_at, sO_sO, Nat.add_sub_cancel, Nat.zero_add, Nat.add_zero, li_0, li_1, li_2, li_3, li_4, li_5, li_6, li_7, li_8, li_9, li_10, li_11, li_12, li_16, li_20, li_24, li_31, li_32, li_48, li_49, li_73, li_74, li_75, li_97, li_98, li_99, li_100, li_101, li_109, li_110, li_255, li_680, li_700, li_9999, li_65536, li_65537, hl, hb]
theorem x_keep (hD : WFD D) (hW : WFS D s) (hR : RX (w 7 0) s) (h16 : h.1 ≤ 16) (hX : XH w h) : ∃ w2 : Wd, fX2_keep 0 w = some ((), w2) ∧ (∀ o, XH (sO w2 7 0 o) (hpu h s)) ∧ (∀ c j, c ≠ 2 → ¬ (c = 7 ∧ 2 ≤ j ∧ j < 18) → w2 c j = w c j) := by
  obtain ⟨a1, p, a2, a3, a4⟩ := hX
  obtain ⟨o1, b1, b2, -⟩ := x_copyFrom (w := w) (a := 2 + p) (b := 0) hD hW (by omega) hR
  have c1 : (sO w 7 (2 + p) o1 2 0) = w 2 0 := sO_nc (by decide)
  generalize hw2 : sI (sI (sO w 7 (2 + p) o1) 2 0 1 (nI ((p + 1) % 16))) 2 0 2 (nI (hpu h s).1) = w2
  have hother : ∀ c j, c ≠ 2 → ¬ (c = 7 ∧ j = 2 + p) → w2 c j = w c j := fun c j hc hj => by rw [← hw2, sI_nc hc, sI_nc hc, sO_ne hj]
  have h7p : w2 7 (2 + p) = o1 := by rw [← hw2, sI_nc (by decide), sI_nc (by decide), sO_at]
  refine ⟨w2, ?_, fun o => ⟨?_, (p + 1) % 16, Nat.mod_lt _ (by omega), ?_, fun i hi => ?_⟩, fun c j hc hj => hother c j hc (by omega)⟩
  · have e1 : fX6_layIn 0 0 w (nI p) = some ((), sO w 7 (2 + p) o1) := by
      unfold fX6_layIn
      rw [x_copyAt0 a2]
      simp (disch := omega) only [↓mo_1, ↓mo_2, ad_m1, ite_m1_lt, ite_m2_lt, ite_le_m1, ite_eq_m1, ite_eq_m2, ite_m1_m1, ite_m2_m2, ite_T, ite_F, ite_nz, ite_zz, ite_m1_le, ite_m1_eq, oi_none, oi_some, ob_some, lw_def, ck_true, ckp_su, ite_lt_t, ite_lt_f, ite_le_t, ite_le_f, ite_eq_t, ite_eq_f, ck_inb, nI_add, sb_nI, mu_nI, nI_clamp, sO_at, sO_sO, Nat.add_sub_cancel, Nat.zero_add, Nat.add_zero, li_0, li_1, li_2, li_3, li_4, li_5, li_6, li_7, li_8, li_9, li_10, li_11, li_12, li_16, li_20, li_24, li_31, li_32, li_48, li_49, li_73, li_74, li_75, li_97, li_98, li_99, li_100, li_101, li_109, li_110, li_255, li_680, li_700, li_9999, li_65536, li_65537, b1]
    have e2 : (if nI 16 < nI (h.1 + 1) then nI 16 else nI (h.1 + 1)) = nI (hpu h s).1 := by
      by_cases e : h.1 = 16
      · rw [hpu_16 e, if_pos (nI_lt (by omega) (by omega))]
      · rw [hpu_n e, if_neg (nI_nlt (by omega) (by omega))]
    have e3 : (sI (sO w 7 (2 + p) o1) 2 0 1 (nI ((p + 1) % 16)) 2 0).1 2 = nI h.1 := by rw [sI_n (by decide), c1]; exact a1
    unfold fX2_keep
    simp (disch := omega) only [↓mo_1, ↓mo_2, ad_m1, ite_m1_lt, ite_m2_lt, ite_le_m1, ite_eq_m1, ite_eq_m2, ite_m1_m1, ite_m2_m2, ite_T, ite_F, ite_nz, ite_zz, ite_m1_le, ite_m1_eq, oi_none, oi_some, ob_some, lw_def, ck_true, ckp_su, ite_lt_t, ite_lt_f, ite_le_t, ite_le_f, ite_eq_t, ite_eq_f, ck_inb, nI_add, nI_clamp, sO_at, sO_sO, Nat.add_sub_cancel, Nat.zero_add, Nat.add_zero, li_0, li_1, li_2, li_3, li_4, li_5, li_6, li_7, li_8, li_9, li_10, li_11, li_12, li_16, li_20, li_24, li_31, li_32, li_48, li_49, li_73, li_74, li_75, li_97, li_98, li_99, li_100, li_101, li_109, li_110, li_255, li_680, li_700, li_9999, li_65536, li_65537, a3, e1, c1, pk_rem, e3]
    rw [e2, hw2]
  · rw [sO_nc (by decide), ← hw2, sI_i]
  · rw [sO_nc (by decide), ← hw2, sI_n (by decide), sI_i]
  · rw [sO_nj (by omega)]
    by_cases e : h.1 = 16
    · rw [hpu_16 e] at hi ⊢
      have hi' : i < 16 := hi
      show RX (w2 7 (2 + ((p + 1) % 16 + 16 - 16 + i) % 16)) (if i < 15 then h.2 (i + 1) else s)
      by_cases c : i < 15
      · rw [if_pos c, hother 7 _ (by decide) (by omega)]
        have := a4 (i + 1) (by omega)
        rw [show (p + 16 - h.1 + (i + 1)) % 16 = ((p + 1) % 16 + 16 - 16 + i) % 16 by omega] at this
        exact this
      · rw [if_neg c, show ((p + 1) % 16 + 16 - 16 + i) % 16 = p by omega, h7p]
        exact b2
    · rw [hpu_n e] at hi ⊢
      have hi' : i < h.1 + 1 := hi
      show RX (w2 7 (2 + ((p + 1) % 16 + 16 - (h.1 + 1) + i) % 16)) (va_up h.2 h.1 s i)
      by_cases c : i = h.1
      · rw [c, va_up_self, show ((p + 1) % 16 + 16 - (h.1 + 1) + h.1) % 16 = p by omega, h7p]
        exact b2
      · rw [va_up_ne _ _ c, hother 7 _ (by decide) (by omega)]
        have := a4 i (by omega)
        rw [show (p + 16 - h.1 + i) % 16 = ((p + 1) % 16 + 16 - (h.1 + 1) + i) % 16 by omega] at this
        exact this
/-- a state kept, then changed -/
theorem x_kept (hD : WFD D) (hW : WFS D s) (h16 : h.1 ≤ 16) (hI : im.1 ≤ 3) (hq : q < 2) (hX : XD w q (some (D, T, s, h, im))) : ∃ w2 : Wd, fX2_keep 0 w = some ((), w2) ∧ w2 9 0 = w 9 0 ∧ w2 5 q = w 5 q ∧ RX (w2 7 0) s ∧ ∀ o s2, RX o s2 → XD (sO w2 7 0 o) q (some (D, T, s2, hpu h s, im)) ∧ XA w (sO w2 7 0 o) := by
  obtain ⟨a1, a2, a3, a4, a5, a6, a7⟩ := hX
  obtain ⟨w2, e1, e2, e3⟩ := x_keep hD hW a3 h16 a5
  have e9 := e3 9 0 (by decide) (by omega)
  have e5 := e3 5 q (by decide) (by omega)
  refine ⟨w2, e1, e9, e5, by rw [e3 7 0 (by decide) (by omega)]; exact a3, fun o s2 hR => ⟨⟨by rw [sO_nc (by decide), e5]; exact a1, ?_, by rw [sO_at]; exact hR, by rw [sO_nc (by decide), e3 1 0 (by decide) (by omega)]; exact a4, e2 o, by rw [sO_nc (by decide), e9]; exact a6, fun i hi => by rw [sO_nj (by omega), e3 7 _ (by decide) (by omega)]; exact a7 i hi⟩, ⟨by rw [sO_nc (by decide), e9], fun k _ => by rw [sO_nc (by decide), e9], fun c j hc => by rw [sO_nc (by omega)]; exact e3 c j (by omega) (by omega)⟩⟩⟩
  unfold RT
  rw [sO_nc (by decide), sO_nc (by decide), sO_nc (by decide), sO_nc (by decide), e3 3 _ (by decide) (by omega), e3 3 _ (by decide) (by omega), e3 3 _ (by decide) (by omega), e3 3 _ (by decide) (by omega)]
  exact a2
end KEEP
/-! the reference -/
theorem li_1650 : (1650 : Int32) = nI 1650 := id rfl
section REM
variable {D : Dk} {T : Tk} {s : Sd} {h im : Nat × (Nat → Sd)} {nd d : Nat}
/-- as SM, but what can be undone may change -/
def SH (w w2 : Wd) : Prop := (∀ c i, ¬ (c = 11 ∧ i = 0) → w2 c i = w c i) ∧ (w2 11 0).2.2.1 = (w 11 0).2.2.1 ∧ (∀ k, k ∈ [1, 2, 6, 12, 20] → (w2 11 0).1 k = (w 11 0).1 k) ∧ ∀ k, k ∈ [5, 15, 18] → (w2 11 0).2.1 k = (w 11 0).2.1 k
theorem SM.sh {w w1 : Wd} (h : SM w w1) : SH w w1 := ⟨h.1, h.2.1, fun k hk => h.2.2.1 k (by simp only [List.mem_cons, List.not_mem_nil, or_false] at hk ⊢; omega), fun k hk => h.2.2.2 k (by simp only [List.mem_cons, List.not_mem_nil, or_false] at hk ⊢; omega)⟩
theorem SH.tr {w1 w2 w3 : Wd} (h : SH w1 w2) (h2 : SH w2 w3) : SH w1 w3 := ⟨fun c i z => (h2.1 c i z).trans (h.1 c i z), h2.2.1.trans h.2.1, fun k z => (h2.2.2.1 k z).trans (h.2.2.1 k z), fun k z => (h2.2.2.2 k z).trans (h.2.2.2 k z)⟩
theorem SH.i {w : Wd} {k : Nat} {v : Int32} (hk : k ∉ [1, 2, 6, 12, 20]) : SH w (sI w 11 0 k v) := by
  unfold sI
  refine ⟨fun c i z => sO_ne z, by rw [sO_at]; rfl, fun q hq => ?_, fun q _ => by rw [sO_at]; rfl⟩
  rw [sO_at]
  exact oI_n (fun e => hk (by rw [← e]; exact hq))
theorem SH.a {w : Wd} {k i : Nat} {v : Int32} (hk : k ∉ [5, 15, 18]) : SH w (sA w 11 0 k i v) := by
  unfold sA
  refine ⟨fun c i z => sO_ne z, by rw [sO_at]; rfl, fun q hq => by rw [sO_at]; rfl, fun q hq => ?_⟩
  rw [sO_at]
  exact oA_n (fun e => hk (by rw [← e]; exact hq))
theorem SH.rf {w : Wd} : SH w w := SM.rf.sh
theorem m_r51 {a : Nat} (ha : a < 16) : ∀ r t, t + r = 110 → ∀ (m : Nat) (w : Wd), r < m → (w 11 0).1 19 = nI a → (∀ u, u < t → (w 11 0).2.1 17 (110 * a + u) = (w 11 0).2.1 15 u) → ∃ w2 : Wd, fX11_remembers_51 nd m w (nI t) = ob (fX11_works nd w2) (fun _ w5 => some ((), w5)) ∧ SH w w2 ∧ (w2 11 0).1 19 = nI (a + 1) ∧ (∀ u, u < 110 → (w2 11 0).2.1 17 (110 * a + u) = (w 11 0).2.1 15 u) ∧ ∀ u, u < 110 * a → (w2 11 0).2.1 17 u = (w 11 0).2.1 17 u := by
  intro r
  induction r with
  | zero =>
    intro t ht m w hm h19 hr
    obtain ⟨m, rfl⟩ : ∃ z, m = z + 1 := ⟨m - 1, by omega⟩
    have e : t = 110 := by omega
    subst e
    refine ⟨sI w 11 0 19 (nI (a + 1)), ?_, SH.i (by decide), sI_i, fun u hu => by rw [sI_2]; exact hr u hu, fun u hu => by rw [sI_2]⟩
    rw [fX11_remembers_51.eq_2]
    simp (disch := omega) only [↓mo_1, ↓mo_2, ad_m1, ite_m1_lt, ite_m2_lt, ite_le_m1, ite_eq_m1, ite_eq_m2, ite_m1_m1, ite_m2_m2, ite_T, ite_F, ite_nz, ite_zz, ite_m1_le, ite_m1_eq, oi_none, oi_some, ob_some, lw_def, ck_true, ckp_su, ite_lt_t, ite_lt_f, ite_le_t, ite_le_f, ite_eq_t, ite_eq_f, ck_inb, nI_add, sb_nI, mu_nI, nI_clamp, sO_at, sO_sO, Nat.add_sub_cancel, Nat.zero_add, Nat.add_zero, li_0, li_1, li_2, li_3, li_4, li_5, li_6, li_7, li_8, li_9, li_10, li_11, li_12, li_16, li_20, li_24, li_31, li_32, li_48, li_49, li_73, li_74, li_75, li_97, li_98, li_99, li_100, li_101, li_109, li_110, li_255, li_680, li_700, li_9999, li_65536, li_65537, h19]
  | succ r ih =>
    intro t ht m w hm h19 hr
    obtain ⟨m, rfl⟩ : ∃ z, m = z + 1 := ⟨m - 1, by omega⟩
    have k15 : (sA w 11 0 17 (110 * a + t) ((w 11 0).2.1 15 t) 11 0).2.1 15 = (w 11 0).2.1 15 := by unfold sA; rw [sO_at, oA_n (by decide)]
    obtain ⟨w2, e1, e2, e3, e4, e5⟩ := ih (t + 1) (by omega) m (sA w 11 0 17 (110 * a + t) ((w 11 0).2.1 15 t)) (by omega) (by unfold sA; rw [sO_at]; exact h19) (fun u hu => by
      rw [k15]
      unfold sA
      rw [sO_at, oA_a]
      by_cases c : u = t
      · rw [c, upd_at]
      · rw [upd_ne (by omega)]; exact hr u (by omega))
    refine ⟨w2, ?_, (SH.a (by decide)).tr e2, e3, fun u hu => by rw [e4 u hu, k15], fun u hu => ?_⟩
    · rw [fX11_remembers_51.eq_2]
      simp (disch := omega) only [↓mo_1, ↓mo_2, ad_m1, ite_m1_lt, ite_m2_lt, ite_le_m1, ite_eq_m1, ite_eq_m2, ite_m1_m1, ite_m2_m2, ite_T, ite_F, ite_nz, ite_zz, ite_m1_le, ite_m1_eq, oi_none, oi_some, ob_some, lw_def, ck_true, ckp_su, ite_lt_t, ite_lt_f, ite_le_t, ite_le_f, ite_eq_t, ite_eq_f, ck_inb, nI_add, sb_nI, mu_nI, nI_clamp, sO_at, sO_sO, Nat.add_sub_cancel, Nat.zero_add, Nat.add_zero, li_0, li_1, li_2, li_3, li_4, li_5, li_6, li_7, li_8, li_9, li_10, li_11, li_12, li_16, li_20, li_24, li_31, li_32, li_48, li_49, li_73, li_74, li_75, li_97, li_98, li_99, li_100, li_101, li_109, li_110, li_255, li_680, li_700, li_9999, li_65536, li_65537, h19]
      exact e1
    · rw [e5 u hu]
      unfold sA
      rw [sO_at, oA_a, upd_ne (by omega)]
theorem m_r11 : ∀ r t, t + r = 1650 → ∀ (m : Nat) (w w0 : Wd), r < m → (w 11 0).1 19 = nI 16 → (∀ u, u < t → (w 11 0).2.1 17 u = (w0 11 0).2.1 17 (u + 110)) → (∀ u, t ≤ u → (w 11 0).2.1 17 u = (w0 11 0).2.1 17 u) → ∃ w2 : Wd, fX11_remembers_11 nd m w (nI t) = fX11_remembers_51 nd fuel0 w2 (nI 0) ∧ SH w w2 ∧ (w2 11 0).1 19 = nI 15 ∧ ∀ u, u < 1650 → (w2 11 0).2.1 17 u = (w0 11 0).2.1 17 (u + 110) := by
  intro r
  induction r with
  | zero =>
    intro t ht m w w0 hm h19 hr hr2
    obtain ⟨m, rfl⟩ : ∃ z, m = z + 1 := ⟨m - 1, by omega⟩
    have e : t = 1650 := by omega
    subst e
    refine ⟨sI w 11 0 19 (nI 15), ?_, SH.i (by decide), sI_i, fun u hu => by rw [sI_2]; exact hr u hu⟩
    rw [fX11_remembers_11.eq_2]
    simp (disch := omega) only [↓mo_1, ↓mo_2, ad_m1, ite_m1_lt, ite_m2_lt, ite_le_m1, ite_eq_m1, ite_eq_m2, ite_m1_m1, ite_m2_m2, ite_T, ite_F, ite_nz, ite_zz, ite_m1_le, ite_m1_eq, oi_none, oi_some, ob_some, lw_def, ck_true, ckp_su, ite_lt_t, ite_lt_f, ite_le_t, ite_le_f, ite_eq_t, ite_eq_f, ck_inb, nI_add, sb_nI, mu_nI, nI_clamp, sO_at, sO_sO, Nat.add_sub_cancel, Nat.zero_add, Nat.add_zero, li_0, li_1, li_2, li_3, li_4, li_5, li_6, li_7, li_8, li_9, li_10, li_11, li_12, li_16, li_20, li_24, li_31, li_32, li_48, li_49, li_73, li_74, li_75, li_97, li_98, li_99, li_100, li_101, li_109, li_110, li_255, li_680, li_700, li_9999, li_65536, li_65537, li_1650, h19]
  | succ r ih =>
    intro t ht m w w0 hm h19 hr hr2
    obtain ⟨m, rfl⟩ : ∃ z, m = z + 1 := ⟨m - 1, by omega⟩
    obtain ⟨w2, e1, e2, e3, e4⟩ := ih (t + 1) (by omega) m (sA w 11 0 17 t ((w 11 0).2.1 17 (t + 110))) w0 (by omega) (by unfold sA; rw [sO_at]; exact h19) (fun u hu => by
      unfold sA
      rw [sO_at, oA_a]
      by_cases c : u = t
      · rw [c, upd_at]; exact hr2 _ (by omega)
      · rw [upd_ne c]; exact hr u (by omega)) (fun u hu => by
      unfold sA
      rw [sO_at, oA_a, upd_ne (by omega)]
      exact hr2 u (by omega))
    refine ⟨w2, ?_, (SH.a (by decide)).tr e2, e3, e4⟩
    rw [fX11_remembers_11.eq_2]
    simp (disch := omega) only [↓mo_1, ↓mo_2, ad_m1, ite_m1_lt, ite_m2_lt, ite_le_m1, ite_eq_m1, ite_eq_m2, ite_m1_m1, ite_m2_m2, ite_T, ite_F, ite_nz, ite_zz, ite_m1_le, ite_m1_eq, oi_none, oi_some, ob_some, lw_def, ck_true, ckp_su, ite_lt_t, ite_lt_f, ite_le_t, ite_le_f, ite_eq_t, ite_eq_f, ck_inb, nI_add, sb_nI, mu_nI, nI_clamp, sO_at, sO_sO, Nat.add_sub_cancel, Nat.zero_add, Nat.add_zero, li_0, li_1, li_2, li_3, li_4, li_5, li_6, li_7, li_8, li_9, li_10, li_11, li_12, li_16, li_20, li_24, li_31, li_32, li_48, li_49, li_73, li_74, li_75, li_97, li_98, li_99, li_100, li_101, li_109, li_110, li_255, li_680, li_700, li_9999, li_65536, li_65537, li_1650]
    exact e1
theorem m_remembers {w : Wd} (hD : WFD D) (hW : WFS D s) (h16 : h.1 ≤ 16) (hh : ∀ i, i < h.1 → WFS D (h.2 i)) (hd : d < nd) (hp : (w 11 0).2.2.1 3 = d + 1) (hRD : RDm (w 10 d) D) (hM : RM ((w 11 0).2.1 15) s) (h19 : (w 11 0).1 19 = nI h.1) (h17 : ∀ i, i < h.1 → RM (fun t => (w 11 0).2.1 17 (110 * i + t)) (h.2 i)) : ∃ (w2 : Wd) (g : Nat → Int32), fX11_remembers nd w = some ((), mX w2 g) ∧ RMs nd w2 D ∧ RM g s ∧ SH w w2 ∧ (w2 11 0).1 19 = nI (hpu h s).1 ∧ ∀ i, i < (hpu h s).1 → RM (fun t => (w2 11 0).2.1 17 (110 * i + t)) ((hpu h s).2 i) := by
  have hn := hW.n24 hD
  have hj := hW.j8 hD
  have fin : ∀ (w0 : Wd) (a : Nat), a < 16 → SH w w0 → (w0 11 0).1 19 = nI a → ∃ (w1 w2 : Wd) (g : Nat → Int32), fX11_remembers_51 nd fuel0 w0 (nI 0) = some ((), mX w2 g) ∧ RMs nd w2 D ∧ RM g s ∧ SH w w2 ∧ (w2 11 0).1 19 = nI (a + 1) ∧ (∀ u, u < 110 → (w2 11 0).2.1 17 (110 * a + u) = (w 11 0).2.1 15 u) ∧ ∀ u, u < 110 * a → (w2 11 0).2.1 17 u = (w0 11 0).2.1 17 u := by
    intro w0 a ha hs0 h0
    obtain ⟨w1, e1, e2, e3, e4, e5⟩ := m_r51 (nd := nd) ha 110 0 (by omega) fuel0 w0 (by unfold fuel0; omega) h0 (fun u hu => absurd hu (Nat.not_lt_zero u))
    have s1 := hs0.tr e2
    obtain ⟨w2, g, c1, c2, c3, c4, -⟩ := m_works (w := w1) hD hd (by rw [s1.2.1]; exact hp) (by rw [s1.1 10 d (by omega)]; exact hRD) hW (by rw [s1.2.2.2 15 (by decide)]; exact hM)
    refine ⟨w1, w2, g, ?_, c2, c3, s1.tr c4.sh, by rw [c4.2.2.1 19 (by decide)]; exact e3, fun u hu => ?_, fun u hu => ?_⟩
    · rw [e1, c1]; rfl
    · rw [c4.2.2.2 17 (by decide), e4 u hu, hs0.2.2.2 15 (by decide)]
    · rw [c4.2.2.2 17 (by decide), e5 u hu]
  unfold fX11_remembers
  by_cases e : h.1 = 16
  · rw [e] at h19
    obtain ⟨w0, q1, q2, q3, q4⟩ := m_r11 (nd := nd) 1650 0 (by omega) fuel0 w w (by unfold fuel0; omega) h19 (fun u hu => absurd hu (Nat.not_lt_zero u)) (fun u _ => rfl)
    obtain ⟨w1, w2, g, c1, c2, c3, c4, c5, c6, c7⟩ := fin w0 15 (by omega) q2 q3
    rw [hpu_16 e]
    refine ⟨w2, g, ?_, c2, c3, c4, c5, fun i hi => ?_⟩
    · simp (disch := omega) only [↓mo_1, ↓mo_2, ad_m1, ite_m1_lt, ite_m2_lt, ite_le_m1, ite_eq_m1, ite_eq_m2, ite_m1_m1, ite_m2_m2, ite_T, ite_F, ite_nz, ite_zz, ite_m1_le, ite_m1_eq, oi_none, oi_some, ob_some, lw_def, ck_true, ckp_su, ite_lt_t, ite_lt_f, ite_le_t, ite_le_f, ite_eq_t, ite_eq_f, ck_inb, nI_add, sb_nI, mu_nI, nI_clamp, sO_at, sO_sO, Nat.add_sub_cancel, Nat.zero_add, Nat.add_zero, li_0, li_1, li_2, li_3, li_4, li_5, li_6, li_7, li_8, li_9, li_10, li_11, li_12, li_16, li_20, li_24, li_31, li_32, li_48, li_49, li_73, li_74, li_75, li_97, li_98, li_99, li_100, li_101, li_109, li_110, li_255, li_680, li_700, li_9999, li_65536, li_65537, h19]
      rw [q1]
      exact c1
    · have hi' : i < 16 := hi
      show RM (fun t => (w2 11 0).2.1 17 (110 * i + t)) (if i < 15 then h.2 (i + 1) else s)
      by_cases c : i < 15
      · rw [if_pos c]
        have hw := hh (i + 1) (by omega)
        refine (h17 (i + 1) (by omega)).cg (hw.n24 hD) (hw.j8 hD) (fun t ht => ?_)
        show (w2 11 0).2.1 17 (110 * i + t) = (w 11 0).2.1 17 (110 * (i + 1) + t)
        rw [c7 _ (by omega), q4 _ (by omega), show 110 * i + t + 110 = 110 * (i + 1) + t by omega]
      · rw [if_neg c, show i = 15 by omega]
        exact hM.cg hn hj (fun t ht => c6 t ht)
  · obtain ⟨w1, w2, g, c1, c2, c3, c4, c5, c6, c7⟩ := fin w h.1 (by omega) SH.rf h19
    rw [hpu_n e]
    refine ⟨w2, g, ?_, c2, c3, c4, c5, fun i hi => ?_⟩
    · simp (disch := omega) only [↓mo_1, ↓mo_2, ad_m1, ite_m1_lt, ite_m2_lt, ite_le_m1, ite_eq_m1, ite_eq_m2, ite_m1_m1, ite_m2_m2, ite_T, ite_F, ite_nz, ite_zz, ite_m1_le, ite_m1_eq, oi_none, oi_some, ob_some, lw_def, ck_true, ckp_su, ite_lt_t, ite_lt_f, ite_le_t, ite_le_f, ite_eq_t, ite_eq_f, ck_inb, nI_add, sb_nI, mu_nI, nI_clamp, sO_at, sO_sO, Nat.add_sub_cancel, Nat.zero_add, Nat.add_zero, li_0, li_1, li_2, li_3, li_4, li_5, li_6, li_7, li_8, li_9, li_10, li_11, li_12, li_16, li_20, li_24, li_31, li_32, li_48, li_49, li_73, li_74, li_75, li_97, li_98, li_99, li_100, li_101, li_109, li_110, li_255, li_680, li_700, li_9999, li_65536, li_65537, h19]
      exact c1
    · have hi' : i < h.1 + 1 := hi
      show RM (fun t => (w2 11 0).2.1 17 (110 * i + t)) (va_up h.2 h.1 s i)
      by_cases c : i = h.1
      · rw [c, va_up_self]
        exact hM.cg hn hj (fun t ht => c6 t ht)
      · rw [va_up_ne _ _ c]
        have hw := hh i (by omega)
        refine (h17 i (by omega)).cg (hw.n24 hD) (hw.j8 hD) (fun t ht => ?_)
        exact c7 _ (by omega)
theorem m_rm {g : Nat → Int32} : ∀ r t, t + r = 110 → ∀ (m : Nat) (w : Wd), r < m → (w 11 0).2.1 16 = g → (∀ u, u < t → (w 11 0).2.1 15 u = g u) → ∃ w2 : Wd, fX11_remains_2 nd m w (nI t) = some ((), w2) ∧ (∀ u, u < 110 → (w2 11 0).2.1 15 u = g u) ∧ (∀ c i, ¬ (c = 11 ∧ i = 0) → w2 c i = w c i) ∧ (w2 11 0).2.2.1 = (w 11 0).2.2.1 ∧ (w2 11 0).1 = (w 11 0).1 ∧ ∀ k, k ≠ 15 → (w2 11 0).2.1 k = (w 11 0).2.1 k := by
  intro r
  induction r with
  | zero =>
    intro t ht m w hm hg hr
    obtain ⟨m, rfl⟩ : ∃ z, m = z + 1 := ⟨m - 1, by omega⟩
    have e : t = 110 := by omega
    subst e
    refine ⟨w, ?_, hr, fun _ _ _ => rfl, rfl, rfl, fun _ _ => rfl⟩
    rw [fX11_remains_2.eq_2]
    simp (disch := omega) only [↓mo_1, ↓mo_2, ad_m1, ite_m1_lt, ite_m2_lt, ite_le_m1, ite_eq_m1, ite_eq_m2, ite_m1_m1, ite_m2_m2, ite_T, ite_F, ite_nz, ite_zz, ite_m1_le, ite_m1_eq, oi_none, oi_some, ob_some, lw_def, ck_true, ckp_su, ite_lt_t, ite_lt_f, ite_le_t, ite_le_f, ite_eq_t, ite_eq_f, ck_inb, nI_add, sb_nI, mu_nI, nI_clamp, sO_at, sO_sO, Nat.add_sub_cancel, Nat.zero_add, Nat.add_zero, li_0, li_1, li_2, li_3, li_4, li_5, li_6, li_7, li_8, li_9, li_10, li_11, li_12, li_16, li_20, li_24, li_31, li_32, li_48, li_49, li_73, li_74, li_75, li_97, li_98, li_99, li_100, li_101, li_109, li_110, li_255, li_680, li_700, li_9999, li_65536, li_65537]
  | succ r ih =>
    intro t ht m w hm hg hr
    obtain ⟨m, rfl⟩ : ∃ z, m = z + 1 := ⟨m - 1, by omega⟩
    obtain ⟨w2, e1, e2, e3, e4, e5, e6⟩ := ih (t + 1) (by omega) m (sA w 11 0 15 t (g t)) (by omega) (by unfold sA; rw [sO_at, oA_n (by decide)]; exact hg) (fun u hu => by
      unfold sA
      rw [sO_at, oA_a]
      by_cases c : u = t
      · rw [c, upd_at]
      · rw [upd_ne c]; exact hr u (by omega))
    refine ⟨w2, ?_, e2, fun c i z => (e3 c i z).trans (sO_ne z), by rw [e4]; unfold sA; rw [sO_at]; rfl, by rw [e5]; unfold sA; rw [sO_at]; rfl, fun k hk => by rw [e6 k hk]; unfold sA; rw [sO_at, oA_n hk]⟩
    rw [fX11_remains_2.eq_2]
    simp (disch := omega) only [↓mo_1, ↓mo_2, ad_m1, ite_m1_lt, ite_m2_lt, ite_le_m1, ite_eq_m1, ite_eq_m2, ite_m1_m1, ite_m2_m2, ite_T, ite_F, ite_nz, ite_zz, ite_m1_le, ite_m1_eq, oi_none, oi_some, ob_some, lw_def, ck_true, ckp_su, ite_lt_t, ite_lt_f, ite_le_t, ite_le_f, ite_eq_t, ite_eq_f, ck_inb, nI_add, sb_nI, mu_nI, nI_clamp, sO_at, sO_sO, Nat.add_sub_cancel, Nat.zero_add, Nat.add_zero, li_0, li_1, li_2, li_3, li_4, li_5, li_6, li_7, li_8, li_9, li_10, li_11, li_12, li_16, li_20, li_24, li_31, li_32, li_48, li_49, li_73, li_74, li_75, li_97, li_98, li_99, li_100, li_101, li_109, li_110, li_255, li_680, li_700, li_9999, li_65536, li_65537, hg]
    exact e1
/-- done(v): what was worked on remains -/
theorem m_done {w : Wd} {g : Nat → Int32} {v : Int32} : ∃ w2 : Wd, fX11_done nd (mX w g) v = some (v, mT w2 (nI 0)) ∧ (∀ u, u < 110 → (w2 11 0).2.1 15 u = g u) ∧ (∀ c i, ¬ (c = 11 ∧ i = 0) → w2 c i = w c i) ∧ (w2 11 0).2.2.1 = (w 11 0).2.2.1 ∧ (w2 11 0).1 = (w 11 0).1 ∧ ∀ k, k ≠ 15 → k ≠ 16 → (w2 11 0).2.1 k = (w 11 0).2.1 k := by
  obtain ⟨w2, e1, e2, e3, e4, e5, e6⟩ := m_rm (nd := nd) (g := g) 110 0 (by omega) fuel0 (mX w g) (by unfold fuel0; omega) mX_x (fun u hu => absurd hu (Nat.not_lt_zero u))
  have e1' : fX11_remains nd (mX w g) = some ((), w2) := e1
  refine ⟨w2, ?_, e2, fun c i z => (e3 c i z).trans (sO_ne z), by rw [e4, mX_p], by rw [e5, mX_i], fun k h1 h2 => by rw [e6 k h1, mX_r h2]⟩
  unfold fX11_done
  simp (disch := omega) only [↓mo_1, ↓mo_2, ad_m1, ite_m1_lt, ite_m2_lt, ite_le_m1, ite_eq_m1, ite_eq_m2, ite_m1_m1, ite_m2_m2, ite_T, ite_F, ite_nz, ite_zz, ite_m1_le, ite_m1_eq, oi_none, oi_some, ob_some, lw_def, ck_true, ckp_su, ite_lt_t, ite_lt_f, ite_le_t, ite_le_f, ite_eq_t, ite_eq_f, ck_inb, nI_add, sb_nI, mu_nI, nI_clamp, sO_at, sO_sO, Nat.add_sub_cancel, Nat.zero_add, Nat.add_zero, li_0, li_1, li_2, li_3, li_4, li_5, li_6, li_7, li_8, li_9, li_10, li_11, li_12, li_16, li_20, li_24, li_31, li_32, li_48, li_49, li_73, li_74, li_75, li_97, li_98, li_99, li_100, li_101, li_109, li_110, li_255, li_680, li_700, li_9999, li_65536, li_65537, e1', m_good]
/-- an act of the reference: remembered, worked, done -/
theorem m_act {w w3 : Wd} {g : Nat → Int32} {v : Int32} {s2 : Sd} (hD : WFD D) (hW2 : WFS D s2) (hM : MD nd w (some (D, T, s, h, im))) (hs : SH w w3) (h19 : (w3 11 0).1 19 = nI (hpu h s).1) (h17 : ∀ i, i < (hpu h s).1 → RM (fun t => (w3 11 0).2.1 17 (110 * i + t)) ((hpu h s).2 i)) (hg : RM g s2) : ∃ w2 : Wd, fX11_done nd (mX w3 g) v = some (v, mT w2 (nI 0)) ∧ MA w w2 ∧ MD nd w2 (some (D, T, s2, hpu h s, im)) := by
  obtain ⟨w2, e1, e2, e3, e4, e5, e6⟩ := m_done (nd := nd) (w := w3) (g := g) (v := v)
  obtain ⟨d, b1, b2, b3, b4, b5, b6, b7, b8, b9⟩ := hM
  refine ⟨w2, e1, ⟨by rw [e5, hs.2.2.1 6 (by decide)], by rw [e5, hs.2.2.1 12 (by decide)], by rw [e6 5 (by decide) (by decide), hs.2.2.2 5 (by decide)], fun c j _ hc => by rw [e3 c j (by omega), hs.1 c j (by omega)]⟩, ?_⟩
  have e10 : w2 10 d = w 10 d := by rw [e3 10 d (by omega), hs.1 10 d (by omega)]
  refine ⟨d, by rw [e4, hs.2.1]; exact b1, b2, by rw [e10]; exact b3, by rw [e10]; exact b4, hg.cg (hW2.n24 hD) (hW2.j8 hD) e2, by rw [e5]; exact h19, by rw [e6 17 (by decide) (by decide)]; exact h17, by rw [e5, hs.2.2.1 20 (by decide)]; exact b8, by rw [e6 18 (by decide) (by decide), hs.2.2.2 18 (by decide)]; exact b9⟩
end REM
