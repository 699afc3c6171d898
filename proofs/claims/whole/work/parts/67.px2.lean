/-! ===== the lines of a text: band and disk, the class ===== -/
def adD (D : Dk) (v : Nat) : Dk := (D.1 + 1, va_up D.2.1 D.1 v, D.2.2)
theorem dfst_cg {s1 s2 : Nat → Nat} : ∀ {k : Nat}, (∀ b, b < k → s1 b = s2 b) → dfst s1 k = dfst s2 k
  | 0, _ => rfl
  | k + 1, h => by
    show dfst s1 k + s1 k = dfst s2 k + s2 k
    rw [dfst_cg (fun b hb => h b (by omega)), h k (by omega)]
theorem boR_cg {s1 s2 : Nat → Nat} {t : Nat} : ∀ {k : Nat}, (∀ b, b < k → s1 b = s2 b) → boR s1 t k = boR s2 t k
  | 0, _ => rfl
  | k + 1, h => by
    show (if dfst s1 k ≤ t then k else boR s1 t k) = (if dfst s2 k ≤ t then k else boR s2 t k)
    rw [dfst_cg (k := k) (fun b hb => h b (by omega)), boR_cg (k := k) (fun b hb => h b (by omega))]
theorem RSh.up {o : Ob} {D : Dk} {v : Nat} (h : RSh o D) : RSh o (D.1, va_up D.2.1 D.1 v, D.2.2) := by
  obtain ⟨h1, h2, h3, h4, h5⟩ := h
  have e : ∀ k, k ≤ D.1 → dfst (va_up D.2.1 D.1 v) k = dfst D.2.1 k := fun k hk => dfst_cg (fun b hb => va_up_ne _ _ (by omega))
  have e2 : ∀ t, boR (va_up D.2.1 D.1 v) t D.1 = boR D.2.1 t D.1 := fun t => boR_cg (fun b hb => va_up_ne _ _ (by omega))
  refine ⟨fun b hb => ?_, fun t ht => ?_, h3, ?_, h5⟩
  · have hb : b < D.1 := hb
    show _ = nI (dfst (va_up D.2.1 D.1 v) b) ∧ _ = nI (va_up D.2.1 D.1 v b)
    rw [e b (by omega), va_up_ne _ _ (by omega)]
    exact h1 b hb
  · show _ = nI (boR (va_up D.2.1 D.1 v) t D.1)
    rw [e2 t]
    exact h2 t (by show t < dfst D.2.1 D.1; rw [← e D.1 (Nat.le_refl _)]; exact ht)
  · show _ = nI (dfst (va_up D.2.1 D.1 v) D.1)
    rw [e D.1 (Nat.le_refl _)]
    exact h4
theorem ad_dnt {D : Dk} {v : Nat} : dnt (adD D v) = dnt D + v := by
  show dfst (va_up D.2.1 D.1 v) D.1 + va_up D.2.1 D.1 v D.1 = dfst D.2.1 D.1 + v
  rw [va_up_self, dfst_cg (fun b hb => va_up_ne _ _ (by omega))]
/-- a whole between bounds -/
def whS (X : Tx) (lo hi p : Nat) : (Nat × Nat) ⊕ (Nat × Nat) :=
  if (tk X p).1 = 2 then
    if lo ≤ vlT X (tk X p) ∧ vlT X (tk X p) ≤ hi then .inr (vlT X (tk X p), nx X p) else .inl (4, (tk X p).2.1)
  else .inl (1, (tk X p).2.1)
def bnS (X : Tx) (ov nb p : Nat) : (Nat × Nat) ⊕ (Nat × Nat) :=
  if 0 < ov then if nb < 6 then whS X 2 8 (nx X p) else .inl (5, (tk X p).2.1) else .inl (6, (tk X p).2.1)
def dkE (X : Tx) (v2 v4 p : Nat) : (Nat × Nat) ⊕ (Nat × Nat × Bool × Nat) :=
  if iwS X (tk X p) 8 = true then .inr (v2, v4, true, nx X p) else if iwS X (tk X p) 9 = true then .inr (v2, v4, false, nx X p) else .inl (1, (tk X p).2.1)
def dkL (X : Tx) (v2 p : Nat) : (Nat × Nat) ⊕ (Nat × Nat × Bool × Nat) :=
  if iwS X (tk X p) 7 = true then match whS X 2 24 (nx X p) with
    | .inl z => .inl z
    | .inr z => dkE X v2 z.1 z.2
  else .inl (1, (tk X p).2.1)
def dkO (X : Tx) (p : Nat) : (Nat × Nat) ⊕ (Nat × Nat × Bool × Nat) :=
  if iwS X (tk X p) 6 = true then match whS X 1 3 (nx X p) with
    | .inl z => .inl z
    | .inr z => dkL X z.1 z.2
  else .inl (1, (tk X p).2.1)
def dkS (X : Tx) (ov p : Nat) : (Nat × Nat) ⊕ (Nat × Nat × Bool × Nat) := if 0 < ov then .inl (3, (tk X p).2.1) else dkO X (nx X p)
theorem wh_r {X : Tx} {lo hi p v p2 : Nat} (h : whS X lo hi p = .inr (v, p2)) : (tk X p).1 = 2 ∧ lo ≤ v ∧ v ≤ hi ∧ v = vlT X (tk X p) ∧ p2 = nx X p := by
  unfold whS at h
  by_cases c : (tk X p).1 = 2
  · rw [if_pos c] at h
    by_cases d : lo ≤ vlT X (tk X p) ∧ vlT X (tk X p) ≤ hi
    · rw [if_pos d] at h
      cases h
      exact ⟨c, d.1, d.2, rfl, rfl⟩
    · rw [if_neg d] at h
      cases h
  · rw [if_neg c] at h
    cases h
section PX2
variable {w w2 : Wd} {X : Tx} {D : Dk} {T : Tk} {p q : Nat}
theorem x_wS (hX : TxO X) (hE : XE w X) {lo hi : Nat} (hp : p ≤ X.1) (hT : XT w (tk X p)) (hlo : lo < 2 ^ 31) (hhi : hi < 2 ^ 31) : match whS X lo hi p with
    | .inl (f, pl) => ∃ w2 : Wd, fX4_takeWhole w (nI lo) (nI hi) = some (nI 0, w2) ∧ S49 w w2 ∧ (w2 4 0).1 8 = nI f ∧ (w2 4 0).1 9 = nI pl
    | .inr (v, p2) => ∃ w2 : Wd, fX4_takeWhole w (nI lo) (nI hi) = some (nI 1, w2) ∧ S4 w w2 ∧ XT w2 (tk X p2) ∧ (w2 4 0).1 7 = nI v := by
  obtain ⟨g1, g2, g3⟩ := x_wh hX hE hp hT hlo hhi
  unfold whS
  by_cases c : (tk X p).1 = 2
  · rw [if_pos c]
    by_cases d : lo ≤ vlT X (tk X p) ∧ vlT X (tk X p) ≤ hi
    · rw [if_pos d]
      exact g1 ⟨c, d.1, d.2⟩
    · rw [if_neg d]
      exact g2 ⟨c, d⟩
  · rw [if_neg c]
    exact g3 c
theorem x_band (hX : TxO X) (hp : p ≤ X.1) (hq : q < 2) (h : PX w q X D T (tk X p)) (h6 : D.1 ≤ 6) (h48 : D.1 < 6 → dnt D ≤ 40) : match bnS X D.2.2.1 D.1 p with
    | .inl (f, pl) => ∃ w2 : Wd, fX4_takeBand w = some (nI 0, w2) ∧ S49 w w2 ∧ (w2 4 0).1 8 = nI f ∧ (w2 4 0).1 9 = nI pl
    | .inr (v, p2) => ∃ (w2 : Wd) (o2 : Ob), fX4_takeBand w = some (nI 1, sO w2 5 q o2) ∧ S4 w w2 ∧ XT w2 (tk X p2) ∧ RSh o2 (adD D v) := by
  have h3 := h.2.2.2.2.1.2.2.1
  have hptr := h.2.2.1
  unfold bnS
  by_cases c1 : 0 < D.2.2.1
  · rw [if_pos c1]
    by_cases c2 : D.1 < 6
    · rw [if_pos c2]
      obtain ⟨w4, a1, a2, a3⟩ := x_fw1 hX hp h c1
      have g := x_wS (lo := 2) (hi := 8) hX a3.1 (nx_le hp) a3.2.1 (by omega) (by omega)
      cases e : whS X 2 8 (nx X p) with
      | inl z =>
        obtain ⟨f, pl⟩ := z
        rw [e] at g
        obtain ⟨w8, b1, b2, b3, b4⟩ := g
        refine ⟨w8, ?_, a2.s.tr b2, b3, b4⟩
        unfold fX4_takeBand fX4_takeBand_21
        simp (disch := omega) only [↓mo_1, ↓mo_2, ad_m1, ite_m1_lt, ite_m2_lt, ite_le_m1, ite_eq_m1, ite_eq_m2, ite_m1_m1, ite_m2_m2, ite_T, ite_F, ite_nz, ite_zz, ite_m1_le, ite_m1_eq, oi_none, oi_some, ob_some, lw_def, ck_true, ckp_su, ite_lt_t, ite_lt_f, ite_le_t, ite_le_f, ite_eq_t, ite_eq_f, ck_inb, nI_add, sb_nI, mu_nI, nI_clamp, sO_at, sO_sO, Nat.add_sub_cancel, Nat.zero_add, Nat.add_zero, li_0, li_1, li_2, li_3, li_4, li_5, li_6, li_7, li_8, li_9, li_10, li_11, li_12, li_16, li_20, li_24, li_31, li_32, li_48, li_49, li_73, li_74, li_75, li_97, li_98, li_99, li_100, li_101, li_109, li_110, li_255, li_680, li_700, li_9999, li_65536, li_65537, hptr, h3, a1, b1]
      | inr z =>
        obtain ⟨v, p2⟩ := z
        rw [e] at g
        obtain ⟨w8, b1, b2, b3, b4⟩ := g
        obtain ⟨-, d2, d3, -, -⟩ := wh_r e
        have s8 := a2.tr b2
        have hsh : RSh (w8 5 q) D := by rw [s8.1 5 q (by omega)]; exact h.2.2.2.2.1
        have hp8 : (w8 4 0).2.2.1 2 = q + 1 := by rw [s8.2.1]; exact hptr
        have h49 : dfst (va_up D.2.1 D.1 v) (D.1 + 1) ≤ 48 := by
          have := ad_dnt (D := D) (v := v)
          have h9 := h48 c2
          show dnt (adD D v) ≤ 48
          omega
        obtain ⟨o2, k1, k2⟩ := x_addBand (w := w8) (j := q) (o := w8 5 q) (k := D.1) (sz := va_up D.2.1 D.1 v) (R := D.2.2) hsh.up (by omega) h49
        rw [va_up_self, sO_id] at k1
        refine ⟨w8, o2, ?_, s8, b3, k2⟩
        unfold fX4_takeBand fX4_takeBand_21
        simp (disch := omega) only [↓mo_1, ↓mo_2, ad_m1, ite_m1_lt, ite_m2_lt, ite_le_m1, ite_eq_m1, ite_eq_m2, ite_m1_m1, ite_m2_m2, ite_T, ite_F, ite_nz, ite_zz, ite_m1_le, ite_m1_eq, oi_none, oi_some, ob_some, lw_def, ck_true, ckp_su, ite_lt_t, ite_lt_f, ite_le_t, ite_le_f, ite_eq_t, ite_eq_f, ck_inb, nI_add, sb_nI, mu_nI, nI_clamp, sO_at, sO_sO, Nat.add_sub_cancel, Nat.zero_add, Nat.add_zero, li_0, li_1, li_2, li_3, li_4, li_5, li_6, li_7, li_8, li_9, li_10, li_11, li_12, li_16, li_20, li_24, li_31, li_32, li_48, li_49, li_73, li_74, li_75, li_97, li_98, li_99, li_100, li_101, li_109, li_110, li_255, li_680, li_700, li_9999, li_65536, li_65537, hptr, h3, a1, b1, hp8, b4, k1]
    · rw [if_neg c2]
      obtain ⟨w4, a1, a2, a3, a4⟩ := x_fw5 h c1
      refine ⟨w4, ?_, a2, a3, a4⟩
      unfold fX4_takeBand fX4_takeBand_21
      simp (disch := omega) only [↓mo_1, ↓mo_2, ad_m1, ite_m1_lt, ite_m2_lt, ite_le_m1, ite_eq_m1, ite_eq_m2, ite_m1_m1, ite_m2_m2, ite_T, ite_F, ite_nz, ite_zz, ite_m1_le, ite_m1_eq, oi_none, oi_some, ob_some, lw_def, ck_true, ckp_su, ite_lt_t, ite_lt_f, ite_le_t, ite_le_f, ite_eq_t, ite_eq_f, ck_inb, nI_add, sb_nI, mu_nI, nI_clamp, sO_at, sO_sO, Nat.add_sub_cancel, Nat.zero_add, Nat.add_zero, li_0, li_1, li_2, li_3, li_4, li_5, li_6, li_7, li_8, li_9, li_10, li_11, li_12, li_16, li_20, li_24, li_31, li_32, li_48, li_49, li_73, li_74, li_75, li_97, li_98, li_99, li_100, li_101, li_109, li_110, li_255, li_680, li_700, li_9999, li_65536, li_65537, hptr, h3, a1]
  · rw [if_neg c1]
    obtain ⟨w4, a1, a2, a3, a4⟩ := x_fw6 (r := nI 1) h c1
    obtain ⟨w5, b1, b2, b3, b4⟩ := x_fw6 (r := nI 0) h c1
    by_cases c2 : D.1 < 6
    · refine ⟨w4, ?_, a2, a3, a4⟩
      unfold fX4_takeBand fX4_takeBand_21
      simp (disch := omega) only [↓mo_1, ↓mo_2, ad_m1, ite_m1_lt, ite_m2_lt, ite_le_m1, ite_eq_m1, ite_eq_m2, ite_m1_m1, ite_m2_m2, ite_T, ite_F, ite_nz, ite_zz, ite_m1_le, ite_m1_eq, oi_none, oi_some, ob_some, lw_def, ck_true, ckp_su, ite_lt_t, ite_lt_f, ite_le_t, ite_le_f, ite_eq_t, ite_eq_f, ck_inb, nI_add, sb_nI, mu_nI, nI_clamp, sO_at, sO_sO, Nat.add_sub_cancel, Nat.zero_add, Nat.add_zero, li_0, li_1, li_2, li_3, li_4, li_5, li_6, li_7, li_8, li_9, li_10, li_11, li_12, li_16, li_20, li_24, li_31, li_32, li_48, li_49, li_73, li_74, li_75, li_97, li_98, li_99, li_100, li_101, li_109, li_110, li_255, li_680, li_700, li_9999, li_65536, li_65537, hptr, h3, a1]
    · refine ⟨w5, ?_, b2, b3, b4⟩
      unfold fX4_takeBand fX4_takeBand_21
      simp (disch := omega) only [↓mo_1, ↓mo_2, ad_m1, ite_m1_lt, ite_m2_lt, ite_le_m1, ite_eq_m1, ite_eq_m2, ite_m1_m1, ite_m2_m2, ite_T, ite_F, ite_nz, ite_zz, ite_m1_le, ite_m1_eq, oi_none, oi_some, ob_some, lw_def, ck_true, ckp_su, ite_lt_t, ite_lt_f, ite_le_t, ite_le_f, ite_eq_t, ite_eq_f, ck_inb, nI_add, sb_nI, mu_nI, nI_clamp, sO_at, sO_sO, Nat.add_sub_cancel, Nat.zero_add, Nat.add_zero, li_0, li_1, li_2, li_3, li_4, li_5, li_6, li_7, li_8, li_9, li_10, li_11, li_12, li_16, li_20, li_24, li_31, li_32, li_48, li_49, li_73, li_74, li_75, li_97, li_98, li_99, li_100, li_101, li_109, li_110, li_255, li_680, li_700, li_9999, li_65536, li_65537, hptr, h3, b1]
/-- inside the line of the disk -/
def PY (w0 w : Wd) (q : Nat) (X : Tx) (t : Tt) : Prop := XE w X ∧ XT w t ∧ (w 4 0).2.2.1 2 = q + 1 ∧ (w 4 0).1 3 = nI 1 ∧ ((w 4 0).1 8 = (w0 4 0).1 8 ∧ (w 4 0).1 9 = (w0 4 0).1 9) ∧ ∀ c i, ¬ (c = 4 ∧ i = 0) → ¬ (c = 5 ∧ i = q) → w c i = w0 c i
theorem PY.s4 {w0 : Wd} {t t2 : Tt} (h : PY w0 w q X t) (hs : S4 w w2) (ht : XT w2 t2) : PY w0 w2 q X t2 := by
  obtain ⟨h1, h2, h3, h4, h5, h6⟩ := h
  refine ⟨h1.s4 hs, ht, by rw [hs.2.1]; exact h3, by rw [hs.2.2 3 (by decide) (by decide) (by decide) (by decide)]; exact h4, ⟨by rw [hs.2.2 8 (by decide) (by decide) (by decide) (by decide)]; exact h5.1, by rw [hs.2.2 9 (by decide) (by decide) (by decide) (by decide)]; exact h5.2⟩, fun c i a b => (hs.1 c i a).trans (h6 c i a b)⟩
theorem PY.s5 {w0 : Wd} {t : Tt} {k : Nat} {v : Int32} (h : PY w0 w q X t) : PY w0 (sI w 5 q k v) q X t := by
  obtain ⟨h1, h2, h3, h4, h5, h6⟩ := h
  have e4 : sI w 5 q k v 4 0 = w 4 0 := sI_nc (by decide)
  have e9 : sI w 5 q k v 9 0 = w 9 0 := sI_nc (by decide)
  refine ⟨⟨by rw [e4]; exact h1.1, by rw [e9]; exact h1.2⟩, ⟨by rw [e4]; exact h2.1, by rw [e4]; exact h2.2.1, by rw [e4]; exact h2.2.2⟩, by rw [e4]; exact h3, by rw [e4]; exact h4, by rw [e4]; exact h5, fun c i a b => ?_⟩
  unfold sI
  rw [sO_ne b]
  exact h6 c i a b
theorem PY.xf {w0 : Wd} {t : Tt} (h : PY w0 w q X t) : XF q w0 w := fun c i a b _ => h.2.2.2.2.2 c i a b
theorem x_disk (hX : TxO X) (hp : p ≤ X.1) (hq : q < 2) (h : PX w q X D T (tk X p)) : match dkS X D.2.2.1 p with
    | .inl (f, pl) => ∃ w2 : Wd, fX4_takeDisk w = some (nI 0, w2) ∧ XB w w2 q f pl
    | .inr (v2, v4, b, p6) => ∃ w2 : Wd, fX4_takeDisk w = some (nI 1, w2) ∧ XG w w2 q X (D.1, D.2.1, v2, v4, b) T p6 := by
  have h3 := h.2.2.2.1
  unfold dkS
  by_cases c1 : 0 < D.2.2.1
  · rw [if_pos c1]
    rw [decide_eq_true c1, b2i_t] at h3
    obtain ⟨w4, a1, a2, a3, a4⟩ := x_stopAt (w := w) (f := nI 3) (pl := nI (tk X p).2.1)
    refine ⟨w4, ?_, a2.xf, a3, a4⟩
    unfold fX4_takeDisk
    simp (disch := omega) only [↓mo_1, ↓mo_2, ad_m1, ite_m1_lt, ite_m2_lt, ite_le_m1, ite_eq_m1, ite_eq_m2, ite_m1_m1, ite_m2_m2, ite_T, ite_F, ite_nz, ite_zz, ite_m1_le, ite_m1_eq, oi_none, oi_some, ob_some, lw_def, ck_true, ckp_su, ite_lt_t, ite_lt_f, ite_le_t, ite_le_f, ite_eq_t, ite_eq_f, ck_inb, nI_add, sb_nI, mu_nI, nI_clamp, sO_at, sO_sO, Nat.add_sub_cancel, Nat.zero_add, Nat.add_zero, li_0, li_1, li_2, li_3, li_4, li_5, li_6, li_7, li_8, li_9, li_10, li_11, li_12, li_16, li_20, li_24, li_31, li_32, li_48, li_49, li_73, li_74, li_75, li_97, li_98, li_99, li_100, li_101, li_109, li_110, li_255, li_680, li_700, li_9999, li_65536, li_65537, h3, h.2.1.2.1, a1, isb_0]
  · rw [if_neg c1]
    rw [decide_eq_false c1, b2i_f] at h3
    have p1 := nx_le hp
    have e4 : ∀ {k : Nat}, k ≠ 3 → (sI w 4 0 3 (nI 1) 4 0).1 k = (w 4 0).1 k := fun hk => sI_n hk
    have e9 : sI w 4 0 3 (nI 1) 9 0 = w 9 0 := sI_nc (by decide)
    have y0 : PY w (sI w 4 0 3 (nI 1)) q X (tk X p) := ⟨⟨by rw [e4 (by decide)]; exact h.1.1, by rw [e9]; exact h.1.2⟩, ⟨by rw [e4 (by decide)]; exact h.2.1.1, by rw [e4 (by decide)]; exact h.2.1.2.1, by rw [e4 (by decide)]; exact h.2.1.2.2⟩, by rw [sI_2]; exact h.2.2.1, sI_i, ⟨e4 (by decide), e4 (by decide)⟩, fun c i a _ => sO_ne a⟩
    have k0 : sI w 4 0 3 (nI 1) 5 q = w 5 q := sI_nc (by decide)
    generalize hw2 : sI w 4 0 3 (nI 1) = w2 at *
    obtain ⟨w4, a1, a2, a3, -⟩ := x_moveOn hX y0.1 p1 y0.2.1.2.2
    have y4 := y0.s4 a2 a3
    have k4 : w4 5 q = w 5 q := (a2.1 5 q (by omega)).trans k0
    unfold dkO
    by_cases c2 : iwS X (tk X (nx X p)) 6 = true
    · rw [if_pos c2]
      obtain ⟨w6, b1, b2, b3⟩ := x_tw1 hX y4.1 p1 (by omega) y4.2.1 c2
      have y6 := y4.s4 b2 b3
      have p2 := nx_le p1
      have k6 : w6 5 q = w 5 q := (b2.1 5 q (by omega)).trans k4
      have g := x_wS (lo := 1) (hi := 3) hX y6.1 p2 y6.2.1 (by omega) (by omega)
      cases e : whS X 1 3 (nx X (nx X p)) with
      | inl z =>
        obtain ⟨f, pl⟩ := z
        rw [e] at g
        obtain ⟨w8, d1, d2, d3, d4⟩ := g
        refine ⟨w8, ?_, y6.xf.tr d2.xf, d3, d4⟩
        unfold fX4_takeDisk
        simp (disch := omega) only [↓mo_1, ↓mo_2, ad_m1, ite_m1_lt, ite_m2_lt, ite_le_m1, ite_eq_m1, ite_eq_m2, ite_m1_m1, ite_m2_m2, ite_T, ite_F, ite_nz, ite_zz, ite_m1_le, ite_m1_eq, oi_none, oi_some, ob_some, lw_def, ck_true, ckp_su, ite_lt_t, ite_lt_f, ite_le_t, ite_le_f, ite_eq_t, ite_eq_f, ck_inb, nI_add, sb_nI, mu_nI, nI_clamp, sO_at, sO_sO, Nat.add_sub_cancel, Nat.zero_add, Nat.add_zero, li_0, li_1, li_2, li_3, li_4, li_5, li_6, li_7, li_8, li_9, li_10, li_11, li_12, li_16, li_20, li_24, li_31, li_32, li_48, li_49, li_73, li_74, li_75, li_97, li_98, li_99, li_100, li_101, li_109, li_110, li_255, li_680, li_700, li_9999, li_65536, li_65537, h3, hw2, a1, b1, d1]
      | inr z =>
        obtain ⟨v2, p3'⟩ := z
        rw [e] at g
        obtain ⟨w9, d1, d2, d3, d4⟩ := g
        obtain ⟨-, f1, f2, -, f3⟩ := wh_r e
        have p3 : p3' ≤ X.1 := by rw [f3]; exact nx_le p2
        have y9 := y6.s4 d2 d3
        have q9 := y9.2.2.1
        have k9 : w9 5 q = w 5 q := (d2.1 5 q (by omega)).trans k6
        have y12 : PY w (sI w9 5 q 5 (nI v2)) q X (tk X p3') := y9.s5
        have k12 : sI w9 5 q 5 (nI v2) 5 q = oI (w 5 q) 5 (nI v2) := by unfold sI; rw [sO_at, k9]
        generalize hw12 : sI w9 5 q 5 (nI v2) = w12 at *
        show match dkL X v2 p3' with
          | .inl (f, pl) => _
          | .inr (v2, v4, b, p6) => _
        unfold dkL
        by_cases c3 : iwS X (tk X p3') 7 = true
        · rw [if_pos c3]
          obtain ⟨w14, g1, g2, g3⟩ := x_tw1 hX y12.1 p3 (by omega) y12.2.1 c3
          have y14 := y12.s4 g2 g3
          have p4 := nx_le p3
          have k14 : w14 5 q = oI (w 5 q) 5 (nI v2) := (g2.1 5 q (by omega)).trans k12
          have gg := x_wS (lo := 2) (hi := 24) hX y14.1 p4 y14.2.1 (by omega) (by omega)
          cases e2 : whS X 2 24 (nx X p3') with
          | inl z =>
            obtain ⟨f, pl⟩ := z
            rw [e2] at gg
            obtain ⟨w17, i1, i2, i3, i4⟩ := gg
            refine ⟨w17, ?_, y14.xf.tr i2.xf, i3, i4⟩
            unfold fX4_takeDisk
            simp (disch := omega) only [↓mo_1, ↓mo_2, ad_m1, ite_m1_lt, ite_m2_lt, ite_le_m1, ite_eq_m1, ite_eq_m2, ite_m1_m1, ite_m2_m2, ite_T, ite_F, ite_nz, ite_zz, ite_m1_le, ite_m1_eq, oi_none, oi_some, ob_some, lw_def, ck_true, ckp_su, ite_lt_t, ite_lt_f, ite_le_t, ite_le_f, ite_eq_t, ite_eq_f, ck_inb, nI_add, sb_nI, mu_nI, nI_clamp, sO_at, sO_sO, Nat.add_sub_cancel, Nat.zero_add, Nat.add_zero, li_0, li_1, li_2, li_3, li_4, li_5, li_6, li_7, li_8, li_9, li_10, li_11, li_12, li_16, li_20, li_24, li_31, li_32, li_48, li_49, li_73, li_74, li_75, li_97, li_98, li_99, li_100, li_101, li_109, li_110, li_255, li_680, li_700, li_9999, li_65536, li_65537, h3, hw2, a1, b1, d1, q9, d4, hw12, g1, i1]
          | inr z =>
            obtain ⟨v4, p5'⟩ := z
            rw [e2] at gg
            obtain ⟨w17, i1, i2, i3, i4⟩ := gg
            obtain ⟨-, j1, j2, -, j3⟩ := wh_r e2
            have p5 : p5' ≤ X.1 := by rw [j3]; exact nx_le p4
            have y17 := y14.s4 i2 i3
            have q17 := y17.2.2.1
            have k17 : w17 5 q = oI (w 5 q) 5 (nI v2) := (i2.1 5 q (by omega)).trans k14
            have y20 : PY w (sI w17 5 q 6 (nI v4)) q X (tk X p5') := y17.s5
            have k20 : sI w17 5 q 6 (nI v4) 5 q = oI (oI (w 5 q) 5 (nI v2)) 6 (nI v4) := by unfold sI; rw [sO_at, k17]
            generalize hw20 : sI w17 5 q 6 (nI v4) = w20 at *
            have q20 := y20.2.2.1
            have m8 := x_isWord (i := 8) hX y20.1 p5 (by omega) y20.2.1
            have fin : ∀ (bb : Bool) (w29 : Wd), S4 (sI w20 5 q 7 (b2i bb)) w29 → XT w29 (tk X (nx X p5')) → XG w w29 q X (D.1, D.2.1, v2, v4, bb) T (nx X p5') := by
              intro bb w29 s29 t29
              have y24 : PY w (sI w20 5 q 7 (b2i bb)) q X (tk X p5') := y20.s5
              have k24 : sI w20 5 q 7 (b2i bb) 5 q = oI (oI (oI (w 5 q) 5 (nI v2)) 6 (nI v4)) 7 (b2i bb) := by unfold sI; rw [sO_at, k20]
              have y29 := y24.s4 s29 t29
              have k29 : w29 5 q = oI (oI (oI (w 5 q) 5 (nI v2)) 6 (nI v4)) 7 (b2i bb) := (s29.1 5 q (by omega)).trans k24
              refine ⟨y29.xf, ⟨y29.1, t29, y29.2.2.1, ?_, ?_, ?_⟩, y29.2.2.2.2.1⟩
              · rw [y29.2.2.2.1, decide_eq_true (show 0 < v2 by omega), b2i_t]
              · rw [k29]
                obtain ⟨u1, u2, u3, u4, u5⟩ := h.2.2.2.2.1
                exact ⟨u1, u2, by rw [oI_n (by decide), oI_n (by decide), oI_n (by decide)]; exact u3, by rw [oI_n (by decide), oI_n (by decide), oI_n (by decide)]; exact u4, by rw [oI_n (by decide), oI_n (by decide), oI_a], by rw [oI_n (by decide), oI_a], by rw [oI_a]⟩
              · have hf := y29.2.2.2.2.2
                unfold RT
                rw [hf 3 _ (by omega) (by omega), hf 3 _ (by omega) (by omega), hf 3 _ (by omega) (by omega), hf 3 _ (by omega) (by omega)]
                exact h.2.2.2.2.2
            show match dkE X v2 v4 p5' with
              | .inl (f, pl) => _
              | .inr (v2, v4, b, p6) => _
            unfold dkE
            by_cases c4 : iwS X (tk X p5') 8 = true
            · rw [if_pos c4]
              rw [c4, b2i_t] at m8
              have y24 : PY w (sI w20 5 q 7 (b2i true)) q X (tk X p5') := y20.s5
              obtain ⟨w32, n1, n2, n3⟩ := x_tw1 hX y24.1 p5 (show 8 < 10 by omega) y24.2.1 c4
              refine ⟨w32, ?_, fin true w32 n2 n3⟩
              have k24 : (sI w20 5 q 7 (nI 1) 5 q).1 7 = nI 1 := sI_i
              have q24 : (sI w20 5 q 7 (nI 1) 4 0).2.2.1 2 = q + 1 := y24.2.2.1
              have n1' : fX4_takeWord 8 (sI w20 5 q 7 (nI 1)) = some (nI 1, w32) := n1
              unfold fX4_takeDisk
              simp (disch := omega) only [↓mo_1, ↓mo_2, ad_m1, ite_m1_lt, ite_m2_lt, ite_le_m1, ite_eq_m1, ite_eq_m2, ite_m1_m1, ite_m2_m2, ite_T, ite_F, ite_nz, ite_zz, ite_m1_le, ite_m1_eq, oi_none, oi_some, ob_some, lw_def, ck_true, ckp_su, ite_lt_t, ite_lt_f, ite_le_t, ite_le_f, ite_eq_t, ite_eq_f, ck_inb, nI_add, sb_nI, mu_nI, nI_clamp, sO_at, sO_sO, Nat.add_sub_cancel, Nat.zero_add, Nat.add_zero, li_0, li_1, li_2, li_3, li_4, li_5, li_6, li_7, li_8, li_9, li_10, li_11, li_12, li_16, li_20, li_24, li_31, li_32, li_48, li_49, li_73, li_74, li_75, li_97, li_98, li_99, li_100, li_101, li_109, li_110, li_255, li_680, li_700, li_9999, li_65536, li_65537, h3, hw2, a1, b1, d1, q9, d4, hw12, g1, i1, q17, i4, hw20, q20, m8, isb_1, q24, k24, n1']
            · rw [if_neg c4]
              have c4' : iwS X (tk X p5') 8 = false := by
                cases y : iwS X (tk X p5') 8 with
                | false => rfl
                | true => exact absurd y c4
              rw [c4', b2i_f] at m8
              have y24 : PY w (sI w20 5 q 7 (b2i false)) q X (tk X p5') := y20.s5
              have k24 : (sI w20 5 q 7 (nI 0) 5 q).1 7 = nI 0 := sI_i
              have q24 : (sI w20 5 q 7 (nI 0) 4 0).2.2.1 2 = q + 1 := y24.2.2.1
              by_cases c5 : iwS X (tk X p5') 9 = true
              · rw [if_pos c5]
                obtain ⟨w32, n1, n2, n3⟩ := x_tw1 hX y24.1 p5 (show 9 < 10 by omega) y24.2.1 c5
                refine ⟨w32, ?_, fin false w32 n2 n3⟩
                have n1' : fX4_takeWord 9 (sI w20 5 q 7 (nI 0)) = some (nI 1, w32) := n1
                unfold fX4_takeDisk
                simp (disch := omega) only [↓mo_1, ↓mo_2, ad_m1, ite_m1_lt, ite_m2_lt, ite_le_m1, ite_eq_m1, ite_eq_m2, ite_m1_m1, ite_m2_m2, ite_T, ite_F, ite_nz, ite_zz, ite_m1_le, ite_m1_eq, oi_none, oi_some, ob_some, lw_def, ck_true, ckp_su, ite_lt_t, ite_lt_f, ite_le_t, ite_le_f, ite_eq_t, ite_eq_f, ck_inb, nI_add, sb_nI, mu_nI, nI_clamp, sO_at, sO_sO, Nat.add_sub_cancel, Nat.zero_add, Nat.add_zero, li_0, li_1, li_2, li_3, li_4, li_5, li_6, li_7, li_8, li_9, li_10, li_11, li_12, li_16, li_20, li_24, li_31, li_32, li_48, li_49, li_73, li_74, li_75, li_97, li_98, li_99, li_100, li_101, li_109, li_110, li_255, li_680, li_700, li_9999, li_65536, li_65537, h3, hw2, a1, b1, d1, q9, d4, hw12, g1, i1, q17, i4, hw20, q20, m8, isb_0, isb_1, q24, k24, n1']
              · rw [if_neg c5]
                have c5' : iwS X (tk X p5') 9 = false := by
                  cases y : iwS X (tk X p5') 9 with
                  | false => rfl
                  | true => exact absurd y c5
                obtain ⟨w32, n1, n2, n3, n4⟩ := x_tw0 hX y24.1 p5 (show 9 < 10 by omega) y24.2.1 c5'
                refine ⟨w32, ?_, y24.xf.tr n2.xf, n3, n4⟩
                have n1' : fX4_takeWord 9 (sI w20 5 q 7 (nI 0)) = some (nI 0, w32) := n1
                unfold fX4_takeDisk
                simp (disch := omega) only [↓mo_1, ↓mo_2, ad_m1, ite_m1_lt, ite_m2_lt, ite_le_m1, ite_eq_m1, ite_eq_m2, ite_m1_m1, ite_m2_m2, ite_T, ite_F, ite_nz, ite_zz, ite_m1_le, ite_m1_eq, oi_none, oi_some, ob_some, lw_def, ck_true, ckp_su, ite_lt_t, ite_lt_f, ite_le_t, ite_le_f, ite_eq_t, ite_eq_f, ck_inb, nI_add, sb_nI, mu_nI, nI_clamp, sO_at, sO_sO, Nat.add_sub_cancel, Nat.zero_add, Nat.add_zero, li_0, li_1, li_2, li_3, li_4, li_5, li_6, li_7, li_8, li_9, li_10, li_11, li_12, li_16, li_20, li_24, li_31, li_32, li_48, li_49, li_73, li_74, li_75, li_97, li_98, li_99, li_100, li_101, li_109, li_110, li_255, li_680, li_700, li_9999, li_65536, li_65537, h3, hw2, a1, b1, d1, q9, d4, hw12, g1, i1, q17, i4, hw20, q20, m8, isb_0, q24, k24, n1']
        · rw [if_neg c3]
          have c3' : iwS X (tk X p3') 7 = false := by
            cases y : iwS X (tk X p3') 7 with
            | false => rfl
            | true => exact absurd y c3
          obtain ⟨w14, g1, g2, g3, g4⟩ := x_tw0 hX y12.1 p3 (show 7 < 10 by omega) y12.2.1 c3'
          refine ⟨w14, ?_, y12.xf.tr g2.xf, g3, g4⟩
          unfold fX4_takeDisk
          simp (disch := omega) only [↓mo_1, ↓mo_2, ad_m1, ite_m1_lt, ite_m2_lt, ite_le_m1, ite_eq_m1, ite_eq_m2, ite_m1_m1, ite_m2_m2, ite_T, ite_F, ite_nz, ite_zz, ite_m1_le, ite_m1_eq, oi_none, oi_some, ob_some, lw_def, ck_true, ckp_su, ite_lt_t, ite_lt_f, ite_le_t, ite_le_f, ite_eq_t, ite_eq_f, ck_inb, nI_add, sb_nI, mu_nI, nI_clamp, sO_at, sO_sO, Nat.add_sub_cancel, Nat.zero_add, Nat.add_zero, li_0, li_1, li_2, li_3, li_4, li_5, li_6, li_7, li_8, li_9, li_10, li_11, li_12, li_16, li_20, li_24, li_31, li_32, li_48, li_49, li_73, li_74, li_75, li_97, li_98, li_99, li_100, li_101, li_109, li_110, li_255, li_680, li_700, li_9999, li_65536, li_65537, h3, hw2, a1, b1, d1, q9, d4, hw12, g1]
    · rw [if_neg c2]
      have c2' : iwS X (tk X (nx X p)) 6 = false := by
        cases y : iwS X (tk X (nx X p)) 6 with
        | false => rfl
        | true => exact absurd y c2
      obtain ⟨w6, b1, b2, b3, b4⟩ := x_tw0 hX y4.1 p1 (show 6 < 10 by omega) y4.2.1 c2'
      refine ⟨w6, ?_, y4.xf.tr b2.xf, b3, b4⟩
      unfold fX4_takeDisk
      simp (disch := omega) only [↓mo_1, ↓mo_2, ad_m1, ite_m1_lt, ite_m2_lt, ite_le_m1, ite_eq_m1, ite_eq_m2, ite_m1_m1, ite_m2_m2, ite_T, ite_F, ite_nz, ite_zz, ite_m1_le, ite_m1_eq, oi_none, oi_some, ob_some, lw_def, ck_true, ckp_su, ite_lt_t, ite_lt_f, ite_le_t, ite_le_f, ite_eq_t, ite_eq_f, ck_inb, nI_add, sb_nI, mu_nI, nI_clamp, sO_at, sO_sO, Nat.add_sub_cancel, Nat.zero_add, Nat.add_zero, li_0, li_1, li_2, li_3, li_4, li_5, li_6, li_7, li_8, li_9, li_10, li_11, li_12, li_16, li_20, li_24, li_31, li_32, li_48, li_49, li_73, li_74, li_75, li_97, li_98, li_99, li_100, li_101, li_109, li_110, li_255, li_680, li_700, li_9999, li_65536, li_65537, h3, hw2, a1, b1]
end PX2
