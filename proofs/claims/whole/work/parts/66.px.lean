/-! ===== the lines of a text ===== -/
abbrev nx (X : Tx) (p : Nat) : Nat := (tk X p).2.2
def adP (p : Pk) (f : Nat) (s : Int32) : Pk := (p.1 + 1, va_up p.2.1 p.1 f, va_up p.2.2 p.1 s)
def inR (g : Nat → Nat) (f : Nat) : Nat → Bool
  | 0 => false
  | k + 1 => inR g f k || decide (g k = f)
theorem inR_f {g : Nat → Nat} {f : Nat} : ∀ {n : Nat}, (∀ i, i < n → g i ≠ f) → inR g f n = false
  | 0, _ => rfl
  | n + 1, h => by
    show (inR g f n || decide (g n = f)) = false
    rw [inR_f (fun i hi => h i (by omega)), decide_eq_false (h n (by omega))]
    rfl
theorem inR_t {g : Nat → Nat} {f i : Nat} : ∀ {n : Nat}, i < n → g i = f → inR g f n = true
  | 0, h, _ => absurd h (Nat.not_lt_zero i)
  | n + 1, h, e => by
    show (inR g f n || decide (g n = f)) = true
    by_cases c : i = n
    · subst c
      rw [decide_eq_true e]
      exact Bool.or_true _
    · rw [inR_t (n := n) (by omega) e]
      rfl
theorem inR_n {g : Nat → Nat} {f : Nat} : ∀ {n : Nat}, inR g f n = false → ∀ i, i < n → g i ≠ f := fun {n} h i hi e => by
  rw [inR_t hi e] at h
  cases h
theorem inR_cg {g g2 : Nat → Nat} {f : Nat} : ∀ {n : Nat}, (∀ i, i < n → g i = g2 i) → inR g f n = inR g2 f n
  | 0, _ => rfl
  | n + 1, h => by
    show (inR g f n || decide (g n = f)) = (inR g2 f n || decide (g2 n = f))
    rw [inR_cg (fun i hi => h i (by omega)), h n (by omega)]
theorem inR_ad {p : Pk} {f t : Nat} {s : Int32} : inR (adP p f s).2.1 t (adP p f s).1 = (inR p.2.1 t p.1 || decide (f = t)) := by
  show (inR (va_up p.2.1 p.1 f) t p.1 || decide (va_up p.2.1 p.1 f p.1 = t)) = _
  rw [va_up_self, inR_cg (g2 := p.2.1) (fun i hi => va_up_ne _ _ (by omega))]
theorem RP.ad {o : Ob} {p : Pk} {f : Nat} {s : Int32} (h : RP o p) : RP (oI (oA (oA o 0 p.1 (nI f)) 1 p.1 s) 2 (nI (p.1 + 1))) (adP p f s) := by
  obtain ⟨-, h1, h2⟩ := h
  refine ⟨oI_a, fun i hi => ?_, fun i hi => ?_⟩
  · have e : (oI (oA (oA o 0 p.1 (nI f)) 1 p.1 s) 2 (nI (p.1 + 1))).2.1 0 = upd (o.2.1 0) p.1 (nI f) := by
      rw [oI_2, oA_n (by decide), oA_a]
    rw [e]
    show _ = nI (va_up p.2.1 p.1 f i)
    by_cases c : i = p.1
    · rw [c, upd_at, va_up_self]
    · rw [upd_ne c, va_up_ne _ _ c]
      exact h1 i (by have : i < p.1 + 1 := hi; omega)
  · have e : (oI (oA (oA o 0 p.1 (nI f)) 1 p.1 s) 2 (nI (p.1 + 1))).2.1 1 = upd (o.2.1 1) p.1 s := by
      rw [oI_2, oA_a, oA_n (by decide)]
    rw [e]
    show _ = va_up p.2.2 p.1 s i
    by_cases c : i = p.1
    · rw [c, upd_at, va_up_self]
    · rw [upd_ne c, va_up_ne _ _ c]
      exact h2 i (by have : i < p.1 + 1 := hi; omega)
section PX
variable {w w2 : Wd} {X : Tx} {D : Dk} {T : Tk} {p q j N : Nat} {P : Pk}
theorem x_hasRoom (h : RP (w 3 j) P) (h0 : aln 3 j 0 = N) (h1 : aln 3 j 1 = N) (hN : N ≤ 16) (hp : P.1 ≤ N) : fX3_hasRoom j w = some (b2i (decide (P.1 < N)), w) := by
  unfold fX3_hasRoom
  rw [h.1, h0, h1]
  by_cases c : P.1 < N
  · rw [decide_eq_true c]
    simp (disch := omega) only [↓mo_1, ↓mo_2, ad_m1, ite_m1_lt, ite_m2_lt, ite_le_m1, ite_eq_m1, ite_eq_m2, ite_m1_m1, ite_m2_m2, ite_T, ite_F, ite_nz, ite_zz, ite_m1_le, ite_m1_eq, oi_none, oi_some, ob_some, lw_def, ck_true, ckp_su, ite_lt_t, ite_lt_f, ite_le_t, ite_le_f, ite_eq_t, ite_eq_f, ck_inb, nI_add, sb_nI, mu_nI, nI_clamp, sO_at, sO_sO, Nat.add_sub_cancel, Nat.zero_add, Nat.add_zero, li_0, li_1, li_2, li_3, li_4, li_5, li_6, li_7, li_8, li_9, li_10, li_11, li_12, li_16, li_20, li_24, li_31, li_32, li_48, li_49, li_73, li_74, li_75, li_97, li_98, li_99, li_100, li_101, li_109, li_110, li_255, li_680, li_700, li_9999, li_65536, li_65537, b2i_t]
  · rw [decide_eq_false c]
    simp (disch := omega) only [↓mo_1, ↓mo_2, ad_m1, ite_m1_lt, ite_m2_lt, ite_le_m1, ite_eq_m1, ite_eq_m2, ite_m1_m1, ite_m2_m2, ite_T, ite_F, ite_nz, ite_zz, ite_m1_le, ite_m1_eq, oi_none, oi_some, ob_some, lw_def, ck_true, ckp_su, ite_lt_t, ite_lt_f, ite_le_t, ite_le_f, ite_eq_t, ite_eq_f, ck_inb, nI_add, sb_nI, mu_nI, nI_clamp, sO_at, sO_sO, Nat.add_sub_cancel, Nat.zero_add, Nat.add_zero, li_0, li_1, li_2, li_3, li_4, li_5, li_6, li_7, li_8, li_9, li_10, li_11, li_12, li_16, li_20, li_24, li_31, li_32, li_48, li_49, li_73, li_74, li_75, li_97, li_98, li_99, li_100, li_101, li_109, li_110, li_255, li_680, li_700, li_9999, li_65536, li_65537, b2i_f]
theorem x_addPair {f : Nat} {s : Int32} (h : RP (w 3 j) P) (h0 : aln 3 j 0 = N) (h1 : aln 3 j 1 = N) (hN : N ≤ 16) (hp : P.1 < N) : ∃ o2 : Ob, fX3_addPair j w (nI f) s = some ((), sO w 3 j o2) ∧ RP o2 (adP P f s) := by
  refine ⟨_, ?_, h.ad⟩
  have e := x_hasRoom h h0 h1 hN (by omega)
  rw [decide_eq_true hp, b2i_t] at e
  have h2 := h.1
  unfold fX3_addPair
  simp (disch := omega) only [↓mo_1, ↓mo_2, ad_m1, ite_m1_lt, ite_m2_lt, ite_le_m1, ite_eq_m1, ite_eq_m2, ite_m1_m1, ite_m2_m2, ite_T, ite_F, ite_nz, ite_zz, ite_m1_le, ite_m1_eq, oi_none, oi_some, ob_some, lw_def, ck_true, ckp_su, ite_lt_t, ite_lt_f, ite_le_t, ite_le_f, ite_eq_t, ite_eq_f, ck_inb, nI_add, sb_nI, mu_nI, nI_clamp, sO_at, sO_sO, Nat.add_sub_cancel, Nat.zero_add, Nat.add_zero, li_0, li_1, li_2, li_3, li_4, li_5, li_6, li_7, li_8, li_9, li_10, li_11, li_12, li_16, li_20, li_24, li_31, li_32, li_48, li_49, li_73, li_74, li_75, li_97, li_98, li_99, li_100, li_101, li_109, li_110, li_255, li_680, li_700, li_9999, li_65536, li_65537, e, h0, h1, h2, sA, sI, oA_1]
theorem x_hf {f : Nat} (h : RP (w 3 j) P) (h0 : aln 3 j 0 = N) (hN : N ≤ 16) (hp : P.1 ≤ N) (hb : ∀ i, i < P.1 → P.2.1 i < 10000) (hf : f < 10000) : ∀ r k, k + r = P.1 → (∀ i, i < k → P.2.1 i ≠ f) → ∀ m, r < m → fX3_hasFirst_2 j m w (nI f) (nI k) = some (b2i (inR P.2.1 f P.1), w) := by
  intro r
  induction r with
  | zero =>
    intro k hk ha m hm
    obtain ⟨m, rfl⟩ : ∃ z, m = z + 1 := ⟨m - 1, by omega⟩
    rw [fX3_hasFirst_2.eq_2, h.1, h0, inR_f (fun i hi => ha i (by omega))]
    simp (disch := omega) only [↓mo_1, ↓mo_2, ad_m1, ite_m1_lt, ite_m2_lt, ite_le_m1, ite_eq_m1, ite_eq_m2, ite_m1_m1, ite_m2_m2, ite_T, ite_F, ite_nz, ite_zz, ite_m1_le, ite_m1_eq, oi_none, oi_some, ob_some, lw_def, ck_true, ckp_su, ite_lt_t, ite_lt_f, ite_le_t, ite_le_f, ite_eq_t, ite_eq_f, ck_inb, nI_add, sb_nI, mu_nI, nI_clamp, sO_at, sO_sO, Nat.add_sub_cancel, Nat.zero_add, Nat.add_zero, li_0, li_1, li_2, li_3, li_4, li_5, li_6, li_7, li_8, li_9, li_10, li_11, li_12, li_16, li_20, li_24, li_31, li_32, li_48, li_49, li_73, li_74, li_75, li_97, li_98, li_99, li_100, li_101, li_109, li_110, li_255, li_680, li_700, li_9999, li_65536, li_65537, b2i_f]
  | succ r ih =>
    intro k hk ha m hm
    obtain ⟨m, rfl⟩ : ∃ z, m = z + 1 := ⟨m - 1, by omega⟩
    have e1 := h.2.1 k (by omega)
    have e2 := hb k (by omega)
    rw [fX3_hasFirst_2.eq_2, h.1, h0]
    simp (disch := omega) only [↓mo_1, ↓mo_2, ad_m1, ite_m1_lt, ite_m2_lt, ite_le_m1, ite_eq_m1, ite_eq_m2, ite_m1_m1, ite_m2_m2, ite_T, ite_F, ite_nz, ite_zz, ite_m1_le, ite_m1_eq, oi_none, oi_some, ob_some, lw_def, ck_true, ckp_su, ite_lt_t, ite_lt_f, ite_le_t, ite_le_f, ite_eq_t, ite_eq_f, ck_inb, nI_add, sb_nI, mu_nI, nI_clamp, sO_at, sO_sO, Nat.add_sub_cancel, Nat.zero_add, Nat.add_zero, li_0, li_1, li_2, li_3, li_4, li_5, li_6, li_7, li_8, li_9, li_10, li_11, li_12, li_16, li_20, li_24, li_31, li_32, li_48, li_49, li_73, li_74, li_75, li_97, li_98, li_99, li_100, li_101, li_109, li_110, li_255, li_680, li_700, li_9999, li_65536, li_65537, e1]
    by_cases c : P.2.1 k = f
    · rw [inR_t (show k < P.1 by omega) c, c]
      simp (disch := omega) only [↓mo_1, ↓mo_2, ad_m1, ite_m1_lt, ite_m2_lt, ite_le_m1, ite_eq_m1, ite_eq_m2, ite_m1_m1, ite_m2_m2, ite_T, ite_F, ite_nz, ite_zz, ite_m1_le, ite_m1_eq, oi_none, oi_some, ob_some, lw_def, ck_true, ckp_su, ite_lt_t, ite_lt_f, ite_le_t, ite_le_f, ite_eq_t, ite_eq_f, ck_inb, nI_add, sb_nI, mu_nI, nI_clamp, sO_at, sO_sO, Nat.add_sub_cancel, Nat.zero_add, Nat.add_zero, li_0, li_1, li_2, li_3, li_4, li_5, li_6, li_7, li_8, li_9, li_10, li_11, li_12, li_16, li_20, li_24, li_31, li_32, li_48, li_49, li_73, li_74, li_75, li_97, li_98, li_99, li_100, li_101, li_109, li_110, li_255, li_680, li_700, li_9999, li_65536, li_65537, b2i_t]
    · simp (disch := omega) only [↓mo_1, ↓mo_2, ad_m1, ite_m1_lt, ite_m2_lt, ite_le_m1, ite_eq_m1, ite_eq_m2, ite_m1_m1, ite_m2_m2, ite_T, ite_F, ite_nz, ite_zz, ite_m1_le, ite_m1_eq, oi_none, oi_some, ob_some, lw_def, ck_true, ckp_su, ite_lt_t, ite_lt_f, ite_le_t, ite_le_f, ite_eq_t, ite_eq_f, ck_inb, nI_add, sb_nI, mu_nI, nI_clamp, sO_at, sO_sO, Nat.add_sub_cancel, Nat.zero_add, Nat.add_zero, li_0, li_1, li_2, li_3, li_4, li_5, li_6, li_7, li_8, li_9, li_10, li_11, li_12, li_16, li_20, li_24, li_31, li_32, li_48, li_49, li_73, li_74, li_75, li_97, li_98, li_99, li_100, li_101, li_109, li_110, li_255, li_680, li_700, li_9999, li_65536, li_65537]
      exact ih (k + 1) (by omega) (fun i hi => by
        by_cases z : i = k
        · rw [z]; exact c
        · exact ha i (by omega)) m (by omega)
theorem x_hasFirst {f : Nat} (h : RP (w 3 j) P) (h0 : aln 3 j 0 = N) (hN : N ≤ 16) (hp : P.1 ≤ N) (hb : ∀ i, i < P.1 → P.2.1 i < 10000) (hf : f < 10000) : fX3_hasFirst j w (nI f) = some (b2i (inR P.2.1 f P.1), w) :=
  x_hf h h0 hN hp hb hf P.1 0 (Nat.zero_add _) (fun i hi => absurd hi (Nat.not_lt_zero i)) fuel0 (by unfold fuel0; omega)
/-! the class's parser between lines -/
def PX (w : Wd) (q : Nat) (X : Tx) (D : Dk) (T : Tk) (t : Tt) : Prop := XE w X ∧ XT w t ∧ (w 4 0).2.2.1 2 = q + 1 ∧ (w 4 0).1 3 = b2i (decide (0 < D.2.2.1)) ∧ RSh (w 5 q) D ∧ RT w q T
/-- what a line leaves as it is -/
def XF (q : Nat) (w w2 : Wd) : Prop := ∀ c i, ¬ (c = 4 ∧ i = 0) → ¬ (c = 5 ∧ i = q) → ¬ (c = 3 ∧ 4 * q ≤ i ∧ i < 4 * q + 4) → w2 c i = w c i
theorem XF.tr {w3 : Wd} (h : XF q w w2) (h2 : XF q w2 w3) : XF q w w3 := fun c i a b d => (h2 c i a b d).trans (h c i a b d)
theorem XF.rf : XF q w w := fun _ _ _ _ _ => rfl
theorem S49.xf (h : S49 w w2) : XF q w w2 := fun c i a _ _ => h.1 c i a
theorem S4.xf (h : S4 w w2) : XF q w w2 := fun c i a _ _ => h.1 c i a
theorem XF.s3 {o : Ob} {i : Nat} (hi : i < 4) : XF q w (sO w 3 (4 * q + i) o) := fun c k _ _ z => sO_ne (fun y => z (by omega))
theorem XF.s5 {o : Ob} : XF q w (sO w 5 q o) := fun c k _ z _ => sO_ne z
theorem PX.s4 {t t2 : Tt} (h : PX w q X D T t) (hs : S4 w w2) (ht : XT w2 t2) : PX w2 q X D T t2 := by
  obtain ⟨h1, h2, h3, h4, h5, h6⟩ := h
  refine ⟨h1.s4 hs, ht, by rw [hs.2.1]; exact h3, by rw [hs.2.2 3 (by decide) (by decide) (by decide) (by decide)]; exact h4, by rw [hs.1 5 q (by omega)]; exact h5, ?_⟩
  unfold RT
  rw [hs.1 3 _ (by omega), hs.1 3 _ (by omega), hs.1 3 _ (by omega), hs.1 3 _ (by omega)]
  exact h6
theorem RP.s4 (h : RP (w 3 j) P) (hs : S4 w w2) : RP (w2 3 j) P := by rw [hs.1 3 j (by omega)]; exact h
/-- a fault -/
def XB (w w2 : Wd) (q f pl : Nat) : Prop := XF q w w2 ∧ (w2 4 0).1 8 = nI f ∧ (w2 4 0).1 9 = nI pl
def XG (w w2 : Wd) (q : Nat) (X : Tx) (D : Dk) (T : Tk) (p : Nat) : Prop := XF q w w2 ∧ PX w2 q X D T (tk X p) ∧ (w2 4 0).1 8 = (w 4 0).1 8 ∧ (w2 4 0).1 9 = (w 4 0).1 9
theorem x_mv (hX : TxO X) (hp : p ≤ X.1) (h : PX w q X D T (tk X p)) : ∃ w2 : Wd, fX4_moveOn w = some ((), w2) ∧ S4 w w2 ∧ PX w2 q X D T (tk X (nx X p)) := by
  obtain ⟨w2, e1, e2, e3, -⟩ := x_moveOn hX h.1 (tk_ok hp).2.2.2.1 h.2.1.2.2
  exact ⟨w2, e1, e2, h.s4 e2 e3⟩
/-- takeFirstWord: 6 no disk yet, 5 no room -/
theorem x_fw6 (h : PX w q X D T (tk X p)) {r : Int32} (c : ¬ 0 < D.2.2.1) : ∃ w2 : Wd, fX4_takeFirstWord w r = some (nI 0, w2) ∧ S49 w w2 ∧ (w2 4 0).1 8 = nI 6 ∧ (w2 4 0).1 9 = nI (tk X p).2.1 := by
  obtain ⟨w2, e1, e2, e3, e4⟩ := x_stopAt (w := w) (f := nI 6) (pl := nI (tk X p).2.1)
  refine ⟨w2, ?_, e2, e3, e4⟩
  have h3 := h.2.2.2.1
  rw [decide_eq_false c, b2i_f] at h3
  unfold fX4_takeFirstWord
  simp (disch := omega) only [↓mo_1, ↓mo_2, ad_m1, ite_m1_lt, ite_m2_lt, ite_le_m1, ite_eq_m1, ite_eq_m2, ite_m1_m1, ite_m2_m2, ite_T, ite_F, ite_nz, ite_zz, ite_m1_le, ite_m1_eq, oi_none, oi_some, ob_some, lw_def, ck_true, ckp_su, ite_lt_t, ite_lt_f, ite_le_t, ite_le_f, ite_eq_t, ite_eq_f, ck_inb, nI_add, sb_nI, mu_nI, nI_clamp, sO_at, sO_sO, Nat.add_sub_cancel, Nat.zero_add, Nat.add_zero, li_0, li_1, li_2, li_3, li_4, li_5, li_6, li_7, li_8, li_9, li_10, li_11, li_12, li_16, li_20, li_24, li_31, li_32, li_48, li_49, li_73, li_74, li_75, li_97, li_98, li_99, li_100, li_101, li_109, li_110, li_255, li_680, li_700, li_9999, li_65536, li_65537, h3, h.2.1.2.1, e1, isb_0]
theorem x_fw5 (h : PX w q X D T (tk X p)) (c : 0 < D.2.2.1) : ∃ w2 : Wd, fX4_takeFirstWord w (nI 0) = some (nI 0, w2) ∧ S49 w w2 ∧ (w2 4 0).1 8 = nI 5 ∧ (w2 4 0).1 9 = nI (tk X p).2.1 := by
  obtain ⟨w2, e1, e2, e3, e4⟩ := x_stopAt (w := w) (f := nI 5) (pl := nI (tk X p).2.1)
  refine ⟨w2, ?_, e2, e3, e4⟩
  have h3 := h.2.2.2.1
  rw [decide_eq_true c, b2i_t] at h3
  unfold fX4_takeFirstWord
  simp (disch := omega) only [↓mo_1, ↓mo_2, ad_m1, ite_m1_lt, ite_m2_lt, ite_le_m1, ite_eq_m1, ite_eq_m2, ite_m1_m1, ite_m2_m2, ite_T, ite_F, ite_nz, ite_zz, ite_m1_le, ite_m1_eq, oi_none, oi_some, ob_some, lw_def, ck_true, ckp_su, ite_lt_t, ite_lt_f, ite_le_t, ite_le_f, ite_eq_t, ite_eq_f, ck_inb, nI_add, sb_nI, mu_nI, nI_clamp, sO_at, sO_sO, Nat.add_sub_cancel, Nat.zero_add, Nat.add_zero, li_0, li_1, li_2, li_3, li_4, li_5, li_6, li_7, li_8, li_9, li_10, li_11, li_12, li_16, li_20, li_24, li_31, li_32, li_48, li_49, li_73, li_74, li_75, li_97, li_98, li_99, li_100, li_101, li_109, li_110, li_255, li_680, li_700, li_9999, li_65536, li_65537, h3, h.2.1.2.1, e1, isb_0]
theorem x_fw1 (hX : TxO X) (hp : p ≤ X.1) (h : PX w q X D T (tk X p)) (c : 0 < D.2.2.1) : ∃ w2 : Wd, fX4_takeFirstWord w (nI 1) = some (nI 1, w2) ∧ S4 w w2 ∧ PX w2 q X D T (tk X (nx X p)) := by
  obtain ⟨w2, e1, e2, e3⟩ := x_mv hX hp h
  refine ⟨w2, ?_, e2, e3⟩
  have h3 := h.2.2.2.1
  rw [decide_eq_true c, b2i_t] at h3
  unfold fX4_takeFirstWord
  simp (disch := omega) only [↓mo_1, ↓mo_2, ad_m1, ite_m1_lt, ite_m2_lt, ite_le_m1, ite_eq_m1, ite_eq_m2, ite_m1_m1, ite_m2_m2, ite_T, ite_F, ite_nz, ite_zz, ite_m1_le, ite_m1_eq, oi_none, oi_some, ob_some, lw_def, ck_true, ckp_su, ite_lt_t, ite_lt_f, ite_le_t, ite_le_f, ite_eq_t, ite_eq_f, ck_inb, nI_add, sb_nI, mu_nI, nI_clamp, sO_at, sO_sO, Nat.add_sub_cancel, Nat.zero_add, Nat.add_zero, li_0, li_1, li_2, li_3, li_4, li_5, li_6, li_7, li_8, li_9, li_10, li_11, li_12, li_16, li_20, li_24, li_31, li_32, li_48, li_49, li_73, li_74, li_75, li_97, li_98, li_99, li_100, li_101, li_109, li_110, li_255, li_680, li_700, li_9999, li_65536, li_65537, h3, e1]
/-- a line of two wholes: a fault and its place, or the two and what comes behind -/
def prS (X : Tx) (ov : Nat) (P : Pk) (N a on p : Nat) : (Nat × Nat) ⊕ (Nat × Nat × Nat) :=
  if 0 < ov then
    if P.1 < N then
      if (tk X (nx X p)).1 = 2 then
        if vlT X (tk X (nx X p)) < a then
          if on = 1 ∧ inR P.2.1 (vlT X (tk X (nx X p))) P.1 = true then .inl (3, (tk X (nx X p)).2.1)
          else if (tk X (nx X (nx X p))).1 = 2 then .inr (vlT X (tk X (nx X p)), vlT X (tk X (nx X (nx X p))), nx X (nx X (nx X p)))
          else .inl (1, (tk X (nx X (nx X p))).2.1)
        else .inl (2, (tk X (nx X p)).2.1)
      else .inl (1, (tk X (nx X p)).2.1)
    else .inl (5, (tk X p).2.1)
  else .inl (6, (tk X p).2.1)
theorem nx_le (hp : p ≤ X.1) : nx X p ≤ X.1 := (tk_ok hp).2.2.2.1
theorem x_p73 (hX : TxO X) (hp : p ≤ X.1) (h : PX w q X D T (tk X p)) {f : Nat} (hP : RP (w 3 j) P) (h0 : aln 3 j 0 = N) (h1 : aln 3 j 1 = N) (hN : N ≤ 16) (hPN : P.1 < N) : ((tk X p).1 = 2 → ∃ (w2 : Wd) (o2 : Ob), fX4_takePair_73 j w (nI f) = some (nI 1, sO w2 3 j o2) ∧ S4 w w2 ∧ XT w2 (tk X (nx X p)) ∧ RP o2 (adP P f (nI (vlT X (tk X p))))) ∧ (¬ (tk X p).1 = 2 → ∃ w2 : Wd, fX4_takePair_73 j w (nI f) = some (nI 0, w2) ∧ S49 w w2 ∧ (w2 4 0).1 8 = nI 1 ∧ (w2 4 0).1 9 = nI (tk X p).2.1) := by
  obtain ⟨g1, -, g3⟩ := x_wh (lo := 0) (hi := 9999) hX h.1 hp h.2.1 (by omega) (by omega)
  refine ⟨fun c => ?_, fun c => ?_⟩
  · obtain ⟨w2, e1, e2, e3, e4⟩ := g1 ⟨c, Nat.zero_le _, vl_le hp c⟩
    obtain ⟨o2, e5, e6⟩ := x_addPair (f := f) (s := nI (vlT X (tk X p))) (hP.s4 e2) h0 h1 hN hPN
    refine ⟨w2, o2, ?_, e2, e3, e6⟩
    unfold fX4_takePair_73
    simp (disch := omega) only [↓mo_1, ↓mo_2, ad_m1, ite_m1_lt, ite_m2_lt, ite_le_m1, ite_eq_m1, ite_eq_m2, ite_m1_m1, ite_m2_m2, ite_T, ite_F, ite_nz, ite_zz, ite_m1_le, ite_m1_eq, oi_none, oi_some, ob_some, lw_def, ck_true, ckp_su, ite_lt_t, ite_lt_f, ite_le_t, ite_le_f, ite_eq_t, ite_eq_f, ck_inb, nI_add, sb_nI, mu_nI, nI_clamp, sO_at, sO_sO, Nat.add_sub_cancel, Nat.zero_add, Nat.add_zero, li_0, li_1, li_2, li_3, li_4, li_5, li_6, li_7, li_8, li_9, li_10, li_11, li_12, li_16, li_20, li_24, li_31, li_32, li_48, li_49, li_73, li_74, li_75, li_97, li_98, li_99, li_100, li_101, li_109, li_110, li_255, li_680, li_700, li_9999, li_65536, li_65537, e1, e4, e5]
  · obtain ⟨w2, e1, e2, e3, e4⟩ := g3 c
    refine ⟨w2, ?_, e2, e3, e4⟩
    unfold fX4_takePair_73
    simp (disch := omega) only [↓mo_1, ↓mo_2, ad_m1, ite_m1_lt, ite_m2_lt, ite_le_m1, ite_eq_m1, ite_eq_m2, ite_m1_m1, ite_m2_m2, ite_T, ite_F, ite_nz, ite_zz, ite_m1_le, ite_m1_eq, oi_none, oi_some, ob_some, lw_def, ck_true, ckp_su, ite_lt_t, ite_lt_f, ite_le_t, ite_le_f, ite_eq_t, ite_eq_f, ck_inb, nI_add, sb_nI, mu_nI, nI_clamp, sO_at, sO_sO, Nat.add_sub_cancel, Nat.zero_add, Nat.add_zero, li_0, li_1, li_2, li_3, li_4, li_5, li_6, li_7, li_8, li_9, li_10, li_11, li_12, li_16, li_20, li_24, li_31, li_32, li_48, li_49, li_73, li_74, li_75, li_97, li_98, li_99, li_100, li_101, li_109, li_110, li_255, li_680, li_700, li_9999, li_65536, li_65537, e1]
theorem x_pair (hX : TxO X) (hp : p ≤ X.1) (h : PX w q X D T (tk X p)) {a on : Nat} (hP : RP (w 3 j) P) (h0 : aln 3 j 0 = N) (h1 : aln 3 j 1 = N) (hN : N ≤ 16) (hPN : P.1 ≤ N) (hb : ∀ i, i < P.1 → P.2.1 i < 10000) (ha : a < 10000) (hon : on < 2) : match prS X D.2.2.1 P N a on p with
    | .inl (f, pl) => ∃ w2 : Wd, fX4_takePair j w (nI a) (nI on) = some (nI 0, w2) ∧ S49 w w2 ∧ (w2 4 0).1 8 = nI f ∧ (w2 4 0).1 9 = nI pl
    | .inr (v1, v2, p3) => ∃ (w2 : Wd) (o2 : Ob), fX4_takePair j w (nI a) (nI on) = some (nI 1, sO w2 3 j o2) ∧ S4 w w2 ∧ XT w2 (tk X p3) ∧ RP o2 (adP P v1 (nI v2)) := by
  have e0 := x_hasRoom hP h0 h1 hN hPN
  have hp1 := nx_le hp
  have hp2 := nx_le hp1
  unfold prS
  by_cases c1 : 0 < D.2.2.1
  · rw [if_pos c1]
    by_cases c2 : P.1 < N
    · rw [if_pos c2]
      rw [decide_eq_true c2, b2i_t] at e0
      obtain ⟨w4, a1, a2, a3⟩ := x_fw1 hX hp h c1
      have hs := a3.2.1.2.1
      obtain ⟨g1, -, g3⟩ := x_wh (lo := 0) (hi := 9999) hX a3.1 hp1 a3.2.1 (by omega) (by omega)
      by_cases c3 : (tk X (nx X p)).1 = 2
      · rw [if_pos c3]
        obtain ⟨w8, b1, b2, b3, b4⟩ := g1 ⟨c3, Nat.zero_le _, vl_le hp1 c3⟩
        have hv := vl_le hp1 c3
        have h8 := a3.s4 b2 b3
        have s8 := a2.tr b2
        by_cases c4 : vlT X (tk X (nx X p)) < a
        · rw [if_pos c4]
          obtain ⟨k1, k2⟩ := x_p73 (f := vlT X (tk X (nx X p))) hX hp2 h8 (hP.s4 s8) h0 h1 hN c2
          have e9 := x_hasFirst (f := vlT X (tk X (nx X p))) (hP.s4 s8) h0 hN hPN hb (by omega)
          by_cases c5 : on = 1 ∧ inR P.2.1 (vlT X (tk X (nx X p))) P.1 = true
          · rw [if_pos c5]
            rw [c5.2, b2i_t] at e9
            obtain ⟨w9, d1, d2, d3, d4⟩ := x_stopAt (w := w8) (f := nI 3) (pl := nI (tk X (nx X p)).2.1)
            refine ⟨w9, ?_, s8.s.tr d2, d3, d4⟩
            unfold fX4_takePair
            simp (disch := omega) only [↓mo_1, ↓mo_2, ad_m1, ite_m1_lt, ite_m2_lt, ite_le_m1, ite_eq_m1, ite_eq_m2, ite_m1_m1, ite_m2_m2, ite_T, ite_F, ite_nz, ite_zz, ite_m1_le, ite_m1_eq, oi_none, oi_some, ob_some, lw_def, ck_true, ckp_su, ite_lt_t, ite_lt_f, ite_le_t, ite_le_f, ite_eq_t, ite_eq_f, ck_inb, nI_add, sb_nI, mu_nI, nI_clamp, sO_at, sO_sO, Nat.add_sub_cancel, Nat.zero_add, Nat.add_zero, li_0, li_1, li_2, li_3, li_4, li_5, li_6, li_7, li_8, li_9, li_10, li_11, li_12, li_16, li_20, li_24, li_31, li_32, li_48, li_49, li_73, li_74, li_75, li_97, li_98, li_99, li_100, li_101, li_109, li_110, li_255, li_680, li_700, li_9999, li_65536, li_65537, e0, a1, hs, b1, b4, e9, d1, isb_0, c5.1]
          · rw [if_neg c5]
            have e10 : fX4_takePair j w (nI a) (nI on) = fX4_takePair_73 j w8 (nI (vlT X (tk X (nx X p)))) := by
              unfold fX4_takePair
              by_cases z : on = 1
              · have z2 : inR P.2.1 (vlT X (tk X (nx X p))) P.1 = false := by
                  cases y : inR P.2.1 (vlT X (tk X (nx X p))) P.1 with
                  | false => rfl
                  | true => exact absurd ⟨z, y⟩ c5
                rw [z2, b2i_f] at e9
                simp (disch := omega) only [↓mo_1, ↓mo_2, ad_m1, ite_m1_lt, ite_m2_lt, ite_le_m1, ite_eq_m1, ite_eq_m2, ite_m1_m1, ite_m2_m2, ite_T, ite_F, ite_nz, ite_zz, ite_m1_le, ite_m1_eq, oi_none, oi_some, ob_some, lw_def, ck_true, ckp_su, ite_lt_t, ite_lt_f, ite_le_t, ite_le_f, ite_eq_t, ite_eq_f, ck_inb, nI_add, sb_nI, mu_nI, nI_clamp, sO_at, sO_sO, Nat.add_sub_cancel, Nat.zero_add, Nat.add_zero, li_0, li_1, li_2, li_3, li_4, li_5, li_6, li_7, li_8, li_9, li_10, li_11, li_12, li_16, li_20, li_24, li_31, li_32, li_48, li_49, li_73, li_74, li_75, li_97, li_98, li_99, li_100, li_101, li_109, li_110, li_255, li_680, li_700, li_9999, li_65536, li_65537, e0, a1, hs, b1, b4, e9, z]
              · have z2 : on = 0 := by omega
                simp (disch := omega) only [↓mo_1, ↓mo_2, ad_m1, ite_m1_lt, ite_m2_lt, ite_le_m1, ite_eq_m1, ite_eq_m2, ite_m1_m1, ite_m2_m2, ite_T, ite_F, ite_nz, ite_zz, ite_m1_le, ite_m1_eq, oi_none, oi_some, ob_some, lw_def, ck_true, ckp_su, ite_lt_t, ite_lt_f, ite_le_t, ite_le_f, ite_eq_t, ite_eq_f, ck_inb, nI_add, sb_nI, mu_nI, nI_clamp, sO_at, sO_sO, Nat.add_sub_cancel, Nat.zero_add, Nat.add_zero, li_0, li_1, li_2, li_3, li_4, li_5, li_6, li_7, li_8, li_9, li_10, li_11, li_12, li_16, li_20, li_24, li_31, li_32, li_48, li_49, li_73, li_74, li_75, li_97, li_98, li_99, li_100, li_101, li_109, li_110, li_255, li_680, li_700, li_9999, li_65536, li_65537, e0, a1, hs, b1, b4, z2]
            by_cases c6 : (tk X (nx X (nx X p))).1 = 2
            · rw [if_pos c6]
              obtain ⟨w9, o2, d1, d2, d3, d4⟩ := k1 c6
              exact ⟨w9, o2, e10.trans d1, s8.tr d2, d3, d4⟩
            · rw [if_neg c6]
              obtain ⟨w9, d1, d2, d3, d4⟩ := k2 c6
              exact ⟨w9, e10.trans d1, s8.s.tr d2, d3, d4⟩
        · rw [if_neg c4]
          obtain ⟨w9, d1, d2, d3, d4⟩ := x_stopAt (w := w8) (f := nI 2) (pl := nI (tk X (nx X p)).2.1)
          refine ⟨w9, ?_, s8.s.tr d2, d3, d4⟩
          unfold fX4_takePair
          simp (disch := omega) only [↓mo_1, ↓mo_2, ad_m1, ite_m1_lt, ite_m2_lt, ite_le_m1, ite_eq_m1, ite_eq_m2, ite_m1_m1, ite_m2_m2, ite_T, ite_F, ite_nz, ite_zz, ite_m1_le, ite_m1_eq, oi_none, oi_some, ob_some, lw_def, ck_true, ckp_su, ite_lt_t, ite_lt_f, ite_le_t, ite_le_f, ite_eq_t, ite_eq_f, ck_inb, nI_add, sb_nI, mu_nI, nI_clamp, sO_at, sO_sO, Nat.add_sub_cancel, Nat.zero_add, Nat.add_zero, li_0, li_1, li_2, li_3, li_4, li_5, li_6, li_7, li_8, li_9, li_10, li_11, li_12, li_16, li_20, li_24, li_31, li_32, li_48, li_49, li_73, li_74, li_75, li_97, li_98, li_99, li_100, li_101, li_109, li_110, li_255, li_680, li_700, li_9999, li_65536, li_65537, e0, a1, hs, b1, b4, d1, isb_0]
      · rw [if_neg c3]
        obtain ⟨w8, b1, b2, b3, b4⟩ := g3 c3
        refine ⟨w8, ?_, a2.s.tr b2, b3, b4⟩
        unfold fX4_takePair
        simp (disch := omega) only [↓mo_1, ↓mo_2, ad_m1, ite_m1_lt, ite_m2_lt, ite_le_m1, ite_eq_m1, ite_eq_m2, ite_m1_m1, ite_m2_m2, ite_T, ite_F, ite_nz, ite_zz, ite_m1_le, ite_m1_eq, oi_none, oi_some, ob_some, lw_def, ck_true, ckp_su, ite_lt_t, ite_lt_f, ite_le_t, ite_le_f, ite_eq_t, ite_eq_f, ck_inb, nI_add, sb_nI, mu_nI, nI_clamp, sO_at, sO_sO, Nat.add_sub_cancel, Nat.zero_add, Nat.add_zero, li_0, li_1, li_2, li_3, li_4, li_5, li_6, li_7, li_8, li_9, li_10, li_11, li_12, li_16, li_20, li_24, li_31, li_32, li_48, li_49, li_73, li_74, li_75, li_97, li_98, li_99, li_100, li_101, li_109, li_110, li_255, li_680, li_700, li_9999, li_65536, li_65537, e0, a1, b1]
    · rw [if_neg c2]
      rw [decide_eq_false c2, b2i_f] at e0
      obtain ⟨w4, a1, a2, a3, a4⟩ := x_fw5 h c1
      refine ⟨w4, ?_, a2, a3, a4⟩
      unfold fX4_takePair
      simp (disch := omega) only [↓mo_1, ↓mo_2, ad_m1, ite_m1_lt, ite_m2_lt, ite_le_m1, ite_eq_m1, ite_eq_m2, ite_m1_m1, ite_m2_m2, ite_T, ite_F, ite_nz, ite_zz, ite_m1_le, ite_m1_eq, oi_none, oi_some, ob_some, lw_def, ck_true, ckp_su, ite_lt_t, ite_lt_f, ite_le_t, ite_le_f, ite_eq_t, ite_eq_f, ck_inb, nI_add, sb_nI, mu_nI, nI_clamp, sO_at, sO_sO, Nat.add_sub_cancel, Nat.zero_add, Nat.add_zero, li_0, li_1, li_2, li_3, li_4, li_5, li_6, li_7, li_8, li_9, li_10, li_11, li_12, li_16, li_20, li_24, li_31, li_32, li_48, li_49, li_73, li_74, li_75, li_97, li_98, li_99, li_100, li_101, li_109, li_110, li_255, li_680, li_700, li_9999, li_65536, li_65537, e0, a1]
  · rw [if_neg c1]
    obtain ⟨w4, a1, a2, a3, a4⟩ := x_fw6 (r := b2i (decide (P.1 < N))) h c1
    refine ⟨w4, ?_, a2, a3, a4⟩
    unfold fX4_takePair
    simp (disch := omega) only [↓mo_1, ↓mo_2, ad_m1, ite_m1_lt, ite_m2_lt, ite_le_m1, ite_eq_m1, ite_eq_m2, ite_m1_m1, ite_m2_m2, ite_T, ite_F, ite_nz, ite_zz, ite_m1_le, ite_m1_eq, oi_none, oi_some, ob_some, lw_def, ck_true, ckp_su, ite_lt_t, ite_lt_f, ite_le_t, ite_le_f, ite_eq_t, ite_eq_f, ck_inb, nI_add, sb_nI, mu_nI, nI_clamp, sO_at, sO_sO, Nat.add_sub_cancel, Nat.zero_add, Nat.add_zero, li_0, li_1, li_2, li_3, li_4, li_5, li_6, li_7, li_8, li_9, li_10, li_11, li_12, li_16, li_20, li_24, li_31, li_32, li_48, li_49, li_73, li_74, li_75, li_97, li_98, li_99, li_100, li_101, li_109, li_110, li_255, li_680, li_700, li_9999, li_65536, li_65537, e0, a1]
end PX
