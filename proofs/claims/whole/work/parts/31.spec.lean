/-! ===== what a disk is, and what lies on it at one time ===== -/
/-- bands: how many, their sizes; overlap; places of the log; oldest -/
abbrev Dk : Type := Nat × (Nat → Nat) × Nat × Nat × Bool
def dfst (sz : Nat → Nat) : Nat → Nat
  | 0 => 0
  | b + 1 => dfst sz b + sz b
def dnt (D : Dk) : Nat := dfst D.2.1 D.1
def WFD (D : Dk) : Prop := 1 ≤ D.1 ∧ D.1 ≤ 24 ∧ (∀ b, b < D.1 → 1 ≤ D.2.1 b ∧ D.2.1 b ≤ 8) ∧ dnt D ≤ 48 ∧ D.2.2.1 ≤ 3 ∧ 1 ≤ D.2.2.1 ∧ 1 ≤ D.2.2.2.1 ∧ D.2.2.2.1 ≤ 24
def boR (sz : Nat → Nat) (t : Nat) : Nat → Nat
  | 0 => 0
  | k + 1 => if dfst sz k ≤ t then k else boR sz t k
def bo (D : Dk) (t : Nat) : Nat := boR D.2.1 t D.1
theorem dfst_mono {sz : Nat → Nat} {a : Nat} : ∀ {b : Nat}, a ≤ b → dfst sz a ≤ dfst sz b
  | 0, h => by rw [Nat.le_zero.mp h]; exact Nat.le_refl _
  | b + 1, h => by
    rcases Nat.lt_or_ge a (b + 1) with q | q
    · have := dfst_mono (sz := sz) (a := a) (b := b) (by omega)
      show dfst sz a ≤ dfst sz b + sz b
      omega
    · rw [show a = b + 1 by omega]; exact Nat.le_refl _
theorem boR_spec {sz : Nat → Nat} {t : Nat} : ∀ {k : Nat}, t < dfst sz k → boR sz t k < k ∧ dfst sz (boR sz t k) ≤ t ∧ t < dfst sz (boR sz t k + 1)
  | 0, h => absurd h (Nat.not_lt_zero t)
  | k + 1, h => by
    unfold boR
    by_cases hc : dfst sz k ≤ t
    · rw [if_pos hc]; exact ⟨Nat.lt_succ_self k, hc, h⟩
    · rw [if_neg hc]
      have := boR_spec (sz := sz) (t := t) (k := k) (by omega)
      exact ⟨by omega, this.2.1, this.2.2⟩
theorem bo_spec {D : Dk} {t : Nat} (h : t < dnt D) : bo D t < D.1 ∧ dfst D.2.1 (bo D t) ≤ t ∧ t < dfst D.2.1 (bo D t) + D.2.1 (bo D t) := boR_spec h
theorem bo_uniq {D : Dk} {t b : Nat} (h : t < dnt D) (h1 : dfst D.2.1 b ≤ t) (h2 : t < dfst D.2.1 b + D.2.1 b) : bo D t = b := by
  obtain ⟨q1, q2, q3⟩ := bo_spec h
  rcases Nat.lt_trichotomy (bo D t) b with q | q | q
  · have := dfst_mono (sz := D.2.1) (a := bo D t + 1) (b := b) (by omega)
    have e : dfst D.2.1 (bo D t + 1) = dfst D.2.1 (bo D t) + D.2.1 (bo D t) := rfl
    omega
  · exact q
  · have := dfst_mono (sz := D.2.1) (a := b + 1) (b := bo D t) (by omega)
    have e : dfst D.2.1 (b + 1) = dfst D.2.1 b + D.2.1 b := rfl
    omega
theorem dfst_le {D : Dk} {b : Nat} (h : b < D.1) : dfst D.2.1 b + D.2.1 b ≤ dnt D := dfst_mono (sz := D.2.1) (a := b + 1) (b := D.1) (by omega)
/-- tracks; log (how many, tracks, values); journal (how many, band, full, values); down; track writes -/
abbrev Sd : Type := (Nat → Int32) × (Nat × (Nat → Nat) × (Nat → Int32)) × (Nat × Nat × Bool × (Nat → Int32)) × Bool × Int32
def sTr (s : Sd) : Nat → Int32 := s.1
def sn (s : Sd) : Nat := s.2.1.1
def se (s : Sd) : Nat → Nat := s.2.1.2.1
def sv (s : Sd) : Nat → Int32 := s.2.1.2.2
def jn (s : Sd) : Nat := s.2.2.1.1
def jb (s : Sd) : Nat := s.2.2.1.2.1
def jf (s : Sd) : Bool := s.2.2.1.2.2.1
def jv (s : Sd) : Nat → Int32 := s.2.2.1.2.2.2
def sdn (s : Sd) : Bool := s.2.2.2.1
def sct (s : Sd) : Int32 := s.2.2.2.2
def WFS (D : Dk) (s : Sd) : Prop := sn s ≤ D.2.2.2.1 ∧ (∀ i, i < sn s → se s i < dnt D) ∧ (0 < jn s → jb s < D.1 ∧ jn s ≤ D.2.1 (jb s)) ∧ (jf s = true → 0 < jn s ∧ jn s = D.2.1 (jb s))
/-- as long as it isn't down, the journal is empty -/
def QT (s : Sd) : Prop := sdn s = false → jn s = 0 ∧ jf s = false
/-- the class's Shape, State -/
def RSh (o : Ob) (D : Dk) : Prop := (∀ b, b < D.1 → o.2.1 0 b = nI (dfst D.2.1 b) ∧ o.2.1 1 b = nI (D.2.1 b)) ∧ (∀ t, t < dnt D → o.2.1 2 t = nI (bo D t)) ∧ o.1 3 = nI D.1 ∧ o.1 4 = nI (dnt D) ∧ o.1 5 = nI D.2.2.1 ∧ o.1 6 = nI D.2.2.2.1 ∧ o.1 7 = b2i D.2.2.2.2
def RX (o : Ob) (s : Sd) : Prop := (∀ t, t < 48 → o.2.1 0 t = sTr s t) ∧ o.1 4 = nI (sn s) ∧ (∀ i, i < sn s → o.2.1 1 i = nI (se s i)) ∧ (∀ i, i < sn s → o.2.1 2 i = sv s i) ∧ o.1 5 = nI (jn s) ∧ (0 < jn s → o.1 6 = nI (jb s)) ∧ o.1 7 = b2i (jf s) ∧ (∀ i, i < jn s → o.2.1 3 i = jv s i) ∧ o.1 8 = b2i (sdn s) ∧ o.1 9 = sct s
/-- the reference's row of numbers; its bands -/
def RM (f : Nat → Int32) (s : Sd) : Prop := (∀ t, t < 48 → f t = sTr s t) ∧ f 48 = nI (sn s) ∧ (∀ i, i < sn s → f (49 + i) = nI (se s i)) ∧ (∀ i, i < sn s → f (73 + i) = sv s i) ∧ f 99 = nI (jn s) ∧ (0 < jn s → f 98 = nI (jb s)) ∧ f 100 = b2i (jf s) ∧ (∀ i, i < jn s → f (101 + i) = jv s i) ∧ f 97 = b2i (sdn s) ∧ f 109 = sct s
def RMs (nd : Nat) (w : Wd) (D : Dk) : Prop := (w 11 0).1 23 = nI D.1 ∧ (w 11 0).1 24 = nI D.2.2.2.1 ∧ (∀ b, b < D.1 → (w 11 0).2.1 21 b = nI (dfst D.2.1 b) ∧ (w 11 0).2.1 22 b = nI (D.2.1 b)) ∧ ∃ d, (w 11 0).2.2.1 3 = d + 1 ∧ d < nd ∧ (w 10 d).1 0 = nI D.2.2.1 ∧ (w 10 d).1 8 = b2i D.2.2.2.2
/-- the reference's working row put anew -/
def mX (w : Wd) (f : Nat → Int32) : Wd := sR w 11 0 16 f
theorem mX_x {w : Wd} {f : Nat → Int32} : (mX w f 11 0).2.1 16 = f := by unfold mX sR; rw [sO_at]; exact va_up_self (w 11 0).2.1 16 f
theorem mX_r {w : Wd} {f : Nat → Int32} {k : Nat} (h : k ≠ 16) : (mX w f 11 0).2.1 k = (w 11 0).2.1 k := by unfold mX sR; rw [sO_at]; exact va_up_ne _ _ h
theorem mX_i {w : Wd} {f : Nat → Int32} : (mX w f 11 0).1 = (w 11 0).1 := by unfold mX sR; rw [sO_at]; rfl
theorem mX_p {w : Wd} {f : Nat → Int32} : (mX w f 11 0).2.2 = (w 11 0).2.2 := by unfold mX sR; rw [sO_at]; rfl
theorem mX_c {w : Wd} {f : Nat → Int32} {c j : Nat} (h : c ≠ 11) : mX w f c j = w c j := sO_nc h
theorem mX_s {w : Wd} {f : Nat → Int32} {i : Nat} {v : Int32} : sA (mX w f) 11 0 16 i v = mX w (upd f i v) := by
  unfold sA oA
  rw [mX_x]
  unfold mX sR oR
  rw [sO_at, sO_sO]
  congr 1
  show ((w 11 0).1, va_up (va_up (w 11 0).2.1 16 f) 16 (upd f i v), (w 11 0).2.2) = _
  rw [bx_uu]
theorem mX_self {w : Wd} : mX w ((w 11 0).2.1 16) = w := by
  unfold mX sR oR
  rw [show ((w 11 0).1, va_up (w 11 0).2.1 16 ((w 11 0).2.1 16), (w 11 0).2.2) = w 11 0 from ?_]
  · exact sO_id
  · rw [show va_up (w 11 0).2.1 16 ((w 11 0).2.1 16) = (w 11 0).2.1 from ?_]
    funext k
    by_cases h : k = 16
    · subst h; exact va_up_self _ _ _
    · exact va_up_ne _ _ h
/-- a State written -/
theorem sI_s {w : Wd} {c j k : Nat} {v : Int32} {o : Ob} : sI (sO w c j o) c j k v = sO w c j (oI o k v) := by unfold sI; rw [sO_at, sO_sO]
theorem sA_s {w : Wd} {c j k i : Nat} {v : Int32} {o : Ob} : sA (sO w c j o) c j k i v = sO w c j (oA o k i v) := by unfold sA; rw [sO_at, sO_sO]
theorem sR_s {w : Wd} {c j k : Nat} {f : Nat → Int32} {o : Ob} : sR (sO w c j o) c j k f = sO w c j (oR o k f) := by unfold sR; rw [sO_at, sO_sO]
theorem oI_a {o : Ob} {k : Nat} {v : Int32} : (oI o k v).1 k = v := va_up_self _ _ _
theorem oI_n {o : Ob} {k m : Nat} {v : Int32} (h : m ≠ k) : (oI o k v).1 m = o.1 m := va_up_ne _ _ h
theorem oI_2 {o : Ob} {k : Nat} {v : Int32} : (oI o k v).2 = o.2 := rfl
theorem oA_1 {o : Ob} {k i : Nat} {v : Int32} : (oA o k i v).1 = o.1 := rfl
theorem oA_a {o : Ob} {k i : Nat} {v : Int32} : (oA o k i v).2.1 k = upd (o.2.1 k) i v := va_up_self _ _ _
theorem oA_n {o : Ob} {k m i : Nat} {v : Int32} (h : m ≠ k) : (oA o k i v).2.1 m = o.2.1 m := va_up_ne _ _ h
theorem oA_p {o : Ob} {k i : Nat} {v : Int32} : (oA o k i v).2.2 = o.2.2 := rfl
theorem oR_1 {o : Ob} {k : Nat} {f : Nat → Int32} : (oR o k f).1 = o.1 := rfl
theorem oR_a {o : Ob} {k : Nat} {f : Nat → Int32} : (oR o k f).2.1 k = f := va_up_self _ _ _
theorem oR_n {o : Ob} {k m : Nat} {f : Nat → Int32} (h : m ≠ k) : (oR o k f).2.1 m = o.2.1 m := va_up_ne _ _ h
theorem oR_p {o : Ob} {k : Nat} {f : Nat → Int32} : (oR o k f).2.2 = o.2.2 := rfl
/-! ===== the class's at, Shape ===== -/
theorem at_in {c j k t : Nat} {w : Wd} (h : t < aln c j k) (hl : aln c j k < 2 ^ 31) : fX9_at c j k w (nI t) = some ((w c j).2.1 k t, w) := by
  unfold fX9_at
  simp (disch := omega) only [↓mo_1, ↓mo_2, ad_m1, ite_m1_lt, ite_m2_lt, ite_le_m1, ite_eq_m1, ite_eq_m2, ite_m1_m1, ite_m2_m2, ite_T, ite_F, ite_nz, ite_zz, ite_m1_le, ite_m1_eq, oi_none, oi_some, ob_some, lw_def, ck_true, ckp_su, ite_lt_t, ite_lt_f, ite_le_t, ite_le_f, ite_eq_t, ite_eq_f, ck_inb, nI_add, sb_nI, mu_nI, nI_clamp, sO_at, sO_sO, Nat.add_sub_cancel, Nat.zero_add, Nat.add_zero, li_0, li_1, li_2, li_3, li_4, li_5, li_6, li_7, li_8, li_9, li_10, li_11, li_12, li_16, li_20, li_24, li_31, li_32, li_48, li_49, li_73, li_74, li_75, li_97, li_98, li_99, li_100, li_101, li_109, li_110, li_255, li_680, li_700, li_9999, li_65536, li_65537]
theorem at_out {c j k t : Nat} {w : Wd} (h : aln c j k ≤ t) (hl : t < 2 ^ 31) : fX9_at c j k w (nI t) = some (0, w) := by
  unfold fX9_at
  simp (disch := omega) only [↓mo_1, ↓mo_2, ad_m1, ite_m1_lt, ite_m2_lt, ite_le_m1, ite_eq_m1, ite_eq_m2, ite_m1_m1, ite_m2_m2, ite_T, ite_F, ite_nz, ite_zz, ite_m1_le, ite_m1_eq, oi_none, oi_some, ob_some, lw_def, ck_true, ckp_su, ite_lt_t, ite_lt_f, ite_le_t, ite_le_f, ite_eq_t, ite_eq_f, ck_inb, nI_add, sb_nI, mu_nI, nI_clamp, sO_at, sO_sO, Nat.add_sub_cancel, Nat.zero_add, Nat.add_zero, li_0, li_1, li_2, li_3, li_4, li_5, li_6, li_7, li_8, li_9, li_10, li_11, li_12, li_16, li_20, li_24, li_31, li_32, li_48, li_49, li_73, li_74, li_75, li_97, li_98, li_99, li_100, li_101, li_109, li_110, li_255, li_680, li_700, li_9999, li_65536, li_65537]
theorem x_bandHolding {D : Dk} {w : Wd} {a t : Nat} (hS : RSh (w 5 a) D) (hD : WFD D) (ht : t < dnt D) : fX5_bandHolding a w (nI t) = some (nI (bo D t), w) := by
  have hl : aln 5 a 2 = 48 := rfl
  have h1 := hD.2.2.2.1
  unfold fX5_bandHolding
  rw [at_in (by omega) (by omega), hS.2.1 t ht]
  rfl
theorem x_firstOf {D : Dk} {w : Wd} {a b : Nat} (hS : RSh (w 5 a) D) (hD : WFD D) (hb : b < D.1) : fX5_firstOf a w (nI b) = some (nI (dfst D.2.1 b), w) := by
  have hl : aln 5 a 0 = 24 := rfl
  have h1 := hD.2.1
  unfold fX5_firstOf
  rw [at_in (by omega) (by omega), (hS.1 b hb).1]
  rfl
theorem x_tracksOf {D : Dk} {w : Wd} {a b : Nat} (hS : RSh (w 5 a) D) (hD : WFD D) (hb : b < D.1) : fX5_tracksOf a w (nI b) = some (nI (D.2.1 b), w) := by
  have hl : aln 5 a 1 = 24 := rfl
  have h1 := hD.2.1
  unfold fX5_tracksOf
  rw [at_in (by omega) (by omega), (hS.1 b hb).2]
  rfl
theorem x_stepsOf {D : Dk} {w : Wd} {a b : Nat} (hS : RSh (w 5 a) D) (hD : WFD D) (hb : b < D.1) : fX5_stepsOf a w (nI b) = some (nI (2 * D.2.1 b + 2), w) := by
  unfold fX5_stepsOf
  rw [x_tracksOf hS hD hb]
  simp (disch := omega) only [↓mo_1, ↓mo_2, ad_m1, ite_m1_lt, ite_m2_lt, ite_le_m1, ite_eq_m1, ite_eq_m2, ite_m1_m1, ite_m2_m2, ite_T, ite_F, ite_nz, ite_zz, ite_m1_le, ite_m1_eq, oi_none, oi_some, ob_some, lw_def, ck_true, ckp_su, ite_lt_t, ite_lt_f, ite_le_t, ite_le_f, ite_eq_t, ite_eq_f, ck_inb, nI_add, sb_nI, mu_nI, nI_clamp, sO_at, sO_sO, Nat.add_sub_cancel, Nat.zero_add, Nat.add_zero, li_0, li_1, li_2, li_3, li_4, li_5, li_6, li_7, li_8, li_9, li_10, li_11, li_12, li_16, li_20, li_24, li_31, li_32, li_48, li_49, li_73, li_74, li_75, li_97, li_98, li_99, li_100, li_101, li_109, li_110, li_255, li_680, li_700, li_9999, li_65536, li_65537]
/-! ===== the last entry of a track ===== -/
def lpo (e : Nat → Nat) (t : Nat) : Nat → Option Nat
  | 0 => none
  | k + 1 => if e k = t then some k else lpo e t k
theorem lpo_lt {e : Nat → Nat} {t i : Nat} : ∀ {k : Nat}, lpo e t k = some i → i < k ∧ e i = t
  | 0, h => by cases h
  | k + 1, h => by
    unfold lpo at h
    by_cases hc : e k = t
    · rw [if_pos hc] at h; cases h; exact ⟨Nat.lt_succ_self _, hc⟩
    · rw [if_neg hc] at h
      have := lpo_lt h
      exact ⟨by omega, this.2⟩
theorem lpo_congr {e e2 : Nat → Nat} {t : Nat} : ∀ {k : Nat}, (∀ i, i < k → e i = e2 i) → lpo e t k = lpo e2 t k
  | 0, _ => rfl
  | k + 1, h => by
    unfold lpo
    rw [h k (Nat.lt_succ_self k), lpo_congr (fun i hi => h i (Nat.lt_succ_of_lt hi))]
/-- the place of a track's live entry -/
def lpS (s : Sd) (t : Nat) : Option Nat := lpo (se s) t (sn s)
/-- what is read -/
def vaS (s : Sd) (t : Nat) : Int32 := match lpS s t with
  | some i => sv s i
  | none => sTr s t
section LP
variable {w : Wd} {j : Nat} {o : Ob} {D : Dk} {s : Sd} {nd : Nat} {f : Nat → Int32}
theorem WFS.n24 (h : WFS D s) (hD : WFD D) : sn s ≤ 24 := Nat.le_trans h.1 hD.2.2.2.2.2.2.2
theorem WFS.e31 (h : WFS D s) (hD : WFD D) {i : Nat} (hi : i < sn s) : se s i < 48 := Nat.lt_of_lt_of_le (h.2.1 i hi) hD.2.2.2.1
theorem x_lp (hD : WFD D) (hW : WFS D s) (hR : RX o s) {t : Nat} (ht : t < 2 ^ 31) : ∀ k, k ≤ sn s → ∀ m, k < m → fX7_livePlaceOf_15 j m (sO w 7 j o) (nI t) (nI k - nI 1) = some (oi (lpo (se s) t k), sO w 7 j o) := by
  have hn := hW.n24 hD
  intro k
  induction k with
  | zero =>
    intro _ m hm
    obtain ⟨m, rfl⟩ : ∃ q, m = q + 1 := ⟨m - 1, by omega⟩
    rw [fX7_livePlaceOf_15.eq_2, nI_z]
    simp (disch := omega) only [↓mo_1, ↓mo_2, ad_m1, ite_m1_lt, ite_m2_lt, ite_le_m1, ite_eq_m1, ite_eq_m2, ite_m1_m1, ite_m2_m2, ite_T, ite_F, ite_nz, ite_zz, ite_m1_le, ite_m1_eq, oi_none, oi_some, ob_some, lw_def, ck_true, ckp_su, ite_lt_t, ite_lt_f, ite_le_t, ite_le_f, ite_eq_t, ite_eq_f, ck_inb, nI_add, sb_nI, mu_nI, nI_clamp, sO_at, sO_sO, Nat.add_sub_cancel, Nat.zero_add, Nat.add_zero, li_0, li_1, li_2, li_3, li_4, li_5, li_6, li_7, li_8, li_9, li_10, li_11, li_12, li_16, li_20, li_24, li_31, li_32, li_48, li_49, li_73, li_74, li_75, li_97, li_98, li_99, li_100, li_101, li_109, li_110, li_255, li_680, li_700, li_9999, li_65536, li_65537]
    rfl
  | succ k ih =>
    intro hk m hm
    obtain ⟨m, rfl⟩ : ∃ q, m = q + 1 := ⟨m - 1, by omega⟩
    have h1 := hR.2.2.1 k (by omega)
    have h2 := hW.e31 hD (i := k) (by omega)
    rw [fX7_livePlaceOf_15.eq_2]
    simp (disch := omega) only [↓mo_1, ↓mo_2, ad_m1, ite_m1_lt, ite_m2_lt, ite_le_m1, ite_eq_m1, ite_eq_m2, ite_m1_m1, ite_m2_m2, ite_T, ite_F, ite_nz, ite_zz, ite_m1_le, ite_m1_eq, oi_none, oi_some, ob_some, lw_def, ck_true, ckp_su, ite_lt_t, ite_lt_f, ite_le_t, ite_le_f, ite_eq_t, ite_eq_f, ck_inb, nI_add, sb_nI, mu_nI, nI_clamp, sO_at, sO_sO, Nat.add_sub_cancel, Nat.zero_add, Nat.add_zero, li_0, li_1, li_2, li_3, li_4, li_5, li_6, li_7, li_8, li_9, li_10, li_11, li_12, li_16, li_20, li_24, li_31, li_32, li_48, li_49, li_73, li_74, li_75, li_97, li_98, li_99, li_100, li_101, li_109, li_110, li_255, li_680, li_700, li_9999, li_65536, li_65537, h1]
    unfold lpo
    by_cases hc : se s k = t
    · rw [if_pos (by rw [hc]), if_pos hc]; rfl
    · rw [if_neg (fun q => hc ((nI_eq (by omega) ht).mp q)), if_neg hc]
      exact ih (by omega) m (by omega)
theorem x_livePlaceOf (hD : WFD D) (hW : WFS D s) (hR : RX o s) {t : Nat} (ht : t < 2 ^ 31) : fX7_livePlaceOf j (sO w 7 j o) (nI t) = some (oi (lpS s t), sO w 7 j o) := by
  have hn := hW.n24 hD
  unfold fX7_livePlaceOf
  simp (disch := omega) only [sO_at, hR.2.1, lw_def, ite_lt_f, li_1]
  exact x_lp hD hW hR ht _ (Nat.le_refl _) fuel0 (by unfold fuel0; omega)
theorem m_lp (hD : WFD D) (hW : WFS D s) (hR : RM f s) {t : Nat} (ht : t < 2 ^ 31) : ∀ k, k ≤ sn s → ∀ m, k < m → fX11_liveOf_10 nd m (mX w f) (nI t) (nI k - nI 1) = some (oi (lpo (se s) t k), mX w f) := by
  have hn := hW.n24 hD
  intro k
  induction k with
  | zero =>
    intro _ m hm
    obtain ⟨m, rfl⟩ : ∃ q, m = q + 1 := ⟨m - 1, by omega⟩
    rw [fX11_liveOf_10.eq_2, nI_z]
    simp (disch := omega) only [↓mo_1, ↓mo_2, ad_m1, ite_m1_lt, ite_m2_lt, ite_le_m1, ite_eq_m1, ite_eq_m2, ite_m1_m1, ite_m2_m2, ite_T, ite_F, ite_nz, ite_zz, ite_m1_le, ite_m1_eq, oi_none, oi_some, ob_some, lw_def, ck_true, ckp_su, ite_lt_t, ite_lt_f, ite_le_t, ite_le_f, ite_eq_t, ite_eq_f, ck_inb, nI_add, sb_nI, mu_nI, nI_clamp, sO_at, sO_sO, Nat.add_sub_cancel, Nat.zero_add, Nat.add_zero, li_0, li_1, li_2, li_3, li_4, li_5, li_6, li_7, li_8, li_9, li_10, li_11, li_12, li_16, li_20, li_24, li_31, li_32, li_48, li_49, li_73, li_74, li_75, li_97, li_98, li_99, li_100, li_101, li_109, li_110, li_255, li_680, li_700, li_9999, li_65536, li_65537]
    rfl
  | succ k ih =>
    intro hk m hm
    obtain ⟨m, rfl⟩ : ∃ q, m = q + 1 := ⟨m - 1, by omega⟩
    have h1 := hR.2.2.1 k (by omega)
    have h2 := hW.e31 hD (i := k) (by omega)
    rw [fX11_liveOf_10.eq_2]
    simp (disch := omega) only [↓mo_1, ↓mo_2, ad_m1, ite_m1_lt, ite_m2_lt, ite_le_m1, ite_eq_m1, ite_eq_m2, ite_m1_m1, ite_m2_m2, ite_T, ite_F, ite_nz, ite_zz, ite_m1_le, ite_m1_eq, oi_none, oi_some, ob_some, lw_def, ck_true, ckp_su, ite_lt_t, ite_lt_f, ite_le_t, ite_le_f, ite_eq_t, ite_eq_f, ck_inb, nI_add, sb_nI, mu_nI, nI_clamp, sO_at, sO_sO, Nat.add_sub_cancel, Nat.zero_add, Nat.add_zero, li_0, li_1, li_2, li_3, li_4, li_5, li_6, li_7, li_8, li_9, li_10, li_11, li_12, li_16, li_20, li_24, li_31, li_32, li_48, li_49, li_73, li_74, li_75, li_97, li_98, li_99, li_100, li_101, li_109, li_110, li_255, li_680, li_700, li_9999, li_65536, li_65537, mX_x, h1]
    unfold lpo
    by_cases hc : se s k = t
    · rw [if_pos (by rw [hc]), if_pos hc]; rfl
    · rw [if_neg (fun q => hc ((nI_eq (by omega) ht).mp q)), if_neg hc]
      exact ih (by omega) m (by omega)
theorem m_liveOf (hD : WFD D) (hW : WFS D s) (hR : RM f s) {t : Nat} (ht : t < 2 ^ 31) : fX11_liveOf nd (mX w f) (nI t) = some (oi (lpS s t), mX w f) := by
  have hn := hW.n24 hD
  unfold fX11_liveOf
  simp (disch := omega) only [↓mo_1, ↓mo_2, ad_m1, ite_m1_lt, ite_m2_lt, ite_le_m1, ite_eq_m1, ite_eq_m2, ite_m1_m1, ite_m2_m2, ite_T, ite_F, ite_nz, ite_zz, ite_m1_le, ite_m1_eq, oi_none, oi_some, ob_some, lw_def, ck_true, ckp_su, ite_lt_t, ite_lt_f, ite_le_t, ite_le_f, ite_eq_t, ite_eq_f, ck_inb, nI_add, sb_nI, mu_nI, nI_clamp, sO_at, sO_sO, Nat.add_sub_cancel, Nat.zero_add, Nat.add_zero, li_0, li_1, li_2, li_3, li_4, li_5, li_6, li_7, li_8, li_9, li_10, li_11, li_12, li_16, li_20, li_24, li_31, li_32, li_48, li_49, li_73, li_74, li_75, li_97, li_98, li_99, li_100, li_101, li_109, li_110, li_255, li_680, li_700, li_9999, li_65536, li_65537, mX_x, hR.2.1]
  exact m_lp hD hW hR ht _ (Nat.le_refl _) fuel0 (by unfold fuel0; omega)
theorem lpS_lt {t i : Nat} (h : lpS s t = some i) : i < sn s ∧ se s i = t := lpo_lt h
theorem x_valueOf (hD : WFD D) (hW : WFS D s) (hR : RX o s) {t : Nat} (ht : t < 48) : fX7_valueOf j (sO w 7 j o) (nI t) = some (vaS s t, sO w 7 j o) := by
  have hn := hW.n24 hD
  have hl0 : aln 7 j 0 = 48 := rfl
  have hl2 : aln 7 j 2 = 24 := rfl
  unfold fX7_valueOf
  rw [x_livePlaceOf hD hW hR (by omega)]
  unfold vaS
  cases h : lpS s t with
  | none =>
    simp (disch := omega) only [↓mo_1, ↓mo_2, ad_m1, ite_m1_lt, ite_m2_lt, ite_le_m1, ite_eq_m1, ite_eq_m2, ite_m1_m1, ite_m2_m2, ite_T, ite_F, ite_nz, ite_zz, ite_m1_le, ite_m1_eq, oi_none, oi_some, ob_some, lw_def, ck_true, ckp_su, ite_lt_t, ite_lt_f, ite_le_t, ite_le_f, ite_eq_t, ite_eq_f, ck_inb, nI_add, sb_nI, mu_nI, nI_clamp, sO_at, sO_sO, Nat.add_sub_cancel, Nat.zero_add, Nat.add_zero, li_0, li_1, li_2, li_3, li_4, li_5, li_6, li_7, li_8, li_9, li_10, li_11, li_12, li_16, li_20, li_24, li_31, li_32, li_48, li_49, li_73, li_74, li_75, li_97, li_98, li_99, li_100, li_101, li_109, li_110, li_255, li_680, li_700, li_9999, li_65536, li_65537, at_in, hR.1 t ht]
  | some i =>
    have hi := (lpS_lt h).1
    simp (disch := omega) only [↓mo_1, ↓mo_2, ad_m1, ite_m1_lt, ite_m2_lt, ite_le_m1, ite_eq_m1, ite_eq_m2, ite_m1_m1, ite_m2_m2, ite_T, ite_F, ite_nz, ite_zz, ite_m1_le, ite_m1_eq, oi_none, oi_some, ob_some, lw_def, ck_true, ckp_su, ite_lt_t, ite_lt_f, ite_le_t, ite_le_f, ite_eq_t, ite_eq_f, ck_inb, nI_add, sb_nI, mu_nI, nI_clamp, sO_at, sO_sO, Nat.add_sub_cancel, Nat.zero_add, Nat.add_zero, li_0, li_1, li_2, li_3, li_4, li_5, li_6, li_7, li_8, li_9, li_10, li_11, li_12, li_16, li_20, li_24, li_31, li_32, li_48, li_49, li_73, li_74, li_75, li_97, li_98, li_99, li_100, li_101, li_109, li_110, li_255, li_680, li_700, li_9999, li_65536, li_65537, at_in, hR.2.2.2.1 i hi]
theorem m_readOf (hD : WFD D) (hW : WFS D s) (hR : RM f s) {t : Nat} (ht : t < 48) : fX11_readOf nd (mX w f) (nI t) = some (vaS s t, mX w f) := by
  have hn := hW.n24 hD
  unfold fX11_readOf
  rw [m_liveOf hD hW hR (by omega)]
  unfold vaS
  cases h : lpS s t with
  | none =>
    simp (disch := omega) only [↓mo_1, ↓mo_2, ad_m1, ite_m1_lt, ite_m2_lt, ite_le_m1, ite_eq_m1, ite_eq_m2, ite_m1_m1, ite_m2_m2, ite_T, ite_F, ite_nz, ite_zz, ite_m1_le, ite_m1_eq, oi_none, oi_some, ob_some, lw_def, ck_true, ckp_su, ite_lt_t, ite_lt_f, ite_le_t, ite_le_f, ite_eq_t, ite_eq_f, ck_inb, nI_add, sb_nI, mu_nI, nI_clamp, sO_at, sO_sO, Nat.add_sub_cancel, Nat.zero_add, Nat.add_zero, li_0, li_1, li_2, li_3, li_4, li_5, li_6, li_7, li_8, li_9, li_10, li_11, li_12, li_16, li_20, li_24, li_31, li_32, li_48, li_49, li_73, li_74, li_75, li_97, li_98, li_99, li_100, li_101, li_109, li_110, li_255, li_680, li_700, li_9999, li_65536, li_65537, mX_x, hR.1 t ht]
  | some i =>
    have hi := (lpS_lt h).1
    simp (disch := omega) only [↓mo_1, ↓mo_2, ad_m1, ite_m1_lt, ite_m2_lt, ite_le_m1, ite_eq_m1, ite_eq_m2, ite_m1_m1, ite_m2_m2, ite_T, ite_F, ite_nz, ite_zz, ite_m1_le, ite_m1_eq, oi_none, oi_some, ob_some, lw_def, ck_true, ckp_su, ite_lt_t, ite_lt_f, ite_le_t, ite_le_f, ite_eq_t, ite_eq_f, ck_inb, nI_add, sb_nI, mu_nI, nI_clamp, sO_at, sO_sO, Nat.add_sub_cancel, Nat.zero_add, Nat.add_zero, li_0, li_1, li_2, li_3, li_4, li_5, li_6, li_7, li_8, li_9, li_10, li_11, li_12, li_16, li_20, li_24, li_31, li_32, li_48, li_49, li_73, li_74, li_75, li_97, li_98, li_99, li_100, li_101, li_109, li_110, li_255, li_680, li_700, li_9999, li_65536, li_65537, mX_x, hR.2.2.2.1 i hi]
end LP
