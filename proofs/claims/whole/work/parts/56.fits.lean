/-! ===== the sets that fit ===== -/
def bitN (i k : Nat) : Nat := i / 2 ^ k % 2
theorem bit_e {i k : Nat} (hi : i < 16) (hk : k < 4) : ((nI i >>> (nI k &&& nI 31)) &&& nI 1) = nI (bitN i k) := by
  have : ∀ i, i < 16 → ∀ k, k < 4 → ((nI i >>> (nI k &&& nI 31)) &&& nI 1) = nI (bitN i k) := by decide
  exact this i hi k hk
theorem shl_u {u : Nat} (hu : u ≤ 4) : (nI 1 <<< (nI u &&& nI 31)) = nI (2 ^ u) := by
  rcases (show u = 0 ∨ u = 1 ∨ u = 2 ∨ u = 3 ∨ u = 4 by omega) with rfl | rfl | rfl | rfl | rfl <;> decide
theorem p2_16 {u : Nat} (hu : u ≤ 4) : 1 ≤ 2 ^ u ∧ 2 ^ u ≤ 16 := by
  rcases (show u = 0 ∨ u = 1 ∨ u = 2 ∨ u = 3 ∨ u = 4 by omega) with rfl | rfl | rfl | rfl | rfl <;> decide
def fo (op : Int32 → Nat → Int32) (z : Int32) (l : Nat → Nat) : Nat → Int32
  | 0 => z
  | k + 1 => op (fo op z l k) (l k)
def fp (op : Int32 → Nat → Int32) (z : Int32) (p : Nat → Bool) : Nat → Int32
  | 0 => z
  | n + 1 => if p n = true then op (fp op z p n) n else fp op z p n
theorem fo_congr {op : Int32 → Nat → Int32} {z : Int32} {l l2 : Nat → Nat} : ∀ {k : Nat}, (∀ i, i < k → l i = l2 i) → fo op z l k = fo op z l2 k
  | 0, _ => rfl
  | k + 1, h => by
    show op (fo op z l k) (l k) = op (fo op z l2 k) (l2 k)
    rw [fo_congr (fun i hi => h i (by omega)), h k (by omega)]
section FIT
variable {D : Dk} {T : Tk}
theorem fl_1 {n : Nat} : (fitL D T n).1 = ctp (fitB D T) n := flt_ct n
theorem fl_t {n : Nat} (h : fitB D T n = true) : fitL D T (n + 1) = ((fitL D T n).1 + 1, va_up (fitL D T n).2 (fitL D T n).1 n) := by
  unfold fitL
  rw [flt_t h]
theorem fl_f {n : Nat} (h : ¬ fitB D T n = true) : fitL D T (n + 1) = fitL D T n := by
  unfold fitL
  rw [flt_f h]
theorem fo_fp {op : Int32 → Nat → Int32} {z : Int32} : ∀ n, fo op z (fitL D T n).2 (fitL D T n).1 = fp op z (fitB D T) n
  | 0 => rfl
  | n + 1 => by
    have ih := fo_fp (op := op) (z := z) n
    unfold fp
    by_cases c : fitB D T n = true
    · rw [if_pos c, fl_t c]
      show op (fo op z (va_up (fitL D T n).2 (fitL D T n).1 n) (fitL D T n).1) (va_up (fitL D T n).2 (fitL D T n).1 n (fitL D T n).1) = _
      rw [va_up_self, fo_congr (l2 := (fitL D T n).2) (fun i hi => va_up_ne _ _ (by omega)), ih]
    · rw [if_neg c, fl_f c]; exact ih
theorem fl_lt {n : Nat} : ∀ i, i < (fitL D T n).1 → (fitL D T n).2 i < n := by
  intro i hi
  exact flt_from (kp := fitB D T) (e := fun i => i) (v := fun _ => 0) (P := fun x => x < n) (n := n) (fun i hi => hi) n (Nat.le_refl _) i hi
/-- how often a bit stands in the sets that fit -/
def obS (D : Dk) (T : Tk) (k : Nat) : Nat → Nat
  | 0 => 0
  | n + 1 => if fitB D T n = true then obS D T k n + bitN n k else obS D T k n
theorem ob_le {k : Nat} : ∀ n, obS D T k n ≤ ctp (fitB D T) n
  | 0 => Nat.le_refl _
  | n + 1 => by
    have ih := ob_le (k := k) n
    have hb : bitN n k < 2 := Nat.mod_lt _ (by omega)
    unfold obS
    by_cases c : fitB D T n = true
    · rw [if_pos c, ctp_t c]; omega
    · rw [if_neg c, ctp_f c]; exact ih
def op1 (a : Int32) (i : Nat) : Int32 := a ||| nI i
def op2 (a : Int32) (i : Nat) : Int32 := a &&& nI i
def op3 (k : Nat) (a : Int32) (i : Nat) : Int32 := a + ((nI i >>> (nI k &&& nI 31)) &&& nI 1)
theorem ob_fp {k : Nat} (hk : k < 4) : ∀ n, n ≤ 16 → fp (op3 k) (nI 0) (fitB D T) n = nI (obS D T k n)
  | 0, _ => rfl
  | n + 1, hn => by
    have ih := ob_fp hk n (by omega)
    unfold fp obS
    by_cases c : fitB D T n = true
    · rw [if_pos c, if_pos c, ih]
      unfold op3
      rw [bit_e (by omega) hk, nI_add]
    · rw [if_neg c, if_neg c]; exact ih
/-- of all bits: the same from 15 on and from those of the unsure ones on -/
def evS (D : Dk) (T : Tk) : Int32 := if ctp (fitB D T) (2 ^ T.2.2.1.1) = 0 then nI 0 else fp op2 (nI 15) (fitB D T) (2 ^ T.2.2.1.1)
theorem an_e {u i : Nat} (hu : u ≤ 4) (hi : i < 2 ^ u) : nI (2 ^ u - 1) &&& nI i = nI i ∧ nI 15 &&& nI i = nI i := by
  have : ∀ u, u ≤ 4 → ∀ i, i < 2 ^ u → nI (2 ^ u - 1) &&& nI i = nI i ∧ nI 15 &&& nI i = nI i := by decide
  exact this u hu i hi
theorem fp_an {u : Nat} (hu : u ≤ 4) : ∀ n, n ≤ 2 ^ u → ctp (fitB D T) n = 0 ∧ fp op2 (nI (2 ^ u - 1)) (fitB D T) n = nI (2 ^ u - 1) ∧ fp op2 (nI 15) (fitB D T) n = nI 15 ∨ fp op2 (nI (2 ^ u - 1)) (fitB D T) n = fp op2 (nI 15) (fitB D T) n ∧ 0 < ctp (fitB D T) n
  | 0, _ => Or.inl ⟨rfl, rfl, rfl⟩
  | n + 1, hn => by
    have ih := fp_an hu n (by omega)
    unfold fp
    by_cases c : fitB D T n = true
    · rw [if_pos c, if_pos c, ctp_t c]
      refine Or.inr ⟨?_, by omega⟩
      rcases ih with ⟨h1, h2, h3⟩ | ⟨h1, h2⟩
      · rw [h2, h3]
        unfold op2
        rw [(an_e hu (show n < 2 ^ u by omega)).1, (an_e hu (show n < 2 ^ u by omega)).2]
      · rw [h1]
    · rw [if_neg c, if_neg c, ctp_f c]; exact ih
/-- the set that stands at a place -/
def fdX (D : Dk) (T : Tk) (x : Int32) : Nat → Int32
  | 0 => m1
  | n + 1 => if fitB D T n = true then (if nI (ctp (fitB D T) n) = x then nI n else fdX D T x n) else fdX D T x n
theorem fd_in {i : Nat} : ∀ n, n ≤ 16 → i < (fitL D T n).1 → fdX D T (nI i) n = nI ((fitL D T n).2 i)
  | 0, _, hi => absurd hi (Nat.not_lt_zero i)
  | n + 1, hn, hi => by
    have hc := ctp_le (fitB D T) n
    have h1 := fl_1 (D := D) (T := T) (n := n)
    unfold fdX
    by_cases c : fitB D T n = true
    · rw [if_pos c]
      rw [fl_t c] at hi ⊢
      have hi' : i < (fitL D T n).1 + 1 := hi
      show _ = nI (va_up (fitL D T n).2 (fitL D T n).1 n i)
      by_cases e : i = (fitL D T n).1
      · rw [e, va_up_self, if_pos (by rw [h1])]
      · rw [va_up_ne _ _ e, if_neg (fun z => e (by have := (nI_eq (by omega) (by omega)).mp z; omega))]
        exact fd_in n (by omega) (by omega)
    · rw [if_neg c]
      rw [fl_f c] at hi ⊢
      exact fd_in n (by omega) hi
theorem fd_out {x : Int32} {N : Nat} (hx : x < nI 0 ∨ ¬ x < nI 0 ∧ nI (ctp (fitB D T) N) ≤ x) (hN : N ≤ 16) : ∀ n, n ≤ N → fdX D T x n = m1
  | 0, _ => rfl
  | n + 1, hn => by
    have ih := fd_out hx hN n (by omega)
    have hc := ctp_le (fitB D T) n
    unfold fdX
    by_cases c : fitB D T n = true
    · rw [if_pos c, if_neg (fun e => ?_)]
      · exact ih
      · have h2 := ctp_mono (p := fitB D T) (a := n + 1) (b := N) (by omega)
        have h3 := ctp_le (fitB D T) N
        rw [ctp_t c] at h2
        subst e
        rcases hx with h | ⟨-, h⟩
        · exact nI_nlt (Nat.zero_le _) (by omega) h
        · exact nI_ge (by omega) (by omega) h
    · rw [if_neg c]; exact ih
/-- at most left when an unsure write is told -/
def lmS (D : Dk) (T : Tk) (k : Nat) : Nat := if obS D T k (2 ^ T.2.2.1.1) < ctp (fitB D T) (2 ^ T.2.2.1.1) - obS D T k (2 ^ T.2.2.1.1) then ctp (fitB D T) (2 ^ T.2.2.1.1) - obS D T k (2 ^ T.2.2.1.1) else obS D T k (2 ^ T.2.2.1.1)
def btS (D : Dk) (T : Tk) : Nat → Option Nat
  | 0 => none
  | j + 1 => match btS D T j with
    | none => some j
    | some b => if lmS D T j < lmS D T b then some j else some b
def btA (D : Dk) (T : Tk) : Option Nat := if ctp (fitB D T) (2 ^ T.2.2.1.1) = 0 then none else btS D T T.2.2.1.1
theorem bt_lt {b : Nat} : ∀ j, btS D T j = some b → b < j
  | 0, h => by cases h
  | j + 1, h => by
    unfold btS at h
    cases hb : btS D T j with
    | none => rw [hb] at h; cases h; omega
    | some c =>
      rw [hb] at h
      have h' : (if lmS D T j < lmS D T c then some j else some c) = some b := h
      have := bt_lt j hb
      by_cases z : lmS D T j < lmS D T c
      · rw [if_pos z] at h'; cases h'; omega
      · rw [if_neg z] at h'; cases h'; omega
/-! the class -/
section FX
variable {w : Wd}
theorem x_is {op : Int32 → Nat → Int32} {z : Int32} {l : Nat × (Nat → Nat)} (hF : RF (w 1 0) l) (h16 : l.1 ≤ 16) (hop : ∀ a i, op a i = a ||| nI i) : ∀ r i, i + r = l.1 → ∀ m, r < m → fX1_inSome_4 m w (fo op z l.2 i) (nI i) = some (fo op z l.2 l.1, w) := by
  have hl : aln 1 0 0 = 16 := rfl
  intro r
  induction r with
  | zero =>
    intro i hi m hm
    obtain ⟨m, rfl⟩ : ∃ z, m = z + 1 := ⟨m - 1, by omega⟩
    have e : i = l.1 := by omega
    subst e
    rw [fX1_inSome_4.eq_2]
    simp (disch := omega) only [↓mo_1, ↓mo_2, ad_m1, ite_m1_lt, ite_m2_lt, ite_le_m1, ite_eq_m1, ite_eq_m2, ite_m1_m1, ite_m2_m2, ite_T, ite_F, ite_nz, ite_zz, ite_m1_le, ite_m1_eq, oi_none, oi_some, ob_some, lw_def, ck_true, ckp_su, ite_lt_t, ite_lt_f, ite_le_t, ite_le_f, ite_eq_t, ite_eq_f, ck_inb, nI_add, sb_nI, mu_nI, nI_clamp, sO_at, sO_sO, Nat.add_sub_cancel, Nat.zero_add, Nat.add_zero, li_0, li_1, li_2, li_3, li_4, li_5, li_6, li_7, li_8, li_9, li_10, li_11, li_12, li_16, li_20, li_24, li_31, li_32, li_48, li_49, li_73, li_74, li_75, li_97, li_98, li_99, li_100, li_101, li_109, li_110, li_255, li_680, li_700, li_9999, li_65536, li_65537, hF.1]
  | succ r ih =>
    intro i hi m hm
    obtain ⟨m, rfl⟩ : ∃ z, m = z + 1 := ⟨m - 1, by omega⟩
    have h2 := ih (i + 1) (by omega) m (by omega)
    have e3 : fo op z l.2 (i + 1) = fo op z l.2 i ||| nI (l.2 i) := hop _ _
    rw [e3] at h2
    rw [fX1_inSome_4.eq_2]
    simp (disch := omega) only [↓mo_1, ↓mo_2, ad_m1, ite_m1_lt, ite_m2_lt, ite_le_m1, ite_eq_m1, ite_eq_m2, ite_m1_m1, ite_m2_m2, ite_T, ite_F, ite_nz, ite_zz, ite_m1_le, ite_m1_eq, oi_none, oi_some, ob_some, lw_def, ck_true, ckp_su, ite_lt_t, ite_lt_f, ite_le_t, ite_le_f, ite_eq_t, ite_eq_f, ck_inb, nI_add, sb_nI, mu_nI, nI_clamp, sO_at, sO_sO, Nat.add_sub_cancel, Nat.zero_add, Nat.add_zero, li_0, li_1, li_2, li_3, li_4, li_5, li_6, li_7, li_8, li_9, li_10, li_11, li_12, li_16, li_20, li_24, li_31, li_32, li_48, li_49, li_73, li_74, li_75, li_97, li_98, li_99, li_100, li_101, li_109, li_110, li_255, li_680, li_700, li_9999, li_65536, li_65537, hF.1, at_in, hF.2 i (by omega)]
    exact h2
theorem x_ia {op : Int32 → Nat → Int32} {z : Int32} {l : Nat × (Nat → Nat)} (hF : RF (w 1 0) l) (h16 : l.1 ≤ 16) (hop : ∀ a i, op a i = a &&& nI i) : ∀ r i, i + r = l.1 → ∀ m, r < m → fX1_inAll_16 m w (fo op z l.2 i) (nI i) = some (fo op z l.2 l.1, w) := by
  have hl : aln 1 0 0 = 16 := rfl
  intro r
  induction r with
  | zero =>
    intro i hi m hm
    obtain ⟨m, rfl⟩ : ∃ z, m = z + 1 := ⟨m - 1, by omega⟩
    have e : i = l.1 := by omega
    subst e
    rw [fX1_inAll_16.eq_2]
    simp (disch := omega) only [↓mo_1, ↓mo_2, ad_m1, ite_m1_lt, ite_m2_lt, ite_le_m1, ite_eq_m1, ite_eq_m2, ite_m1_m1, ite_m2_m2, ite_T, ite_F, ite_nz, ite_zz, ite_m1_le, ite_m1_eq, oi_none, oi_some, ob_some, lw_def, ck_true, ckp_su, ite_lt_t, ite_lt_f, ite_le_t, ite_le_f, ite_eq_t, ite_eq_f, ck_inb, nI_add, sb_nI, mu_nI, nI_clamp, sO_at, sO_sO, Nat.add_sub_cancel, Nat.zero_add, Nat.add_zero, li_0, li_1, li_2, li_3, li_4, li_5, li_6, li_7, li_8, li_9, li_10, li_11, li_12, li_16, li_20, li_24, li_31, li_32, li_48, li_49, li_73, li_74, li_75, li_97, li_98, li_99, li_100, li_101, li_109, li_110, li_255, li_680, li_700, li_9999, li_65536, li_65537, hF.1]
  | succ r ih =>
    intro i hi m hm
    obtain ⟨m, rfl⟩ : ∃ z, m = z + 1 := ⟨m - 1, by omega⟩
    have h2 := ih (i + 1) (by omega) m (by omega)
    have e3 : fo op z l.2 (i + 1) = fo op z l.2 i &&& nI (l.2 i) := hop _ _
    rw [e3] at h2
    rw [fX1_inAll_16.eq_2]
    simp (disch := omega) only [↓mo_1, ↓mo_2, ad_m1, ite_m1_lt, ite_m2_lt, ite_le_m1, ite_eq_m1, ite_eq_m2, ite_m1_m1, ite_m2_m2, ite_T, ite_F, ite_nz, ite_zz, ite_m1_le, ite_m1_eq, oi_none, oi_some, ob_some, lw_def, ck_true, ckp_su, ite_lt_t, ite_lt_f, ite_le_t, ite_le_f, ite_eq_t, ite_eq_f, ck_inb, nI_add, sb_nI, mu_nI, nI_clamp, sO_at, sO_sO, Nat.add_sub_cancel, Nat.zero_add, Nat.add_zero, li_0, li_1, li_2, li_3, li_4, li_5, li_6, li_7, li_8, li_9, li_10, li_11, li_12, li_16, li_20, li_24, li_31, li_32, li_48, li_49, li_73, li_74, li_75, li_97, li_98, li_99, li_100, li_101, li_109, li_110, li_255, li_680, li_700, li_9999, li_65536, li_65537, hF.1, at_in, hF.2 i (by omega)]
    exact h2
theorem x_lm {k h : Nat} {l : Nat × (Nat → Nat)} (hF : RF (w 1 0) l) (h16 : l.1 ≤ 16) (hh : h ≤ l.1) (he : fo (op3 k) (nI 0) l.2 l.1 = nI h) : ∀ r i, i + r = l.1 → ∀ m, r < m → fX1_leftAtMost_4 m w (nI k) (fo (op3 k) (nI 0) l.2 i) (nI i) = some (nI (if h < l.1 - h then l.1 - h else h), w) := by
  have hl : aln 1 0 0 = 16 := rfl
  intro r
  induction r with
  | zero =>
    intro i hi m hm
    obtain ⟨m, rfl⟩ : ∃ z, m = z + 1 := ⟨m - 1, by omega⟩
    have e : i = l.1 := by omega
    subst e
    rw [fX1_leftAtMost_4.eq_2, he]
    by_cases c : h < l.1 - h
    · rw [if_pos c]
      simp (disch := omega) only [↓mo_1, ↓mo_2, ad_m1, ite_m1_lt, ite_m2_lt, ite_le_m1, ite_eq_m1, ite_eq_m2, ite_m1_m1, ite_m2_m2, ite_T, ite_F, ite_nz, ite_zz, ite_m1_le, ite_m1_eq, oi_none, oi_some, ob_some, lw_def, ck_true, ckp_su, ite_lt_t, ite_lt_f, ite_le_t, ite_le_f, ite_eq_t, ite_eq_f, ck_inb, nI_add, sb_nI, mu_nI, nI_clamp, sO_at, sO_sO, Nat.add_sub_cancel, Nat.zero_add, Nat.add_zero, li_0, li_1, li_2, li_3, li_4, li_5, li_6, li_7, li_8, li_9, li_10, li_11, li_12, li_16, li_20, li_24, li_31, li_32, li_48, li_49, li_73, li_74, li_75, li_97, li_98, li_99, li_100, li_101, li_109, li_110, li_255, li_680, li_700, li_9999, li_65536, li_65537, hF.1]
    · rw [if_neg c]
      simp (disch := omega) only [↓mo_1, ↓mo_2, ad_m1, ite_m1_lt, ite_m2_lt, ite_le_m1, ite_eq_m1, ite_eq_m2, ite_m1_m1, ite_m2_m2, ite_T, ite_F, ite_nz, ite_zz, ite_m1_le, ite_m1_eq, oi_none, oi_some, ob_some, lw_def, ck_true, ckp_su, ite_lt_t, ite_lt_f, ite_le_t, ite_le_f, ite_eq_t, ite_eq_f, ck_inb, nI_add, sb_nI, mu_nI, nI_clamp, sO_at, sO_sO, Nat.add_sub_cancel, Nat.zero_add, Nat.add_zero, li_0, li_1, li_2, li_3, li_4, li_5, li_6, li_7, li_8, li_9, li_10, li_11, li_12, li_16, li_20, li_24, li_31, li_32, li_48, li_49, li_73, li_74, li_75, li_97, li_98, li_99, li_100, li_101, li_109, li_110, li_255, li_680, li_700, li_9999, li_65536, li_65537, hF.1]
  | succ r ih =>
    intro i hi m hm
    obtain ⟨m, rfl⟩ : ∃ z, m = z + 1 := ⟨m - 1, by omega⟩
    have h2 := ih (i + 1) (by omega) m (by omega)
    have e3 : fo (op3 k) (nI 0) l.2 (i + 1) = fo (op3 k) (nI 0) l.2 i + ((nI (l.2 i) >>> (nI k &&& nI 31)) &&& nI 1) := rfl
    rw [e3] at h2
    rw [fX1_leftAtMost_4.eq_2]
    simp (disch := omega) only [↓mo_1, ↓mo_2, ad_m1, ite_m1_lt, ite_m2_lt, ite_le_m1, ite_eq_m1, ite_eq_m2, ite_m1_m1, ite_m2_m2, ite_T, ite_F, ite_nz, ite_zz, ite_m1_le, ite_m1_eq, oi_none, oi_some, ob_some, lw_def, ck_true, ckp_su, ite_lt_t, ite_lt_f, ite_le_t, ite_le_f, ite_eq_t, ite_eq_f, ck_inb, nI_add, sb_nI, mu_nI, nI_clamp, sO_at, sO_sO, Nat.add_sub_cancel, Nat.zero_add, Nat.add_zero, li_0, li_1, li_2, li_3, li_4, li_5, li_6, li_7, li_8, li_9, li_10, li_11, li_12, li_16, li_20, li_24, li_31, li_32, li_48, li_49, li_73, li_74, li_75, li_97, li_98, li_99, li_100, li_101, li_109, li_110, li_255, li_680, li_700, li_9999, li_65536, li_65537, hF.1, at_in, hF.2 i (by omega)]
    exact h2
theorem fa_1 : (fitA D T).1 = ctp (fitB D T) (2 ^ T.2.2.1.1) := fl_1
theorem fa_16 (hT : WFT D T) : (fitA D T).1 ≤ 16 := by
  rw [fa_1]
  exact Nat.le_trans (ctp_le _ _) (p2_16 hT.2.2.1.1).2
theorem x_inSome (hT : WFT D T) (hF : RF (w 1 0) (fitA D T)) : fX1_inSome w = some (fp op1 (nI 0) (fitB D T) (2 ^ T.2.2.1.1), w) := by
  have h16 := fa_16 hT
  have e1 := x_is (op := op1) (z := nI 0) hF h16 (fun _ _ => rfl) (fitA D T).1 0 (Nat.zero_add _) fuel0 (by unfold fuel0; omega)
  have e2 : fo op1 (nI 0) (fitA D T).2 (fitA D T).1 = fp op1 (nI 0) (fitB D T) (2 ^ T.2.2.1.1) := fo_fp _
  rw [e2] at e1
  exact e1
theorem li_15 : (15 : Int32) = nI 15 := id rfl
theorem x_inAll (hT : WFT D T) (hF : RF (w 1 0) (fitA D T)) : fX1_inAll w = some (evS D T, w) := by
  have h16 := fa_16 hT
  have h1 := fa_1 (D := D) (T := T)
  unfold fX1_inAll evS
  by_cases c : ctp (fitB D T) (2 ^ T.2.2.1.1) = 0
  · have h0 : (fitA D T).1 = 0 := by omega
    have e1 := x_ia (op := op2) (z := nI 0) hF h16 (fun _ _ => rfl) 0 0 (by omega) fuel0 (by unfold fuel0; omega)
    rw [h0] at e1
    rw [if_pos c]
    simp (disch := omega) only [↓mo_1, ↓mo_2, ad_m1, ite_m1_lt, ite_m2_lt, ite_le_m1, ite_eq_m1, ite_eq_m2, ite_m1_m1, ite_m2_m2, ite_T, ite_F, ite_nz, ite_zz, ite_m1_le, ite_m1_eq, oi_none, oi_some, ob_some, lw_def, ck_true, ckp_su, ite_lt_t, ite_lt_f, ite_le_t, ite_le_f, ite_eq_t, ite_eq_f, ck_inb, nI_add, sb_nI, mu_nI, nI_clamp, sO_at, sO_sO, Nat.add_sub_cancel, Nat.zero_add, Nat.add_zero, li_0, li_1, li_2, li_3, li_4, li_5, li_6, li_7, li_8, li_9, li_10, li_11, li_12, li_16, li_20, li_24, li_31, li_32, li_48, li_49, li_73, li_74, li_75, li_97, li_98, li_99, li_100, li_101, li_109, li_110, li_255, li_680, li_700, li_9999, li_65536, li_65537, hF.1]
    exact e1
  · have e1 := x_ia (op := op2) (z := nI 15) hF h16 (fun _ _ => rfl) (fitA D T).1 0 (Nat.zero_add _) fuel0 (by unfold fuel0; omega)
    have e2 : fo op2 (nI 15) (fitA D T).2 (fitA D T).1 = fp op2 (nI 15) (fitB D T) (2 ^ T.2.2.1.1) := fo_fp _
    rw [e2] at e1
    rw [if_neg c]
    simp (disch := omega) only [↓mo_1, ↓mo_2, ad_m1, ite_m1_lt, ite_m2_lt, ite_le_m1, ite_eq_m1, ite_eq_m2, ite_m1_m1, ite_m2_m2, ite_T, ite_F, ite_nz, ite_zz, ite_m1_le, ite_m1_eq, oi_none, oi_some, ob_some, lw_def, ck_true, ckp_su, ite_lt_t, ite_lt_f, ite_le_t, ite_le_f, ite_eq_t, ite_eq_f, ck_inb, nI_add, sb_nI, mu_nI, nI_clamp, sO_at, sO_sO, Nat.add_sub_cancel, Nat.zero_add, Nat.add_zero, li_0, li_1, li_2, li_3, li_4, li_5, li_6, li_7, li_8, li_9, li_10, li_11, li_12, li_16, li_20, li_24, li_31, li_32, li_48, li_49, li_73, li_74, li_75, li_97, li_98, li_99, li_100, li_101, li_109, li_110, li_255, li_680, li_700, li_9999, li_65536, li_65537, hF.1, li_15]
    exact e1
theorem x_leftAtMost {k : Nat} (hk : k < 4) (hT : WFT D T) (hF : RF (w 1 0) (fitA D T)) : fX1_leftAtMost w (nI k) = some (nI (lmS D T k), w) := by
  have h16 := fa_16 hT
  have hp := p2_16 hT.2.2.1.1
  have h1 := fa_1 (D := D) (T := T)
  have e2 : fo (op3 k) (nI 0) (fitA D T).2 (fitA D T).1 = nI (obS D T k (2 ^ T.2.2.1.1)) := (fo_fp _).trans (ob_fp hk _ hp.2)
  have e1 := x_lm (h := obS D T k (2 ^ T.2.2.1.1)) hF h16 (by rw [h1]; exact ob_le _) e2 (fitA D T).1 0 (Nat.zero_add _) fuel0 (by unfold fuel0; omega)
  rw [h1] at e1
  exact e1
theorem lm_le {k : Nat} : lmS D T k ≤ ctp (fitB D T) (2 ^ T.2.2.1.1) := by
  have := ob_le (D := D) (T := T) (k := k) (2 ^ T.2.2.1.1)
  unfold lmS
  by_cases c : obS D T k (2 ^ T.2.2.1.1) < ctp (fitB D T) (2 ^ T.2.2.1.1) - obS D T k (2 ^ T.2.2.1.1)
  · rw [if_pos c]; omega
  · rw [if_neg c]; exact this
def fwS (D : Dk) (T : Tk) (o : Option Nat) : Nat := match o with
  | none => ctp (fitB D T) (2 ^ T.2.2.1.1) + 1
  | some b => lmS D T b
theorem x_bt (hT : WFT D T) (hF : RF (w 1 0) (fitA D T)) (hc : ¬ ctp (fitB D T) (2 ^ T.2.2.1.1) = 0) : ∀ r j, j + r = T.2.2.1.1 → ∀ m, r < m → fX1_bestToTell_13 m w (nI T.2.2.1.1) (oi2 (btS D T j)) (nI (fwS D T (btS D T j))) (nI j) = some (oi2 (btS D T T.2.2.1.1), w) := by
  have h16 := fa_16 hT
  have h1 := fa_1 (D := D) (T := T)
  have h4 := hT.2.2.1.1
  intro r
  induction r with
  | zero =>
    intro j hj m hm
    obtain ⟨m, rfl⟩ : ∃ z, m = z + 1 := ⟨m - 1, by omega⟩
    have e : j = T.2.2.1.1 := by omega
    subst e
    rw [fX1_bestToTell_13.eq_2]
    simp (disch := omega) only [↓mo_1, ↓mo_2, ad_m1, ite_m1_lt, ite_m2_lt, ite_le_m1, ite_eq_m1, ite_eq_m2, ite_m1_m1, ite_m2_m2, ite_T, ite_F, ite_nz, ite_zz, ite_m1_le, ite_m1_eq, oi_none, oi_some, ob_some, lw_def, ck_true, ckp_su, ite_lt_t, ite_lt_f, ite_le_t, ite_le_f, ite_eq_t, ite_eq_f, ck_inb, nI_add, sb_nI, mu_nI, nI_clamp, sO_at, sO_sO, Nat.add_sub_cancel, Nat.zero_add, Nat.add_zero, li_0, li_1, li_2, li_3, li_4, li_5, li_6, li_7, li_8, li_9, li_10, li_11, li_12, li_16, li_20, li_24, li_31, li_32, li_48, li_49, li_73, li_74, li_75, li_97, li_98, li_99, li_100, li_101, li_109, li_110, li_255, li_680, li_700, li_9999, li_65536, li_65537, hF.1]
  | succ r ih =>
    intro j hj m hm
    obtain ⟨m, rfl⟩ : ∃ z, m = z + 1 := ⟨m - 1, by omega⟩
    have h2 := ih (j + 1) (by omega) m (by omega)
    have hle := lm_le (D := D) (T := T) (k := j)
    rw [fX1_bestToTell_13.eq_2]
    simp (disch := omega) only [↓mo_1, ↓mo_2, ad_m1, ite_m1_lt, ite_m2_lt, ite_le_m1, ite_eq_m1, ite_eq_m2, ite_m1_m1, ite_m2_m2, ite_T, ite_F, ite_nz, ite_zz, ite_m1_le, ite_m1_eq, oi_none, oi_some, ob_some, lw_def, ck_true, ckp_su, ite_lt_t, ite_lt_f, ite_le_t, ite_le_f, ite_eq_t, ite_eq_f, ck_inb, nI_add, sb_nI, mu_nI, nI_clamp, sO_at, sO_sO, Nat.add_sub_cancel, Nat.zero_add, Nat.add_zero, li_0, li_1, li_2, li_3, li_4, li_5, li_6, li_7, li_8, li_9, li_10, li_11, li_12, li_16, li_20, li_24, li_31, li_32, li_48, li_49, li_73, li_74, li_75, li_97, li_98, li_99, li_100, li_101, li_109, li_110, li_255, li_680, li_700, li_9999, li_65536, li_65537, hF.1, x_leftAtMost (show j < 4 by omega) hT hF]
    cases hb : btS D T j with
    | none =>
      have e3 : btS D T (j + 1) = some j := by unfold btS; rw [hb]
      rw [e3] at h2
      have e4 : fwS D T none = ctp (fitB D T) (2 ^ T.2.2.1.1) + 1 := rfl
      rw [e4]
      simp (disch := omega) only [↓mo_1, ↓mo_2, ad_m1, ite_m1_lt, ite_m2_lt, ite_le_m1, ite_eq_m1, ite_eq_m2, ite_m1_m1, ite_m2_m2, ite_T, ite_F, ite_nz, ite_zz, ite_m1_le, ite_m1_eq, oi_none, oi_some, ob_some, lw_def, ck_true, ckp_su, ite_lt_t, ite_lt_f, ite_le_t, ite_le_f, ite_eq_t, ite_eq_f, ck_inb, nI_add, sb_nI, mu_nI, nI_clamp, sO_at, sO_sO, Nat.add_sub_cancel, Nat.zero_add, Nat.add_zero, li_0, li_1, li_2, li_3, li_4, li_5, li_6, li_7, li_8, li_9, li_10, li_11, li_12, li_16, li_20, li_24, li_31, li_32, li_48, li_49, li_73, li_74, li_75, li_97, li_98, li_99, li_100, li_101, li_109, li_110, li_255, li_680, li_700, li_9999, li_65536, li_65537]
      exact h2
    | some b =>
      have hle2 := lm_le (D := D) (T := T) (k := b)
      have e4 : fwS D T (some b) = lmS D T b := rfl
      rw [e4]
      have e3 : btS D T (j + 1) = if lmS D T j < lmS D T b then some j else some b := by
        show (match btS D T j with | none => some j | some b => if lmS D T j < lmS D T b then some j else some b) = _
        rw [hb]
      by_cases c : lmS D T j < lmS D T b
      · rw [e3, if_pos c] at h2
        simp (disch := omega) only [↓mo_1, ↓mo_2, ad_m1, ite_m1_lt, ite_m2_lt, ite_le_m1, ite_eq_m1, ite_eq_m2, ite_m1_m1, ite_m2_m2, ite_T, ite_F, ite_nz, ite_zz, ite_m1_le, ite_m1_eq, oi_none, oi_some, ob_some, lw_def, ck_true, ckp_su, ite_lt_t, ite_lt_f, ite_le_t, ite_le_f, ite_eq_t, ite_eq_f, ck_inb, nI_add, sb_nI, mu_nI, nI_clamp, sO_at, sO_sO, Nat.add_sub_cancel, Nat.zero_add, Nat.add_zero, li_0, li_1, li_2, li_3, li_4, li_5, li_6, li_7, li_8, li_9, li_10, li_11, li_12, li_16, li_20, li_24, li_31, li_32, li_48, li_49, li_73, li_74, li_75, li_97, li_98, li_99, li_100, li_101, li_109, li_110, li_255, li_680, li_700, li_9999, li_65536, li_65537]
        exact h2
      · rw [e3, if_neg c] at h2
        simp (disch := omega) only [↓mo_1, ↓mo_2, ad_m1, ite_m1_lt, ite_m2_lt, ite_le_m1, ite_eq_m1, ite_eq_m2, ite_m1_m1, ite_m2_m2, ite_T, ite_F, ite_nz, ite_zz, ite_m1_le, ite_m1_eq, oi_none, oi_some, ob_some, lw_def, ck_true, ckp_su, ite_lt_t, ite_lt_f, ite_le_t, ite_le_f, ite_eq_t, ite_eq_f, ck_inb, nI_add, sb_nI, mu_nI, nI_clamp, sO_at, sO_sO, Nat.add_sub_cancel, Nat.zero_add, Nat.add_zero, li_0, li_1, li_2, li_3, li_4, li_5, li_6, li_7, li_8, li_9, li_10, li_11, li_12, li_16, li_20, li_24, li_31, li_32, li_48, li_49, li_73, li_74, li_75, li_97, li_98, li_99, li_100, li_101, li_109, li_110, li_255, li_680, li_700, li_9999, li_65536, li_65537]
        exact h2
theorem x_bestToTell (hT : WFT D T) (hF : RF (w 1 0) (fitA D T)) : fX1_bestToTell w (nI T.2.2.1.1) = some (oi2 (btA D T), w) := by
  have h16 := fa_16 hT
  have h1 := fa_1 (D := D) (T := T)
  have h4 := hT.2.2.1.1
  unfold fX1_bestToTell btA
  by_cases c : ctp (fitB D T) (2 ^ T.2.2.1.1) = 0
  · rw [if_pos c]
    have h0 : (w 1 0).1 1 = nI 0 := by rw [hF.1, h1, c]
    simp (disch := omega) only [↓mo_1, ↓mo_2, ad_m1, ite_m1_lt, ite_m2_lt, ite_le_m1, ite_eq_m1, ite_eq_m2, ite_m1_m1, ite_m2_m2, ite_T, ite_F, ite_nz, ite_zz, ite_m1_le, ite_m1_eq, oi_none, oi_some, ob_some, lw_def, ck_true, ckp_su, ite_lt_t, ite_lt_f, ite_le_t, ite_le_f, ite_eq_t, ite_eq_f, ck_inb, nI_add, sb_nI, mu_nI, nI_clamp, sO_at, sO_sO, Nat.add_sub_cancel, Nat.zero_add, Nat.add_zero, li_0, li_1, li_2, li_3, li_4, li_5, li_6, li_7, li_8, li_9, li_10, li_11, li_12, li_16, li_20, li_24, li_31, li_32, li_48, li_49, li_73, li_74, li_75, li_97, li_98, li_99, li_100, li_101, li_109, li_110, li_255, li_680, li_700, li_9999, li_65536, li_65537, h0]
    show fX1_bestToTell_13 (999999 + 1) w (nI T.2.2.1.1) m2 (nI 1) (nI 0) = _
    rw [fX1_bestToTell_13.eq_2]
    simp (disch := omega) only [↓mo_1, ↓mo_2, ad_m1, ite_m1_lt, ite_m2_lt, ite_le_m1, ite_eq_m1, ite_eq_m2, ite_m1_m1, ite_m2_m2, ite_T, ite_F, ite_nz, ite_zz, ite_m1_le, ite_m1_eq, oi_none, oi_some, ob_some, lw_def, ck_true, ckp_su, ite_lt_t, ite_lt_f, ite_le_t, ite_le_f, ite_eq_t, ite_eq_f, ck_inb, nI_add, sb_nI, mu_nI, nI_clamp, sO_at, sO_sO, Nat.add_sub_cancel, Nat.zero_add, Nat.add_zero, li_0, li_1, li_2, li_3, li_4, li_5, li_6, li_7, li_8, li_9, li_10, li_11, li_12, li_16, li_20, li_24, li_31, li_32, li_48, li_49, li_73, li_74, li_75, li_97, li_98, li_99, li_100, li_101, li_109, li_110, li_255, li_680, li_700, li_9999, li_65536, li_65537, h0]
    rfl
  · rw [if_neg c]
    have e1 := x_bt hT hF c T.2.2.1.1 0 (Nat.zero_add _) fuel0 (by unfold fuel0; omega)
    have e2 : fwS D T (btS D T 0) = (fitA D T).1 + 1 := by rw [h1]; rfl
    rw [e2] at e1
    simp (disch := omega) only [↓mo_1, ↓mo_2, ad_m1, ite_m1_lt, ite_m2_lt, ite_le_m1, ite_eq_m1, ite_eq_m2, ite_m1_m1, ite_m2_m2, ite_T, ite_F, ite_nz, ite_zz, ite_m1_le, ite_m1_eq, oi_none, oi_some, ob_some, lw_def, ck_true, ckp_su, ite_lt_t, ite_lt_f, ite_le_t, ite_le_f, ite_eq_t, ite_eq_f, ck_inb, nI_add, sb_nI, mu_nI, nI_clamp, sO_at, sO_sO, Nat.add_sub_cancel, Nat.zero_add, Nat.add_zero, li_0, li_1, li_2, li_3, li_4, li_5, li_6, li_7, li_8, li_9, li_10, li_11, li_12, li_16, li_20, li_24, li_31, li_32, li_48, li_49, li_73, li_74, li_75, li_97, li_98, li_99, li_100, li_101, li_109, li_110, li_255, li_680, li_700, li_9999, li_65536, li_65537, hF.1]
    exact e1
end FX
end FIT
