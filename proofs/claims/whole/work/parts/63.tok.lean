/-! ===== bytes, runs, tokens ===== -/
/-- a byte as the two sides look at it -/
def byN (y : Int32) : Nat := y.toBitVec.toNat % 256
theorem by_and (y : Int32) : y &&& nI 255 = nI (byN y) := pk_and y 8 (by decide)
theorem by_lt (y : Int32) : byN y < 256 := Nat.mod_lt _ (by omega)
theorem by_int {y : Int32} (h : -128 ≤ y.toInt ∧ y.toInt < 128) : (byN y < 128 ∧ y = nI (byN y)) ∨ (128 ≤ byN y ∧ y.toInt < 0) := by
  have e : y.toInt = if 2 * y.toBitVec.toNat < 2 ^ 32 then (y.toBitVec.toNat : Int) else (y.toBitVec.toNat : Int) - ((2 ^ 32 : Nat) : Int) := BitVec.toInt_eq_toNat_cond y.toBitVec
  have hl : y.toBitVec.toNat < 2 ^ 32 := y.toBitVec.isLt
  unfold byN
  by_cases c : 2 * y.toBitVec.toNat < 2 ^ 32
  · rw [if_pos c] at e
    refine Or.inl ⟨by omega, ?_⟩
    apply Int32.toInt_inj.mp
    rw [nI_toInt (by omega), e]
    omega
  · rw [if_neg c] at e
    exact Or.inr ⟨by omega, by omega⟩
theorem by_ltc {y : Int32} (h : -128 ≤ y.toInt ∧ y.toInt < 128) {c : Nat} (hc : c < 128) : y < nI c ↔ (128 ≤ byN y ∨ byN y < c) := by
  rcases by_int h with ⟨h1, h2⟩ | ⟨h1, h2⟩
  · constructor
    · intro z
      rw [h2, nI_ltI (by omega) (by omega)] at z
      exact Or.inr z
    · intro z
      rw [h2, nI_ltI (by omega) (by omega)]
      omega
  · constructor
    · intro _; exact Or.inl h1
    · intro _
      rw [Int32.lt_iff_toInt_lt, nI_toInt (by omega)]
      omega
theorem by_gtc {y : Int32} (h : -128 ≤ y.toInt ∧ y.toInt < 128) {c : Nat} (hc : c < 128) : nI c < y ↔ (byN y < 128 ∧ c < byN y) := by
  rcases by_int h with ⟨h1, h2⟩ | ⟨h1, h2⟩
  · constructor
    · intro z
      rw [h2, nI_ltI (by omega) (by omega)] at z
      exact ⟨h1, z⟩
    · intro z
      rw [h2, nI_ltI (by omega) (by omega)]
      exact z.2
  · constructor
    · intro z
      rw [Int32.lt_iff_toInt_lt, nI_toInt (by omega)] at z
      omega
    · intro z; omega
theorem by_eqc {y : Int32} (h : -128 ≤ y.toInt ∧ y.toInt < 128) {c : Nat} (hc : c < 128) : y = nI c ↔ byN y = c := by
  rcases by_int h with ⟨h1, h2⟩ | ⟨h1, h2⟩
  · constructor
    · intro z
      rw [h2, nI_eq (by omega) (by omega)] at z
      exact z
    · intro z
      rw [h2, z]
  · constructor
    · intro z
      rw [z, nI_toInt (by omega)] at h2
      omega
    · intro z; omega
/-- a text: how many bytes, which -/
abbrev Tx : Type := Nat × (Nat → Int32)
def TxO (X : Tx) : Prop := X.1 ≤ 700 ∧ ∀ i, i < X.1 → -128 ≤ (X.2 i).toInt ∧ (X.2 i).toInt < 128
def tB (X : Tx) (i : Nat) : Nat := byN (X.2 i)
def rnF (X : Tx) (lo hi : Nat) : Nat → Nat → Nat
  | 0, p => p
  | k + 1, p => if lo ≤ tB X p ∧ tB X p ≤ hi then rnF X lo hi k (p + 1) else p
/-- the place behind a run of bytes -/
def rn (X : Tx) (lo hi p : Nat) : Nat := rnF X lo hi (X.1 - p) p
section RN
variable {X : Tx} {lo hi : Nat}
theorem rn_in {p : Nat} (hp : p < X.1) (h : lo ≤ tB X p ∧ tB X p ≤ hi) : rn X lo hi p = rn X lo hi (p + 1) := by
  unfold rn
  rw [show X.1 - p = X.1 - (p + 1) + 1 by omega]
  exact if_pos h
theorem rn_out {p : Nat} (hp : p < X.1) (h : ¬ (lo ≤ tB X p ∧ tB X p ≤ hi)) : rn X lo hi p = p := by
  unfold rn
  rw [show X.1 - p = X.1 - (p + 1) + 1 by omega]
  exact if_neg h
theorem rn_end {p : Nat} (hp : X.1 ≤ p) : rn X lo hi p = p := by
  unfold rn
  rw [show X.1 - p = 0 by omega]
  rfl
theorem rn_b : ∀ r p, p + r = X.1 → p ≤ rn X lo hi p ∧ rn X lo hi p ≤ X.1 ∧ (∀ i, p ≤ i → i < rn X lo hi p → lo ≤ tB X i ∧ tB X i ≤ hi) ∧ (rn X lo hi p < X.1 → ¬ (lo ≤ tB X (rn X lo hi p) ∧ tB X (rn X lo hi p) ≤ hi))
  | 0, p, h => by
    rw [rn_end (by omega)]
    exact ⟨Nat.le_refl _, by omega, fun i a b => absurd b (by omega), fun z => absurd z (by omega)⟩
  | r + 1, p, h => by
    by_cases c : lo ≤ tB X p ∧ tB X p ≤ hi
    · rw [rn_in (by omega) c]
      obtain ⟨a1, a2, a3, a4⟩ := rn_b r (p + 1) (by omega)
      refine ⟨by omega, a2, fun i a b => ?_, a4⟩
      by_cases e : i = p
      · rw [e]; exact c
      · exact a3 i (by omega) b
    · rw [rn_out (by omega) c]
      exact ⟨Nat.le_refl _, by omega, fun i a b => absurd b (by omega), fun _ => c⟩
end RN
/-- a token: its kind (0 end, 1 word, 2 whole, 3 semicolon, 4 none), where it begins, where the next may -/
abbrev Tt : Type := Nat × Nat × Nat
def tkS (X : Tx) (st : Nat) : Tt := if X.1 ≤ st then (0, st, X.1) else if tB X st = 59 then (3, st, st + 1) else if 97 ≤ tB X st ∧ tB X st ≤ 122 then ((if rn X 97 122 st - st ≤ 8 then 1 else 4), st, rn X 97 122 st) else if 48 ≤ tB X st ∧ tB X st ≤ 57 then ((if rn X 48 57 st - st ≤ 4 then 2 else 4), st, rn X 48 57 st) else (4, st, st + 1)
def tk (X : Tx) (p : Nat) : Tt := tkS X (rn X 32 32 p)
theorem tk_0 {X : Tx} {st : Nat} (h : X.1 ≤ st) : tkS X st = (0, st, X.1) := if_pos h
theorem tk_3 {X : Tx} {st : Nat} (h : st < X.1) (h2 : tB X st = 59) : tkS X st = (3, st, st + 1) := (if_neg (by omega)).trans (if_pos h2)
theorem tk_1 {X : Tx} {st : Nat} (h : st < X.1) (h2 : 97 ≤ tB X st ∧ tB X st ≤ 122) : tkS X st = ((if rn X 97 122 st - st ≤ 8 then 1 else 4), st, rn X 97 122 st) := (if_neg (by omega)).trans ((if_neg (by omega)).trans (if_pos h2))
theorem tk_2 {X : Tx} {st : Nat} (h : st < X.1) (h2 : 48 ≤ tB X st ∧ tB X st ≤ 57) : tkS X st = ((if rn X 48 57 st - st ≤ 4 then 2 else 4), st, rn X 48 57 st) := (if_neg (by omega)).trans ((if_neg (by omega)).trans ((if_neg (by omega)).trans (if_pos h2)))
theorem tk_4 {X : Tx} {st : Nat} (h : st < X.1) (h2 : tB X st ≠ 59) (h3 : ¬ (97 ≤ tB X st ∧ tB X st ≤ 122)) (h4 : ¬ (48 ≤ tB X st ∧ tB X st ≤ 57)) : tkS X st = (4, st, st + 1) := (if_neg (by omega)).trans ((if_neg h2).trans ((if_neg h3).trans (if_neg h4)))
/-- what a token is, seen from its place -/
theorem tk_ok {X : Tx} {p : Nat} (hp : p ≤ X.1) : p ≤ (tk X p).2.1 ∧ (tk X p).2.1 ≤ X.1 ∧ (tk X p).2.1 ≤ (tk X p).2.2 ∧ (tk X p).2.2 ≤ X.1 ∧ ((tk X p).1 = 3 → (tk X p).2.2 = (tk X p).2.1 + 1) ∧ ((tk X p).1 = 1 → (tk X p).2.2 - (tk X p).2.1 ≤ 8 ∧ ∀ i, (tk X p).2.1 ≤ i → i < (tk X p).2.2 → 97 ≤ tB X i ∧ tB X i ≤ 122) ∧ ((tk X p).1 = 2 → (tk X p).2.2 - (tk X p).2.1 ≤ 4 ∧ ∀ i, (tk X p).2.1 ≤ i → i < (tk X p).2.2 → 48 ≤ tB X i ∧ tB X i ≤ 57) ∧ (tk X p).1 < 5 ∧ ((tk X p).1 = 0 → (tk X p).2.1 = X.1) := by
  obtain ⟨a1, a2, -, -⟩ := rn_b (X := X) (lo := 32) (hi := 32) (X.1 - p) p (by omega)
  unfold tk
  generalize rn X 32 32 p = st at *
  by_cases c0 : X.1 ≤ st
  · rw [tk_0 c0]
    exact ⟨a1, a2, a2, Nat.le_refl _, (fun h => by cases h), (fun h => by cases h), (fun h => by cases h), by simp, fun _ => by show st = X.1; omega⟩
  · by_cases c3 : tB X st = 59
    · rw [tk_3 (by omega) c3]
      exact ⟨a1, a2, by simp, (show st + 1 ≤ X.1 by omega), fun _ => rfl, (fun h => by cases h), (fun h => by cases h), by simp, (fun h => by cases h)⟩
    · by_cases c1 : 97 ≤ tB X st ∧ tB X st ≤ 122
      · rw [tk_1 (by omega) c1]
        obtain ⟨b1, b2, b3, -⟩ := rn_b (X := X) (lo := 97) (hi := 122) (X.1 - st) st (by omega)
        by_cases d : rn X 97 122 st - st ≤ 8
        · rw [if_pos d]
          exact ⟨a1, a2, b1, b2, (fun h => by cases h), fun _ => ⟨d, b3⟩, (fun h => by cases h), by simp, (fun h => by cases h)⟩
        · rw [if_neg d]
          exact ⟨a1, a2, b1, b2, (fun h => by cases h), (fun h => by cases h), (fun h => by cases h), by simp, (fun h => by cases h)⟩
      · by_cases c2 : 48 ≤ tB X st ∧ tB X st ≤ 57
        · rw [tk_2 (by omega) c2]
          obtain ⟨b1, b2, b3, -⟩ := rn_b (X := X) (lo := 48) (hi := 57) (X.1 - st) st (by omega)
          by_cases d : rn X 48 57 st - st ≤ 4
          · rw [if_pos d]
            exact ⟨a1, a2, b1, b2, (fun h => by cases h), (fun h => by cases h), fun _ => ⟨d, b3⟩, by simp, (fun h => by cases h)⟩
          · rw [if_neg d]
            exact ⟨a1, a2, b1, b2, (fun h => by cases h), (fun h => by cases h), (fun h => by cases h), by simp, (fun h => by cases h)⟩
        · rw [tk_4 (by omega) c3 c1 c2]
          exact ⟨a1, a2, by simp, (show st + 1 ≤ X.1 by omega), (fun h => by cases h), (fun h => by cases h), (fun h => by cases h), by simp, (fun h => by cases h)⟩
/-! the class's parser -/
def XE (w : Wd) (X : Tx) : Prop := (w 4 0).1 1 = nI X.1 ∧ ∀ i, i < X.1 → (w 9 0).2.1 0 i = X.2 i
def XT (w : Wd) (t : Tt) : Prop := (w 4 0).1 4 = nI t.1 ∧ (w 4 0).1 5 = nI t.2.1 ∧ (w 4 0).1 6 = nI t.2.2
/-- only the token looked at changes -/
def S4 (w w2 : Wd) : Prop := (∀ c i, ¬ (c = 4 ∧ i = 0) → w2 c i = w c i) ∧ (w2 4 0).2 = (w 4 0).2 ∧ ∀ k, k ≠ 4 → k ≠ 5 → k ≠ 6 → k ≠ 7 → (w2 4 0).1 k = (w 4 0).1 k
theorem S4.rf {w : Wd} : S4 w w := ⟨fun _ _ _ => rfl, rfl, fun _ _ _ _ _ => rfl⟩
theorem S4.tr {w1 w2 w3 : Wd} (h : S4 w1 w2) (h2 : S4 w2 w3) : S4 w1 w3 := ⟨fun c i z => (h2.1 c i z).trans (h.1 c i z), h2.2.1.trans h.2.1, fun k a b c d => (h2.2.2 k a b c d).trans (h.2.2 k a b c d)⟩
theorem S4.i {w : Wd} {k : Nat} {v : Int32} (h : k = 4 ∨ k = 5 ∨ k = 6 ∨ k = 7) : S4 w (sI w 4 0 k v) := ⟨fun c i z => sO_ne z, sI_2, fun m a b c d => sI_n (by omega)⟩
theorem XE.s4 {w w2 : Wd} {X : Tx} (h : XE w X) (hs : S4 w w2) : XE w2 X := ⟨by rw [hs.2.2 1 (by decide) (by decide) (by decide) (by decide)]; exact h.1, by rw [hs.1 9 0 (by omega)]; exact h.2⟩
section XTOK
variable {w : Wd} {X : Tx}
theorem x_byteAt (hX : TxO X) (hE : XE w X) {p : Nat} (hp : p < X.1) : fX4_byteAt w (nI p) = some (X.2 p, w) := by
  have h7 := hX.1
  unfold fX4_byteAt
  simp (disch := omega) only [↓mo_1, ↓mo_2, ad_m1, ite_m1_lt, ite_m2_lt, ite_le_m1, ite_eq_m1, ite_eq_m2, ite_m1_m1, ite_m2_m2, ite_T, ite_F, ite_nz, ite_zz, ite_m1_le, ite_m1_eq, oi_none, oi_some, ob_some, lw_def, ck_true, ckp_su, ite_lt_t, ite_lt_f, ite_le_t, ite_le_f, ite_eq_t, ite_eq_f, ck_inb, nI_add, sb_nI, mu_nI, nI_clamp, sO_at, sO_sO, Nat.add_sub_cancel, Nat.zero_add, Nat.add_zero, li_0, li_1, li_2, li_3, li_4, li_5, li_6, li_7, li_8, li_9, li_10, li_11, li_12, li_16, li_20, li_24, li_31, li_32, li_48, li_49, li_73, li_74, li_75, li_97, li_98, li_99, li_100, li_101, li_109, li_110, li_255, li_680, li_700, li_9999, li_65536, li_65537, hE.1, hE.2 p hp]
theorem x_byteE (hX : TxO X) (hE : XE w X) : fX4_byteAt w (nI X.1) = some (nI 0, w) := by
  have h7 := hX.1
  unfold fX4_byteAt
  simp (disch := omega) only [↓mo_1, ↓mo_2, ad_m1, ite_m1_lt, ite_m2_lt, ite_le_m1, ite_eq_m1, ite_eq_m2, ite_m1_m1, ite_m2_m2, ite_T, ite_F, ite_nz, ite_zz, ite_m1_le, ite_m1_eq, oi_none, oi_some, ob_some, lw_def, ck_true, ckp_su, ite_lt_t, ite_lt_f, ite_le_t, ite_le_f, ite_eq_t, ite_eq_f, ck_inb, nI_add, sb_nI, mu_nI, nI_clamp, sO_at, sO_sO, Nat.add_sub_cancel, Nat.zero_add, Nat.add_zero, li_0, li_1, li_2, li_3, li_4, li_5, li_6, li_7, li_8, li_9, li_10, li_11, li_12, li_16, li_20, li_24, li_31, li_32, li_48, li_49, li_73, li_74, li_75, li_97, li_98, li_99, li_100, li_101, li_109, li_110, li_255, li_680, li_700, li_9999, li_65536, li_65537, hE.1]
theorem x_br (hX : TxO X) (hE : XE w X) {lo hi : Nat} (hl : hi < 128) (hlo : lo ≤ hi) : ∀ r p, p + r = X.1 → ∀ m, r < m → fX4_behindRun_3 m w (nI lo) (nI hi) (nI p) = some (nI (rn X lo hi p), w) := by
  have h7 := hX.1
  intro r
  induction r with
  | zero =>
    intro p hp m hm
    obtain ⟨m, rfl⟩ : ∃ z, m = z + 1 := ⟨m - 1, by omega⟩
    rw [rn_end (by omega), fX4_behindRun_3.eq_2]
    simp (disch := omega) only [↓mo_1, ↓mo_2, ad_m1, ite_m1_lt, ite_m2_lt, ite_le_m1, ite_eq_m1, ite_eq_m2, ite_m1_m1, ite_m2_m2, ite_T, ite_F, ite_nz, ite_zz, ite_m1_le, ite_m1_eq, oi_none, oi_some, ob_some, lw_def, ck_true, ckp_su, ite_lt_t, ite_lt_f, ite_le_t, ite_le_f, ite_eq_t, ite_eq_f, ck_inb, nI_add, sb_nI, mu_nI, nI_clamp, sO_at, sO_sO, Nat.add_sub_cancel, Nat.zero_add, Nat.add_zero, li_0, li_1, li_2, li_3, li_4, li_5, li_6, li_7, li_8, li_9, li_10, li_11, li_12, li_16, li_20, li_24, li_31, li_32, li_48, li_49, li_73, li_74, li_75, li_97, li_98, li_99, li_100, li_101, li_109, li_110, li_255, li_680, li_700, li_9999, li_65536, li_65537, hE.1]
  | succ r ih =>
    intro p hp m hm
    obtain ⟨m, rfl⟩ : ∃ z, m = z + 1 := ⟨m - 1, by omega⟩
    have hy := hX.2 p (by omega)
    have e1 := by_ltc hy (show lo < 128 by omega)
    have e2 := by_gtc hy hl
    rw [fX4_behindRun_3.eq_2]
    simp (disch := omega) only [↓mo_1, ↓mo_2, ad_m1, ite_m1_lt, ite_m2_lt, ite_le_m1, ite_eq_m1, ite_eq_m2, ite_m1_m1, ite_m2_m2, ite_T, ite_F, ite_nz, ite_zz, ite_m1_le, ite_m1_eq, oi_none, oi_some, ob_some, lw_def, ck_true, ckp_su, ite_lt_t, ite_lt_f, ite_le_t, ite_le_f, ite_eq_t, ite_eq_f, ck_inb, nI_add, sb_nI, mu_nI, nI_clamp, sO_at, sO_sO, Nat.add_sub_cancel, Nat.zero_add, Nat.add_zero, li_0, li_1, li_2, li_3, li_4, li_5, li_6, li_7, li_8, li_9, li_10, li_11, li_12, li_16, li_20, li_24, li_31, li_32, li_48, li_49, li_73, li_74, li_75, li_97, li_98, li_99, li_100, li_101, li_109, li_110, li_255, li_680, li_700, li_9999, li_65536, li_65537, hE.1, x_byteAt hX hE (show p < X.1 by omega)]
    by_cases c : lo ≤ tB X p ∧ tB X p ≤ hi
    · have c' : lo ≤ byN (X.2 p) ∧ byN (X.2 p) ≤ hi := c
      rw [if_neg (fun z => by have := e1.mp z; omega), if_neg (fun z => by have := e2.mp z; omega), rn_in (by omega) c]
      exact ih (p + 1) (by omega) m (by omega)
    · have c' : ¬ (lo ≤ byN (X.2 p) ∧ byN (X.2 p) ≤ hi) := c
      rw [rn_out (by omega) c]
      by_cases d : X.2 p < nI lo
      · rw [if_pos d]
      · rw [if_neg d, if_pos (e2.mpr (by have := mt e1.mpr d; omega))]
theorem x_behindRun (hX : TxO X) (hE : XE w X) {lo hi p : Nat} (hl : hi < 128) (hlo : lo ≤ hi) (hp : p ≤ X.1) : fX4_behindRun w (nI p) (nI lo) (nI hi) = some (nI (rn X lo hi p), w) := by
  have h7 := hX.1
  exact x_br hX hE hl hlo (X.1 - p) p (by omega) fuel0 (by unfold fuel0; omega)
theorem li_57 : (57 : Int32) = nI 57 := id rfl
theorem li_59 : (59 : Int32) = nI 59 := id rfl
theorem li_122 : (122 : Int32) = nI 122 := id rfl
theorem x_moveOn (hX : TxO X) (hE : XE w X) {p : Nat} (hp : p ≤ X.1) (h6 : (w 4 0).1 6 = nI p) : ∃ w2 : Wd, fX4_moveOn w = some ((), w2) ∧ S4 w w2 ∧ XT w2 (tk X p) ∧ (w2 4 0).1 7 = (w 4 0).1 7 := by
  have h7 := hX.1
  obtain ⟨a1, a2, -, -⟩ := rn_b (X := X) (lo := 32) (hi := 32) (X.1 - p) p (by omega)
  have e1 := x_behindRun (lo := 32) (hi := 32) hX hE (by omega) (by omega) hp
  unfold tk
  generalize rn X 32 32 p = st at *
  have hE3 : ∀ v, XE (sI w 4 0 5 v) X := fun v => hE.s4 (S4.i (by omega))
  have k5 : ∀ v, (sI w 4 0 5 v 4 0).1 5 = v := fun v => sI_i
  have k1 : ∀ v, (sI w 4 0 5 v 4 0).1 1 = nI X.1 := fun v => (hE3 v).1
  unfold fX4_moveOn
  by_cases c0 : X.1 ≤ st
  · have est : st = X.1 := by omega
    subst est
    rw [tk_0 (Nat.le_refl _)]
    have q1 : ∀ u v, (sI (sI w 4 0 5 u) 4 0 4 v 4 0).1 1 = nI X.1 := fun u v => by rw [sI_n (by decide)]; exact k1 u
    refine ⟨sI (sI (sI w 4 0 5 (nI X.1)) 4 0 4 (nI 0)) 4 0 6 (nI X.1), ?_, (S4.i (by omega)).tr ((S4.i (by omega)).tr (S4.i (by omega))), ⟨by rw [sI_n (by decide), sI_i], by rw [sI_n (by decide), sI_n (by decide), sI_i], sI_i⟩, by rw [sI_n (by decide), sI_n (by decide), sI_n (by decide)]⟩
    simp (disch := omega) only [↓mo_1, ↓mo_2, ad_m1, ite_m1_lt, ite_m2_lt, ite_le_m1, ite_eq_m1, ite_eq_m2, ite_m1_m1, ite_m2_m2, ite_T, ite_F, ite_nz, ite_zz, ite_m1_le, ite_m1_eq, oi_none, oi_some, ob_some, lw_def, ck_true, ckp_su, ite_lt_t, ite_lt_f, ite_le_t, ite_le_f, ite_eq_t, ite_eq_f, ck_inb, nI_add, sb_nI, mu_nI, nI_clamp, sO_at, sO_sO, Nat.add_sub_cancel, Nat.zero_add, Nat.add_zero, li_0, li_1, li_2, li_3, li_4, li_5, li_6, li_7, li_8, li_9, li_10, li_11, li_12, li_16, li_20, li_24, li_31, li_32, li_48, li_49, li_73, li_74, li_75, li_97, li_98, li_99, li_100, li_101, li_109, li_110, li_255, li_680, li_700, li_9999, li_65536, li_65537, h6, e1, k5, x_byteE hX (hE3 _), k1, q1]
  · have hst : st < X.1 := by omega
    have hy := hX.2 st hst
    have b1 := x_byteAt hX (hE3 (nI st)) hst
    have y59 := by_eqc hy (show 59 < 128 by omega)
    have y97 := by_ltc hy (show 97 < 128 by omega)
    have y122 := by_gtc hy (show 122 < 128 by omega)
    have y48 := by_ltc hy (show 48 < 128 by omega)
    have y57 := by_gtc hy (show 57 < 128 by omega)
    have et : tB X st = byN (X.2 st) := rfl
    by_cases c3 : tB X st = 59
    · rw [tk_3 hst c3]
      have q1 : ∀ u v, (sI (sI w 4 0 5 u) 4 0 4 v 4 0).1 5 = u := fun u v => by rw [sI_n (by decide), sI_i]
      refine ⟨sI (sI (sI w 4 0 5 (nI st)) 4 0 4 (nI 3)) 4 0 6 (nI (st + 1)), ?_, (S4.i (by omega)).tr ((S4.i (by omega)).tr (S4.i (by omega))), ⟨by rw [sI_n (by decide), sI_i], by rw [sI_n (by decide), sI_n (by decide), sI_i], sI_i⟩, by rw [sI_n (by decide), sI_n (by decide), sI_n (by decide)]⟩
      simp (disch := omega) only [↓mo_1, ↓mo_2, ad_m1, ite_m1_lt, ite_m2_lt, ite_le_m1, ite_eq_m1, ite_eq_m2, ite_m1_m1, ite_m2_m2, ite_T, ite_F, ite_nz, ite_zz, ite_m1_le, ite_m1_eq, oi_none, oi_some, ob_some, lw_def, ck_true, ckp_su, ite_lt_t, ite_lt_f, ite_le_t, ite_le_f, ite_eq_t, ite_eq_f, ck_inb, nI_add, sb_nI, mu_nI, nI_clamp, sO_at, sO_sO, Nat.add_sub_cancel, Nat.zero_add, Nat.add_zero, li_0, li_1, li_2, li_3, li_4, li_5, li_6, li_7, li_8, li_9, li_10, li_11, li_12, li_16, li_20, li_24, li_31, li_32, li_48, li_49, li_73, li_74, li_75, li_97, li_98, li_99, li_100, li_101, li_109, li_110, li_255, li_680, li_700, li_9999, li_65536, li_65537, h6, e1, k5, b1, k1, li_59]
      rw [if_pos (y59.mpr c3)]
      simp (disch := omega) only [↓mo_1, ↓mo_2, ad_m1, ite_m1_lt, ite_m2_lt, ite_le_m1, ite_eq_m1, ite_eq_m2, ite_m1_m1, ite_m2_m2, ite_T, ite_F, ite_nz, ite_zz, ite_m1_le, ite_m1_eq, oi_none, oi_some, ob_some, lw_def, ck_true, ckp_su, ite_lt_t, ite_lt_f, ite_le_t, ite_le_f, ite_eq_t, ite_eq_f, ck_inb, nI_add, sb_nI, mu_nI, nI_clamp, sO_at, sO_sO, Nat.add_sub_cancel, Nat.zero_add, Nat.add_zero, li_0, li_1, li_2, li_3, li_4, li_5, li_6, li_7, li_8, li_9, li_10, li_11, li_12, li_16, li_20, li_24, li_31, li_32, li_48, li_49, li_73, li_74, li_75, li_97, li_98, li_99, li_100, li_101, li_109, li_110, li_255, li_680, li_700, li_9999, li_65536, li_65537, q1]
    · by_cases c1 : 97 ≤ tB X st ∧ tB X st ≤ 122
      · rw [tk_1 hst c1]
        have e2 := x_behindRun (w := sI w 4 0 5 (nI st)) (lo := 97) (hi := 122) hX (hE3 _) (by omega) (by omega) (Nat.le_of_lt hst)
        obtain ⟨d1, d2, -, -⟩ := rn_b (X := X) (lo := 97) (hi := 122) (X.1 - st) st (by omega)
        have q5 : ∀ u v, (sI (sI w 4 0 5 u) 4 0 6 v 4 0).1 5 = u := fun u v => by rw [sI_n (by decide), sI_i]
        have q6 : ∀ u v, (sI (sI w 4 0 5 u) 4 0 6 v 4 0).1 6 = v := fun u v => sI_i
        by_cases d : rn X 97 122 st - st ≤ 8
        · rw [if_pos d]
          refine ⟨sI (sI (sI w 4 0 5 (nI st)) 4 0 6 (nI (rn X 97 122 st))) 4 0 4 (nI 1), ?_, (S4.i (by omega)).tr ((S4.i (by omega)).tr (S4.i (by omega))), ⟨sI_i, by rw [sI_n (by decide), sI_n (by decide), sI_i], by rw [sI_n (by decide), sI_i]⟩, by rw [sI_n (by decide), sI_n (by decide), sI_n (by decide)]⟩
          simp (disch := omega) only [↓mo_1, ↓mo_2, ad_m1, ite_m1_lt, ite_m2_lt, ite_le_m1, ite_eq_m1, ite_eq_m2, ite_m1_m1, ite_m2_m2, ite_T, ite_F, ite_nz, ite_zz, ite_m1_le, ite_m1_eq, oi_none, oi_some, ob_some, lw_def, ck_true, ckp_su, ite_lt_t, ite_lt_f, ite_le_t, ite_le_f, ite_eq_t, ite_eq_f, ck_inb, nI_add, sb_nI, mu_nI, nI_clamp, sO_at, sO_sO, Nat.add_sub_cancel, Nat.zero_add, Nat.add_zero, li_0, li_1, li_2, li_3, li_4, li_5, li_6, li_7, li_8, li_9, li_10, li_11, li_12, li_16, li_20, li_24, li_31, li_32, li_48, li_49, li_73, li_74, li_75, li_97, li_98, li_99, li_100, li_101, li_109, li_110, li_255, li_680, li_700, li_9999, li_65536, li_65537, h6, e1, k5, b1, k1, li_59, li_122]
          rw [if_neg (fun z => c3 (y59.mp z)), if_neg (fun z => by have := y97.mp z; omega), if_neg (fun z => by have := y122.mp z; omega)]
          simp (disch := omega) only [↓mo_1, ↓mo_2, ad_m1, ite_m1_lt, ite_m2_lt, ite_le_m1, ite_eq_m1, ite_eq_m2, ite_m1_m1, ite_m2_m2, ite_T, ite_F, ite_nz, ite_zz, ite_m1_le, ite_m1_eq, oi_none, oi_some, ob_some, lw_def, ck_true, ckp_su, ite_lt_t, ite_lt_f, ite_le_t, ite_le_f, ite_eq_t, ite_eq_f, ck_inb, nI_add, sb_nI, mu_nI, nI_clamp, sO_at, sO_sO, Nat.add_sub_cancel, Nat.zero_add, Nat.add_zero, li_0, li_1, li_2, li_3, li_4, li_5, li_6, li_7, li_8, li_9, li_10, li_11, li_12, li_16, li_20, li_24, li_31, li_32, li_48, li_49, li_73, li_74, li_75, li_97, li_98, li_99, li_100, li_101, li_109, li_110, li_255, li_680, li_700, li_9999, li_65536, li_65537, e2, q5, q6]
        · rw [if_neg d]
          refine ⟨sI (sI (sI w 4 0 5 (nI st)) 4 0 6 (nI (rn X 97 122 st))) 4 0 4 (nI 4), ?_, (S4.i (by omega)).tr ((S4.i (by omega)).tr (S4.i (by omega))), ⟨sI_i, by rw [sI_n (by decide), sI_n (by decide), sI_i], by rw [sI_n (by decide), sI_i]⟩, by rw [sI_n (by decide), sI_n (by decide), sI_n (by decide)]⟩
          simp (disch := omega) only [↓mo_1, ↓mo_2, ad_m1, ite_m1_lt, ite_m2_lt, ite_le_m1, ite_eq_m1, ite_eq_m2, ite_m1_m1, ite_m2_m2, ite_T, ite_F, ite_nz, ite_zz, ite_m1_le, ite_m1_eq, oi_none, oi_some, ob_some, lw_def, ck_true, ckp_su, ite_lt_t, ite_lt_f, ite_le_t, ite_le_f, ite_eq_t, ite_eq_f, ck_inb, nI_add, sb_nI, mu_nI, nI_clamp, sO_at, sO_sO, Nat.add_sub_cancel, Nat.zero_add, Nat.add_zero, li_0, li_1, li_2, li_3, li_4, li_5, li_6, li_7, li_8, li_9, li_10, li_11, li_12, li_16, li_20, li_24, li_31, li_32, li_48, li_49, li_73, li_74, li_75, li_97, li_98, li_99, li_100, li_101, li_109, li_110, li_255, li_680, li_700, li_9999, li_65536, li_65537, h6, e1, k5, b1, k1, li_59, li_122]
          rw [if_neg (fun z => c3 (y59.mp z)), if_neg (fun z => by have := y97.mp z; omega), if_neg (fun z => by have := y122.mp z; omega)]
          simp (disch := omega) only [↓mo_1, ↓mo_2, ad_m1, ite_m1_lt, ite_m2_lt, ite_le_m1, ite_eq_m1, ite_eq_m2, ite_m1_m1, ite_m2_m2, ite_T, ite_F, ite_nz, ite_zz, ite_m1_le, ite_m1_eq, oi_none, oi_some, ob_some, lw_def, ck_true, ckp_su, ite_lt_t, ite_lt_f, ite_le_t, ite_le_f, ite_eq_t, ite_eq_f, ck_inb, nI_add, sb_nI, mu_nI, nI_clamp, sO_at, sO_sO, Nat.add_sub_cancel, Nat.zero_add, Nat.add_zero, li_0, li_1, li_2, li_3, li_4, li_5, li_6, li_7, li_8, li_9, li_10, li_11, li_12, li_16, li_20, li_24, li_31, li_32, li_48, li_49, li_73, li_74, li_75, li_97, li_98, li_99, li_100, li_101, li_109, li_110, li_255, li_680, li_700, li_9999, li_65536, li_65537, e2, q5, q6]
      · have go : (if X.2 st < nI 97 then fX4_moveOn_130 (sI w 4 0 5 (nI st)) (X.2 st) else if nI 122 < X.2 st then fX4_moveOn_130 (sI w 4 0 5 (nI st)) (X.2 st) else ob (fX4_behindRun (sI w 4 0 5 (nI st)) (nI st) (nI 97) (nI 122)) fun r10 w11 => lw (sI w11 4 0 6 r10) fun w12 => if nI 8 < (w12 4 0).1 6 - (w12 4 0).1 5 then lw (sI w12 4 0 4 (nI 4)) fun w14 => some ((), w14) else lw (sI w12 4 0 4 (nI 1)) fun w15 => some ((), w15)) = fX4_moveOn_130 (sI w 4 0 5 (nI st)) (X.2 st) := by
          by_cases d : X.2 st < nI 97
          · exact if_pos d
          · exact (if_neg d).trans (if_pos (y122.mpr (by have := mt y97.mpr d; omega)))
        by_cases c2 : 48 ≤ tB X st ∧ tB X st ≤ 57
        · rw [tk_2 hst c2]
          have e2 := x_behindRun (w := sI w 4 0 5 (nI st)) (lo := 48) (hi := 57) hX (hE3 _) (by omega) (by omega) (Nat.le_of_lt hst)
          obtain ⟨d1, d2, -, -⟩ := rn_b (X := X) (lo := 48) (hi := 57) (X.1 - st) st (by omega)
          have q5 : ∀ u v, (sI (sI w 4 0 5 u) 4 0 6 v 4 0).1 5 = u := fun u v => by rw [sI_n (by decide), sI_i]
          have q6 : ∀ u v, (sI (sI w 4 0 5 u) 4 0 6 v 4 0).1 6 = v := fun u v => sI_i
          by_cases d : rn X 48 57 st - st ≤ 4
          · rw [if_pos d]
            refine ⟨sI (sI (sI w 4 0 5 (nI st)) 4 0 6 (nI (rn X 48 57 st))) 4 0 4 (nI 2), ?_, (S4.i (by omega)).tr ((S4.i (by omega)).tr (S4.i (by omega))), ⟨sI_i, by rw [sI_n (by decide), sI_n (by decide), sI_i], by rw [sI_n (by decide), sI_i]⟩, by rw [sI_n (by decide), sI_n (by decide), sI_n (by decide)]⟩
            have g2 : fX4_moveOn_130 (sI w 4 0 5 (nI st)) (X.2 st) = some ((), sI (sI (sI w 4 0 5 (nI st)) 4 0 6 (nI (rn X 48 57 st))) 4 0 4 (nI 2)) := by
              unfold fX4_moveOn_130
              simp (disch := omega) only [↓mo_1, ↓mo_2, ad_m1, ite_m1_lt, ite_m2_lt, ite_le_m1, ite_eq_m1, ite_eq_m2, ite_m1_m1, ite_m2_m2, ite_T, ite_F, ite_nz, ite_zz, ite_m1_le, ite_m1_eq, oi_none, oi_some, ob_some, lw_def, ck_true, ckp_su, ite_lt_t, ite_lt_f, ite_le_t, ite_le_f, ite_eq_t, ite_eq_f, ck_inb, nI_add, sb_nI, mu_nI, nI_clamp, sO_at, sO_sO, Nat.add_sub_cancel, Nat.zero_add, Nat.add_zero, li_0, li_1, li_2, li_3, li_4, li_5, li_6, li_7, li_8, li_9, li_10, li_11, li_12, li_16, li_20, li_24, li_31, li_32, li_48, li_49, li_73, li_74, li_75, li_97, li_98, li_99, li_100, li_101, li_109, li_110, li_255, li_680, li_700, li_9999, li_65536, li_65537, li_57, k5]
              rw [if_neg (fun z => by have := y48.mp z; omega), if_neg (fun z => by have := y57.mp z; omega)]
              simp (disch := omega) only [↓mo_1, ↓mo_2, ad_m1, ite_m1_lt, ite_m2_lt, ite_le_m1, ite_eq_m1, ite_eq_m2, ite_m1_m1, ite_m2_m2, ite_T, ite_F, ite_nz, ite_zz, ite_m1_le, ite_m1_eq, oi_none, oi_some, ob_some, lw_def, ck_true, ckp_su, ite_lt_t, ite_lt_f, ite_le_t, ite_le_f, ite_eq_t, ite_eq_f, ck_inb, nI_add, sb_nI, mu_nI, nI_clamp, sO_at, sO_sO, Nat.add_sub_cancel, Nat.zero_add, Nat.add_zero, li_0, li_1, li_2, li_3, li_4, li_5, li_6, li_7, li_8, li_9, li_10, li_11, li_12, li_16, li_20, li_24, li_31, li_32, li_48, li_49, li_73, li_74, li_75, li_97, li_98, li_99, li_100, li_101, li_109, li_110, li_255, li_680, li_700, li_9999, li_65536, li_65537, e2, q5, q6]
            simp (disch := omega) only [↓mo_1, ↓mo_2, ad_m1, ite_m1_lt, ite_m2_lt, ite_le_m1, ite_eq_m1, ite_eq_m2, ite_m1_m1, ite_m2_m2, ite_T, ite_F, ite_nz, ite_zz, ite_m1_le, ite_m1_eq, oi_none, oi_some, ob_some, lw_def, ck_true, ckp_su, ite_lt_t, ite_lt_f, ite_le_t, ite_le_f, ite_eq_t, ite_eq_f, ck_inb, nI_add, sb_nI, mu_nI, nI_clamp, sO_at, sO_sO, Nat.add_sub_cancel, Nat.zero_add, Nat.add_zero, li_0, li_1, li_2, li_3, li_4, li_5, li_6, li_7, li_8, li_9, li_10, li_11, li_12, li_16, li_20, li_24, li_31, li_32, li_48, li_49, li_73, li_74, li_75, li_97, li_98, li_99, li_100, li_101, li_109, li_110, li_255, li_680, li_700, li_9999, li_65536, li_65537, h6, e1, k5, b1, k1, li_59, li_122]
            rw [if_neg (fun z => c3 (y59.mp z)), ← g2]
            exact go
          · rw [if_neg d]
            refine ⟨sI (sI (sI w 4 0 5 (nI st)) 4 0 6 (nI (rn X 48 57 st))) 4 0 4 (nI 4), ?_, (S4.i (by omega)).tr ((S4.i (by omega)).tr (S4.i (by omega))), ⟨sI_i, by rw [sI_n (by decide), sI_n (by decide), sI_i], by rw [sI_n (by decide), sI_i]⟩, by rw [sI_n (by decide), sI_n (by decide), sI_n (by decide)]⟩
            have g2 : fX4_moveOn_130 (sI w 4 0 5 (nI st)) (X.2 st) = some ((), sI (sI (sI w 4 0 5 (nI st)) 4 0 6 (nI (rn X 48 57 st))) 4 0 4 (nI 4)) := by
              unfold fX4_moveOn_130
              simp (disch := omega) only [↓mo_1, ↓mo_2, ad_m1, ite_m1_lt, ite_m2_lt, ite_le_m1, ite_eq_m1, ite_eq_m2, ite_m1_m1, ite_m2_m2, ite_T, ite_F, ite_nz, ite_zz, ite_m1_le, ite_m1_eq, oi_none, oi_some, ob_some, lw_def, ck_true, ckp_su, ite_lt_t, ite_lt_f, ite_le_t, ite_le_f, ite_eq_t, ite_eq_f, ck_inb, nI_add, sb_nI, mu_nI, nI_clamp, sO_at, sO_sO, Nat.add_sub_cancel, Nat.zero_add, Nat.add_zero, li_0, li_1, li_2, li_3, li_4, li_5, li_6, li_7, li_8, li_9, li_10, li_11, li_12, li_16, li_20, li_24, li_31, li_32, li_48, li_49, li_73, li_74, li_75, li_97, li_98, li_99, li_100, li_101, li_109, li_110, li_255, li_680, li_700, li_9999, li_65536, li_65537, li_57, k5]
              rw [if_neg (fun z => by have := y48.mp z; omega), if_neg (fun z => by have := y57.mp z; omega)]
              simp (disch := omega) only [↓mo_1, ↓mo_2, ad_m1, ite_m1_lt, ite_m2_lt, ite_le_m1, ite_eq_m1, ite_eq_m2, ite_m1_m1, ite_m2_m2, ite_T, ite_F, ite_nz, ite_zz, ite_m1_le, ite_m1_eq, oi_none, oi_some, ob_some, lw_def, ck_true, ckp_su, ite_lt_t, ite_lt_f, ite_le_t, ite_le_f, ite_eq_t, ite_eq_f, ck_inb, nI_add, sb_nI, mu_nI, nI_clamp, sO_at, sO_sO, Nat.add_sub_cancel, Nat.zero_add, Nat.add_zero, li_0, li_1, li_2, li_3, li_4, li_5, li_6, li_7, li_8, li_9, li_10, li_11, li_12, li_16, li_20, li_24, li_31, li_32, li_48, li_49, li_73, li_74, li_75, li_97, li_98, li_99, li_100, li_101, li_109, li_110, li_255, li_680, li_700, li_9999, li_65536, li_65537, e2, q5, q6]
            simp (disch := omega) only [↓mo_1, ↓mo_2, ad_m1, ite_m1_lt, ite_m2_lt, ite_le_m1, ite_eq_m1, ite_eq_m2, ite_m1_m1, ite_m2_m2, ite_T, ite_F, ite_nz, ite_zz, ite_m1_le, ite_m1_eq, oi_none, oi_some, ob_some, lw_def, ck_true, ckp_su, ite_lt_t, ite_lt_f, ite_le_t, ite_le_f, ite_eq_t, ite_eq_f, ck_inb, nI_add, sb_nI, mu_nI, nI_clamp, sO_at, sO_sO, Nat.add_sub_cancel, Nat.zero_add, Nat.add_zero, li_0, li_1, li_2, li_3, li_4, li_5, li_6, li_7, li_8, li_9, li_10, li_11, li_12, li_16, li_20, li_24, li_31, li_32, li_48, li_49, li_73, li_74, li_75, li_97, li_98, li_99, li_100, li_101, li_109, li_110, li_255, li_680, li_700, li_9999, li_65536, li_65537, h6, e1, k5, b1, k1, li_59, li_122]
            rw [if_neg (fun z => c3 (y59.mp z)), ← g2]
            exact go
        · rw [tk_4 hst c3 c1 c2]
          have q1 : ∀ u v, (sI (sI w 4 0 5 u) 4 0 4 v 4 0).1 5 = u := fun u v => by rw [sI_n (by decide), sI_i]
          refine ⟨sI (sI (sI w 4 0 5 (nI st)) 4 0 4 (nI 4)) 4 0 6 (nI (st + 1)), ?_, (S4.i (by omega)).tr ((S4.i (by omega)).tr (S4.i (by omega))), ⟨by rw [sI_n (by decide), sI_i], by rw [sI_n (by decide), sI_n (by decide), sI_i], sI_i⟩, by rw [sI_n (by decide), sI_n (by decide), sI_n (by decide)]⟩
          have g2 : fX4_moveOn_130 (sI w 4 0 5 (nI st)) (X.2 st) = some ((), sI (sI (sI w 4 0 5 (nI st)) 4 0 4 (nI 4)) 4 0 6 (nI (st + 1))) := by
            have g3 : fX4_moveOn_183 (sI w 4 0 5 (nI st)) = some ((), sI (sI (sI w 4 0 5 (nI st)) 4 0 4 (nI 4)) 4 0 6 (nI (st + 1))) := by
              unfold fX4_moveOn_183
              simp (disch := omega) only [↓mo_1, ↓mo_2, ad_m1, ite_m1_lt, ite_m2_lt, ite_le_m1, ite_eq_m1, ite_eq_m2, ite_m1_m1, ite_m2_m2, ite_T, ite_F, ite_nz, ite_zz, ite_m1_le, ite_m1_eq, oi_none, oi_some, ob_some, lw_def, ck_true, ckp_su, ite_lt_t, ite_lt_f, ite_le_t, ite_le_f, ite_eq_t, ite_eq_f, ck_inb, nI_add, sb_nI, mu_nI, nI_clamp, sO_at, sO_sO, Nat.add_sub_cancel, Nat.zero_add, Nat.add_zero, li_0, li_1, li_2, li_3, li_4, li_5, li_6, li_7, li_8, li_9, li_10, li_11, li_12, li_16, li_20, li_24, li_31, li_32, li_48, li_49, li_73, li_74, li_75, li_97, li_98, li_99, li_100, li_101, li_109, li_110, li_255, li_680, li_700, li_9999, li_65536, li_65537, q1]
            unfold fX4_moveOn_130
            by_cases d : X.2 st < nI 48
            · exact (if_pos d).trans g3
            · exact (if_neg d).trans ((if_pos (y57.mpr (by have := mt y48.mpr d; omega))).trans g3)
          simp (disch := omega) only [↓mo_1, ↓mo_2, ad_m1, ite_m1_lt, ite_m2_lt, ite_le_m1, ite_eq_m1, ite_eq_m2, ite_m1_m1, ite_m2_m2, ite_T, ite_F, ite_nz, ite_zz, ite_m1_le, ite_m1_eq, oi_none, oi_some, ob_some, lw_def, ck_true, ckp_su, ite_lt_t, ite_lt_f, ite_le_t, ite_le_f, ite_eq_t, ite_eq_f, ck_inb, nI_add, sb_nI, mu_nI, nI_clamp, sO_at, sO_sO, Nat.add_sub_cancel, Nat.zero_add, Nat.add_zero, li_0, li_1, li_2, li_3, li_4, li_5, li_6, li_7, li_8, li_9, li_10, li_11, li_12, li_16, li_20, li_24, li_31, li_32, li_48, li_49, li_73, li_74, li_75, li_97, li_98, li_99, li_100, li_101, li_109, li_110, li_255, li_680, li_700, li_9999, li_65536, li_65537, h6, e1, k5, b1, k1, li_59, li_122]
          rw [if_neg (fun z => c3 (y59.mp z)), ← g2]
          exact go
end XTOK
