/-! ===== words, wholes ===== -/
def wbN (i k : Nat) : Nat := ((sbyt.getD i []).getD k 0).toInt.toNat
def slN (i : Nat) : Nat := slen.getD i 0
theorem wb_ok {i k : Nat} (hi : i < 10) (hk : k < slN i) : (sbyt.getD i []).getD k 0 = nI (wbN i k) ∧ 97 ≤ wbN i k ∧ wbN i k ≤ 122 := by
  have : ∀ i, i < 10 → ∀ k, k < slN i → (sbyt.getD i []).getD k 0 = nI (wbN i k) ∧ 97 ≤ wbN i k ∧ wbN i k ≤ 122 := by decide
  exact this i hi k hk
theorem sl_ok {i : Nat} (hi : i < 10) : slN i ≤ 7 := by
  have : ∀ i, i < 10 → slN i ≤ 7 := by decide
  exact this i hi
/-- whether a token is a word -/
def iwS (X : Tx) (t : Tt) (i : Nat) : Bool := decide (t.1 = 1 ∧ t.2.2 - t.2.1 = slN i ∧ ∀ k, k < slN i → tB X (t.2.1 + k) = wbN i k)
def pkG (f : Nat → Nat) : Nat → Nat
  | 0 => 0
  | k + 1 => 32 * pkG f k + (f k - 96)
theorem pkW_G {X : Tx} {st : Nat} : ∀ k, pkW X st k = pkG (fun j => tB X (st + j)) k
  | 0 => rfl
  | k + 1 => by
    show 32 * pkW X st k + _ = 32 * pkG _ k + _
    rw [pkW_G k]
theorem pkG_inj {f g : Nat → Nat} : ∀ {k l : Nat}, (∀ i, i < k → 97 ≤ f i ∧ f i ≤ 122) → (∀ i, i < l → 97 ≤ g i ∧ g i ≤ 122) → pkG f k = pkG g l → k = l ∧ ∀ i, i < k → f i = g i
  | 0, 0, _, _, _ => ⟨rfl, fun i hi => absurd hi (Nat.not_lt_zero i)⟩
  | 0, l + 1, _, hg, h => by
    have := hg l (by omega)
    have h' : 0 = 32 * pkG g l + (g l - 96) := h
    omega
  | k + 1, 0, hf, _, h => by
    have := hf k (by omega)
    have h' : 32 * pkG f k + (f k - 96) = 0 := h
    omega
  | k + 1, l + 1, hf, hg, h => by
    have a := hf k (by omega)
    have b := hg l (by omega)
    have h' : 32 * pkG f k + (f k - 96) = 32 * pkG g l + (g l - 96) := h
    obtain ⟨e1, e2⟩ := pkG_inj (k := k) (l := l) (fun i hi => hf i (by omega)) (fun i hi => hg i (by omega)) (by omega)
    refine ⟨by omega, fun i hi => ?_⟩
    by_cases c : i = k
    · subst c; rw [← e1] at h' b; omega
    · exact e2 i (by omega)
theorem pkG_cg {f g : Nat → Nat} : ∀ {k : Nat}, (∀ i, i < k → f i = g i) → pkG f k = pkG g k
  | 0, _ => rfl
  | k + 1, h => by
    show 32 * pkG f k + (f k - 96) = 32 * pkG g k + (g k - 96)
    rw [pkG_cg (fun i hi => h i (by omega)), h k (by omega)]
theorem pkG_lt {f : Nat → Nat} : ∀ {k : Nat}, k ≤ 8 → (∀ i, i < k → 97 ≤ f i ∧ f i ≤ 122) → pkG f k < 32 ^ k
  | 0, _, _ => Nat.zero_lt_one
  | k + 1, hk, h => by
    have ih := pkG_lt (f := f) (k := k) (by omega) (fun i hi => h i (by omega))
    have hb := h k (by omega)
    show 32 * pkG f k + (f k - 96) < 32 ^ (k + 1)
    rw [Nat.pow_succ]
    omega
theorem p32 {k : Nat} (h : k ≤ 8) : 32 ^ k ≤ 2 ^ 40 := by
  have : ∀ k, k ≤ 8 → 32 ^ k ≤ 2 ^ 40 := by decide
  exact this k h
section WD
variable {w : Wd} {X : Tx} {nd : Nat}
theorem x_iw28 (hX : TxO X) (hE : XE w X) {st i : Nat} (hi : i < 10) (h5 : (w 4 0).1 5 = nI st) (hl : st + slN i ≤ X.1) : ∀ r k, k + r = slN i → (∀ j, j < k → tB X (st + j) = wbN i j) → ∀ m, r < m → fX4_isWord_28 i m w (nI k) = some (b2i (decide (∀ k, k < slN i → tB X (st + k) = wbN i k)), w) := by
  have h7 := hX.1
  have hs := sl_ok hi
  have hsd : slen.getD i 0 = slN i := rfl
  intro r
  induction r with
  | zero =>
    intro k hk ha m hm
    obtain ⟨m, rfl⟩ : ∃ z, m = z + 1 := ⟨m - 1, by omega⟩
    have e : k = slN i := by omega
    subst e
    rw [fX4_isWord_28.eq_2, decide_eq_true ha, hsd]
    simp (disch := omega) only [↓mo_1, ↓mo_2, ad_m1, ite_m1_lt, ite_m2_lt, ite_le_m1, ite_eq_m1, ite_eq_m2, ite_m1_m1, ite_m2_m2, ite_T, ite_F, ite_nz, ite_zz, ite_m1_le, ite_m1_eq, oi_none, oi_some, ob_some, lw_def, ck_true, ckp_su, ite_lt_t, ite_lt_f, ite_le_t, ite_le_f, ite_eq_t, ite_eq_f, ck_inb, nI_add, sb_nI, mu_nI, nI_clamp, sO_at, sO_sO, Nat.add_sub_cancel, Nat.zero_add, Nat.add_zero, li_0, li_1, li_2, li_3, li_4, li_5, li_6, li_7, li_8, li_9, li_10, li_11, li_12, li_16, li_20, li_24, li_31, li_32, li_48, li_49, li_73, li_74, li_75, li_97, li_98, li_99, li_100, li_101, li_109, li_110, li_255, li_680, li_700, li_9999, li_65536, li_65537]
    rfl
  | succ r ih =>
    intro k hk ha m hm
    obtain ⟨m, rfl⟩ : ∃ z, m = z + 1 := ⟨m - 1, by omega⟩
    obtain ⟨t1, t2, t3⟩ := wb_ok hi (show k < slN i by omega)
    have t1 : (sbyt.getD i []).getD k (nI 0) = nI (wbN i k) := t1
    have hy := hX.2 (st + k) (by omega)
    have e1 := by_eqc hy (show wbN i k < 128 by omega)
    rw [fX4_isWord_28.eq_2, hsd]
    simp (disch := omega) only [↓mo_1, ↓mo_2, ad_m1, ite_m1_lt, ite_m2_lt, ite_le_m1, ite_eq_m1, ite_eq_m2, ite_m1_m1, ite_m2_m2, ite_T, ite_F, ite_nz, ite_zz, ite_m1_le, ite_m1_eq, oi_none, oi_some, ob_some, lw_def, ck_true, ckp_su, ite_lt_t, ite_lt_f, ite_le_t, ite_le_f, ite_eq_t, ite_eq_f, ck_inb, nI_add, sb_nI, mu_nI, nI_clamp, sO_at, sO_sO, Nat.add_sub_cancel, Nat.zero_add, Nat.add_zero, li_0, li_1, li_2, li_3, li_4, li_5, li_6, li_7, li_8, li_9, li_10, li_11, li_12, li_16, li_20, li_24, li_31, li_32, li_48, li_49, li_73, li_74, li_75, li_97, li_98, li_99, li_100, li_101, li_109, li_110, li_255, li_680, li_700, li_9999, li_65536, li_65537, h5, x_byteAt hX hE (show st + k < X.1 by omega)]
    rw [t1]
    by_cases c : tB X (st + k) = wbN i k
    · rw [if_pos (e1.mpr c)]
      exact ih (k + 1) (by omega) (fun j hj => by
        by_cases z : j = k
        · rw [z]; exact c
        · exact ha j (by omega)) m (by omega)
    · rw [if_neg (fun z => c (e1.mp z)), decide_eq_false (fun z => c (z k (by omega)))]
      rfl
theorem x_isWord (hX : TxO X) (hE : XE w X) {p i : Nat} (hp : p ≤ X.1) (hi : i < 10) (hT : XT w (tk X p)) : fX4_isWord i w = some (b2i (iwS X (tk X p) i), w) := by
  have h7 := hX.1
  have hs := sl_ok hi
  obtain ⟨a1, a2, a3, a4, a5, a6, a7, a8, a9⟩ := tk_ok hp
  generalize tk X p = t at *
  obtain ⟨t1, t2, t3⟩ := hT
  have hsd : slen.getD i 0 = slN i := rfl
  unfold fX4_isWord iwS
  rw [hsd]
  by_cases c : t.1 = 1
  · by_cases d : t.2.2 - t.2.1 = slN i
    · have e1 := x_iw28 hX hE hi t2 (show t.2.1 + slN i ≤ X.1 by omega) (slN i) 0 (Nat.zero_add _) (fun j hj => absurd hj (Nat.not_lt_zero j)) fuel0 (by unfold fuel0; omega)
      have e2 : decide (t.1 = 1 ∧ t.2.2 - t.2.1 = slN i ∧ ∀ k, k < slN i → tB X (t.2.1 + k) = wbN i k) = decide (∀ k, k < slN i → tB X (t.2.1 + k) = wbN i k) := by
        by_cases z : ∀ k, k < slN i → tB X (t.2.1 + k) = wbN i k
        · rw [decide_eq_true z, decide_eq_true ⟨c, d, z⟩]
        · rw [decide_eq_false z, decide_eq_false (fun q => z q.2.2)]
      rw [e2, ← e1]
      simp (disch := omega) only [↓mo_1, ↓mo_2, ad_m1, ite_m1_lt, ite_m2_lt, ite_le_m1, ite_eq_m1, ite_eq_m2, ite_m1_m1, ite_m2_m2, ite_T, ite_F, ite_nz, ite_zz, ite_m1_le, ite_m1_eq, oi_none, oi_some, ob_some, lw_def, ck_true, ckp_su, ite_lt_t, ite_lt_f, ite_le_t, ite_le_f, ite_eq_t, ite_eq_f, ck_inb, nI_add, sb_nI, mu_nI, nI_clamp, sO_at, sO_sO, Nat.add_sub_cancel, Nat.zero_add, Nat.add_zero, li_0, li_1, li_2, li_3, li_4, li_5, li_6, li_7, li_8, li_9, li_10, li_11, li_12, li_16, li_20, li_24, li_31, li_32, li_48, li_49, li_73, li_74, li_75, li_97, li_98, li_99, li_100, li_101, li_109, li_110, li_255, li_680, li_700, li_9999, li_65536, li_65537, t1, t2, t3, c, d]
    · rw [decide_eq_false (fun q => d q.2.1)]
      simp (disch := omega) only [↓mo_1, ↓mo_2, ad_m1, ite_m1_lt, ite_m2_lt, ite_le_m1, ite_eq_m1, ite_eq_m2, ite_m1_m1, ite_m2_m2, ite_T, ite_F, ite_nz, ite_zz, ite_m1_le, ite_m1_eq, oi_none, oi_some, ob_some, lw_def, ck_true, ckp_su, ite_lt_t, ite_lt_f, ite_le_t, ite_le_f, ite_eq_t, ite_eq_f, ck_inb, nI_add, sb_nI, mu_nI, nI_clamp, sO_at, sO_sO, Nat.add_sub_cancel, Nat.zero_add, Nat.add_zero, li_0, li_1, li_2, li_3, li_4, li_5, li_6, li_7, li_8, li_9, li_10, li_11, li_12, li_16, li_20, li_24, li_31, li_32, li_48, li_49, li_73, li_74, li_75, li_97, li_98, li_99, li_100, li_101, li_109, li_110, li_255, li_680, li_700, li_9999, li_65536, li_65537, t1, t2, t3, c]
      rfl
  · rw [decide_eq_false (fun q => c q.1)]
    simp (disch := omega) only [↓mo_1, ↓mo_2, ad_m1, ite_m1_lt, ite_m2_lt, ite_le_m1, ite_eq_m1, ite_eq_m2, ite_m1_m1, ite_m2_m2, ite_T, ite_F, ite_nz, ite_zz, ite_m1_le, ite_m1_eq, oi_none, oi_some, ob_some, lw_def, ck_true, ckp_su, ite_lt_t, ite_lt_f, ite_le_t, ite_le_f, ite_eq_t, ite_eq_f, ck_inb, nI_add, sb_nI, mu_nI, nI_clamp, sO_at, sO_sO, Nat.add_sub_cancel, Nat.zero_add, Nat.add_zero, li_0, li_1, li_2, li_3, li_4, li_5, li_6, li_7, li_8, li_9, li_10, li_11, li_12, li_16, li_20, li_24, li_31, li_32, li_48, li_49, li_73, li_74, li_75, li_97, li_98, li_99, li_100, li_101, li_109, li_110, li_255, li_680, li_700, li_9999, li_65536, li_65537, t1]
    rfl
theorem m_pk {i : Nat} (hi : i < 10) : ∀ r k, k + r = slN i → ∀ m, r < m → fX11_packed_4 nd i m w (lN (pkG (wbN i) k)) (nI k) = some (lN (pkG (wbN i) (slN i)), w) := by
  have hs := sl_ok hi
  have hsd : slen.getD i 0 = slN i := rfl
  intro r
  induction r with
  | zero =>
    intro k hk m hm
    obtain ⟨m, rfl⟩ : ∃ z, m = z + 1 := ⟨m - 1, by omega⟩
    have e : k = slN i := by omega
    subst e
    rw [fX11_packed_4.eq_2, hsd]
    simp (disch := omega) only [↓mo_1, ↓mo_2, ad_m1, ite_m1_lt, ite_m2_lt, ite_le_m1, ite_eq_m1, ite_eq_m2, ite_m1_m1, ite_m2_m2, ite_T, ite_F, ite_nz, ite_zz, ite_m1_le, ite_m1_eq, oi_none, oi_some, ob_some, lw_def, ck_true, ckp_su, ite_lt_t, ite_lt_f, ite_le_t, ite_le_f, ite_eq_t, ite_eq_f, ck_inb, nI_add, sb_nI, mu_nI, nI_clamp, sO_at, sO_sO, Nat.add_sub_cancel, Nat.zero_add, Nat.add_zero, li_0, li_1, li_2, li_3, li_4, li_5, li_6, li_7, li_8, li_9, li_10, li_11, li_12, li_16, li_20, li_24, li_31, li_32, li_48, li_49, li_73, li_74, li_75, li_97, li_98, li_99, li_100, li_101, li_109, li_110, li_255, li_680, li_700, li_9999, li_65536, li_65537]
  | succ r ih =>
    intro k hk m hm
    obtain ⟨m, rfl⟩ : ∃ z, m = z + 1 := ⟨m - 1, by omega⟩
    obtain ⟨t1, t2, t3⟩ := wb_ok hi (show k < slN i by omega)
    have t1 : (sbyt.getD i []).getD k (nI 0) = nI (wbN i k) := t1
    have e15 : (nI (wbN i k) - nI 97 + nI 1).toInt64 = lN (wbN i k - 96) := by
      rw [pk_sub (by omega), nI_add, nI_l (by omega)]
      exact congrArg lN (by omega)
    have e14 : lN 32 * lN (pkG (wbN i) k) + lN (wbN i k - 96) = lN (pkG (wbN i) (k + 1)) := by
      rw [lN_mul, lN_add]; rfl
    rw [fX11_packed_4.eq_2, hsd]
    simp (disch := omega) only [↓mo_1, ↓mo_2, ad_m1, ite_m1_lt, ite_m2_lt, ite_le_m1, ite_eq_m1, ite_eq_m2, ite_m1_m1, ite_m2_m2, ite_T, ite_F, ite_nz, ite_zz, ite_m1_le, ite_m1_eq, oi_none, oi_some, ob_some, lw_def, ck_true, ckp_su, ite_lt_t, ite_lt_f, ite_le_t, ite_le_f, ite_eq_t, ite_eq_f, ck_inb, nI_add, nI_clamp, sO_at, sO_sO, Nat.add_sub_cancel, Nat.zero_add, Nat.add_zero, li_0, li_1, li_2, li_3, li_4, li_5, li_6, li_7, li_8, li_9, li_10, li_11, li_12, li_16, li_20, li_24, li_31, li_32, li_48, li_49, li_73, li_74, li_75, li_97, li_98, li_99, li_100, li_101, li_109, li_110, li_255, li_680, li_700, li_9999, li_65536, li_65537]
    rw [t1]
    simp (disch := omega) only [↓mo_1, ↓mo_2, ad_m1, ite_m1_lt, ite_m2_lt, ite_le_m1, ite_eq_m1, ite_eq_m2, ite_m1_m1, ite_m2_m2, ite_T, ite_F, ite_nz, ite_zz, ite_m1_le, ite_m1_eq, oi_none, oi_some, ob_some, lw_def, ck_true, ckp_su, ite_lt_t, ite_lt_f, ite_le_t, ite_le_f, ite_eq_t, ite_eq_f, ck_inb, nI_add, nI_clamp, sO_at, sO_sO, Nat.add_sub_cancel, Nat.zero_add, Nat.add_zero, li_0, li_1, li_2, li_3, li_4, li_5, li_6, li_7, li_8, li_9, li_10, li_11, li_12, li_16, li_20, li_24, li_31, li_32, li_48, li_49, li_73, li_74, li_75, li_97, li_98, li_99, li_100, li_101, li_109, li_110, li_255, li_680, li_700, li_9999, li_65536, li_65537, l_32, e15, e14]
    exact ih (k + 1) (by omega) m (by omega)
theorem m_packed {i : Nat} (hi : i < 10) : fX11_packed nd i w = some (lN (pkG (wbN i) (slN i)), w) := by
  have hs := sl_ok hi
  exact m_pk hi (slN i) 0 (Nat.zero_add _) fuel0 (by unfold fuel0; omega)
theorem m_isWord {p i : Nat} (hp : p ≤ X.1) (hi : i < 10) (hT : MT w X (tk X p)) : fX11_isWord nd i w = some (b2i (iwS X (tk X p) i), w) := by
  have hs := sl_ok hi
  obtain ⟨a1, a2, a3, a4, a5, a6, a7, a8, a9⟩ := tk_ok hp
  generalize tk X p = t at *
  obtain ⟨t1, t2, t3, t4, t5⟩ := hT
  unfold fX11_isWord iwS
  by_cases c : t.1 = 1
  · have e9 : (w 11 0).1 9 = nI 2 := by rw [t1, c]; rfl
    have e14 := t4 c
    obtain ⟨b1, b2⟩ := a6 c
    have hf : ∀ j, j < t.2.2 - t.2.1 → 97 ≤ tB X (t.2.1 + j) ∧ tB X (t.2.1 + j) ≤ 122 := fun j hj => b2 _ (by omega) (by omega)
    have hg : ∀ j, j < slN i → 97 ≤ wbN i j ∧ wbN i j ≤ 122 := fun j hj => (wb_ok hi hj).2
    have l1 := Nat.lt_of_lt_of_le (pkG_lt (f := fun j => tB X (t.2.1 + j)) b1 hf) (p32 b1)
    have l2 := Nat.lt_of_lt_of_le (pkG_lt (f := wbN i) (show slN i ≤ 8 by omega) hg) (p32 (show slN i ≤ 8 by omega))
    rw [pkW_G] at e14
    by_cases d : t.1 = 1 ∧ t.2.2 - t.2.1 = slN i ∧ ∀ k, k < slN i → tB X (t.2.1 + k) = wbN i k
    · have e3 : pkG (fun j => tB X (t.2.1 + j)) (t.2.2 - t.2.1) = pkG (wbN i) (slN i) := by rw [d.2.1]; exact pkG_cg d.2.2
      rw [decide_eq_true d]
      simp (disch := omega) only [↓mo_1, ↓mo_2, ad_m1, ite_m1_lt, ite_m2_lt, ite_le_m1, ite_eq_m1, ite_eq_m2, ite_m1_m1, ite_m2_m2, ite_T, ite_F, ite_nz, ite_zz, ite_m1_le, ite_m1_eq, oi_none, oi_some, ob_some, lw_def, ck_true, ckp_su, ite_lt_t, ite_lt_f, ite_le_t, ite_le_f, ite_eq_t, ite_eq_f, ck_inb, nI_add, sb_nI, mu_nI, nI_clamp, sO_at, sO_sO, Nat.add_sub_cancel, Nat.zero_add, Nat.add_zero, li_0, li_1, li_2, li_3, li_4, li_5, li_6, li_7, li_8, li_9, li_10, li_11, li_12, li_16, li_20, li_24, li_31, li_32, li_48, li_49, li_73, li_74, li_75, li_97, li_98, li_99, li_100, li_101, li_109, li_110, li_255, li_680, li_700, li_9999, li_65536, li_65537, e9, m_packed hi]
      rw [e14, e3]
      exact if_pos ((lg_cmp_eq _ _).mpr rfl)
    · rw [decide_eq_false d]
      simp (disch := omega) only [↓mo_1, ↓mo_2, ad_m1, ite_m1_lt, ite_m2_lt, ite_le_m1, ite_eq_m1, ite_eq_m2, ite_m1_m1, ite_m2_m2, ite_T, ite_F, ite_nz, ite_zz, ite_m1_le, ite_m1_eq, oi_none, oi_some, ob_some, lw_def, ck_true, ckp_su, ite_lt_t, ite_lt_f, ite_le_t, ite_le_f, ite_eq_t, ite_eq_f, ck_inb, nI_add, sb_nI, mu_nI, nI_clamp, sO_at, sO_sO, Nat.add_sub_cancel, Nat.zero_add, Nat.add_zero, li_0, li_1, li_2, li_3, li_4, li_5, li_6, li_7, li_8, li_9, li_10, li_11, li_12, li_16, li_20, li_24, li_31, li_32, li_48, li_49, li_73, li_74, li_75, li_97, li_98, li_99, li_100, li_101, li_109, li_110, li_255, li_680, li_700, li_9999, li_65536, li_65537, e9, m_packed hi]
      rw [e14]
      refine if_neg (fun z => d ?_)
      have z2 := (pk_lEQ (by omega) (by omega)).mp ((lg_cmp_eq _ _).mp z)
      obtain ⟨q1, q2⟩ := pkG_inj hf hg z2
      exact ⟨c, q1, fun k hk => q2 k (by omega)⟩
  · rw [decide_eq_false (fun q => c q.1)]
    have e9 : ∃ v, (w 11 0).1 9 = nI v ∧ v ≠ 2 ∧ v < 5 := by
      refine ⟨sgK t.1, t1, ?_, ?_⟩
      · unfold sgK; split <;> (try split) <;> (try split) <;> (try split) <;> omega
      · unfold sgK; split <;> (try split) <;> (try split) <;> (try split) <;> omega
    obtain ⟨v, v1, v2, v3⟩ := e9
    simp (disch := omega) only [↓mo_1, ↓mo_2, ad_m1, ite_m1_lt, ite_m2_lt, ite_le_m1, ite_eq_m1, ite_eq_m2, ite_m1_m1, ite_m2_m2, ite_T, ite_F, ite_nz, ite_zz, ite_m1_le, ite_m1_eq, oi_none, oi_some, ob_some, lw_def, ck_true, ckp_su, ite_lt_t, ite_lt_f, ite_le_t, ite_le_f, ite_eq_t, ite_eq_f, ck_inb, nI_add, sb_nI, mu_nI, nI_clamp, sO_at, sO_sO, Nat.add_sub_cancel, Nat.zero_add, Nat.add_zero, li_0, li_1, li_2, li_3, li_4, li_5, li_6, li_7, li_8, li_9, li_10, li_11, li_12, li_16, li_20, li_24, li_31, li_32, li_48, li_49, li_73, li_74, li_75, li_97, li_98, li_99, li_100, li_101, li_109, li_110, li_255, li_680, li_700, li_9999, li_65536, li_65537, v1]
    rfl
/-! the class: a fault, a word, a whole -/
def S49 (w w2 : Wd) : Prop := (∀ c i, ¬ (c = 4 ∧ i = 0) → w2 c i = w c i) ∧ (w2 4 0).2 = (w 4 0).2 ∧ ∀ k, k < 4 → (w2 4 0).1 k = (w 4 0).1 k
theorem S4.s {w w2 : Wd} (h : S4 w w2) : S49 w w2 := ⟨h.1, h.2.1, fun k hk => h.2.2 k (by omega) (by omega) (by omega) (by omega)⟩
theorem S49.tr {w1 w2 w3 : Wd} (h : S49 w1 w2) (h2 : S49 w2 w3) : S49 w1 w3 := ⟨fun c i z => (h2.1 c i z).trans (h.1 c i z), h2.2.1.trans h.2.1, fun k a => (h2.2.2 k a).trans (h.2.2 k a)⟩
theorem S49.i {k : Nat} {v : Int32} (h : 4 ≤ k) : S49 w (sI w 4 0 k v) := ⟨fun c i z => sO_ne z, sI_2, fun m hm => sI_n (by omega)⟩
theorem x_stopAt {f pl : Int32} : ∃ w2 : Wd, fX4_stopAt w f pl = some (nI 0, w2) ∧ S49 w w2 ∧ (w2 4 0).1 8 = f ∧ (w2 4 0).1 9 = pl := by
  refine ⟨sI (sI w 4 0 8 f) 4 0 9 pl, ?_, (S49.i (by omega)).tr (S49.i (by omega)), by rw [sI_n (by decide), sI_i], sI_i⟩
  unfold fX4_stopAt
  simp (disch := omega) only [↓mo_1, ↓mo_2, ad_m1, ite_m1_lt, ite_m2_lt, ite_le_m1, ite_eq_m1, ite_eq_m2, ite_m1_m1, ite_m2_m2, ite_T, ite_F, ite_nz, ite_zz, ite_m1_le, ite_m1_eq, oi_none, oi_some, ob_some, lw_def, ck_true, ckp_su, ite_lt_t, ite_lt_f, ite_le_t, ite_le_f, ite_eq_t, ite_eq_f, ck_inb, nI_add, sb_nI, mu_nI, nI_clamp, sO_at, sO_sO, Nat.add_sub_cancel, Nat.zero_add, Nat.add_zero, li_0, li_1, li_2, li_3, li_4, li_5, li_6, li_7, li_8, li_9, li_10, li_11, li_12, li_16, li_20, li_24, li_31, li_32, li_48, li_49, li_73, li_74, li_75, li_97, li_98, li_99, li_100, li_101, li_109, li_110, li_255, li_680, li_700, li_9999, li_65536, li_65537]
theorem x_tw1 (hX : TxO X) (hE : XE w X) {p i : Nat} (hp : p ≤ X.1) (hi : i < 10) (hT : XT w (tk X p)) (h : iwS X (tk X p) i = true) : ∃ w2 : Wd, fX4_takeWord i w = some (nI 1, w2) ∧ S4 w w2 ∧ XT w2 (tk X (tk X p).2.2) := by
  obtain ⟨w2, e1, e2, e3, -⟩ := x_moveOn hX hE (tk_ok hp).2.2.2.1 hT.2.2
  refine ⟨w2, ?_, e2, e3⟩
  have e4 := x_isWord hX hE hp hi hT
  rw [h, b2i_t] at e4
  unfold fX4_takeWord
  simp (disch := omega) only [↓mo_1, ↓mo_2, ad_m1, ite_m1_lt, ite_m2_lt, ite_le_m1, ite_eq_m1, ite_eq_m2, ite_m1_m1, ite_m2_m2, ite_T, ite_F, ite_nz, ite_zz, ite_m1_le, ite_m1_eq, oi_none, oi_some, ob_some, lw_def, ck_true, ckp_su, ite_lt_t, ite_lt_f, ite_le_t, ite_le_f, ite_eq_t, ite_eq_f, ck_inb, nI_add, sb_nI, mu_nI, nI_clamp, sO_at, sO_sO, Nat.add_sub_cancel, Nat.zero_add, Nat.add_zero, li_0, li_1, li_2, li_3, li_4, li_5, li_6, li_7, li_8, li_9, li_10, li_11, li_12, li_16, li_20, li_24, li_31, li_32, li_48, li_49, li_73, li_74, li_75, li_97, li_98, li_99, li_100, li_101, li_109, li_110, li_255, li_680, li_700, li_9999, li_65536, li_65537, e4, e1]
theorem x_tw0 (hX : TxO X) (hE : XE w X) {p i : Nat} (hp : p ≤ X.1) (hi : i < 10) (hT : XT w (tk X p)) (h : iwS X (tk X p) i = false) : ∃ w2 : Wd, fX4_takeWord i w = some (nI 0, w2) ∧ S49 w w2 ∧ (w2 4 0).1 8 = nI 1 ∧ (w2 4 0).1 9 = nI (tk X p).2.1 := by
  obtain ⟨w2, e1, e2, e3, e5⟩ := x_stopAt (w := w) (f := nI 1) (pl := nI (tk X p).2.1)
  refine ⟨w2, ?_, e2, e3, e5⟩
  have e4 := x_isWord hX hE hp hi hT
  rw [h, b2i_f] at e4
  unfold fX4_takeWord
  simp (disch := omega) only [↓mo_1, ↓mo_2, ad_m1, ite_m1_lt, ite_m2_lt, ite_le_m1, ite_eq_m1, ite_eq_m2, ite_m1_m1, ite_m2_m2, ite_T, ite_F, ite_nz, ite_zz, ite_m1_le, ite_m1_eq, oi_none, oi_some, ob_some, lw_def, ck_true, ckp_su, ite_lt_t, ite_lt_f, ite_le_t, ite_le_f, ite_eq_t, ite_eq_f, ck_inb, nI_add, sb_nI, mu_nI, nI_clamp, sO_at, sO_sO, Nat.add_sub_cancel, Nat.zero_add, Nat.add_zero, li_0, li_1, li_2, li_3, li_4, li_5, li_6, li_7, li_8, li_9, li_10, li_11, li_12, li_16, li_20, li_24, li_31, li_32, li_48, li_49, li_73, li_74, li_75, li_97, li_98, li_99, li_100, li_101, li_109, li_110, li_255, li_680, li_700, li_9999, li_65536, li_65537, e4, hT.2.1, e1, isb_0]
def vlT (X : Tx) (t : Tt) : Nat := vlW X t.2.1 (t.2.2 - t.2.1)
theorem vl_le {p : Nat} (hp : p ≤ X.1) (h2 : (tk X p).1 = 2) : vlT X (tk X p) ≤ 9999 := by
  obtain ⟨a1, a2, a3, a4, a5, a6, a7, -⟩ := tk_ok hp
  obtain ⟨b1, b2⟩ := a7 h2
  have := vl_lt (X := X) (st := (tk X p).2.1) ((tk X p).2.2 - (tk X p).2.1) b1 (fun i hi => b2 _ (by omega) (by omega))
  have h4 : ∀ k, k ≤ 4 → 10 ^ k ≤ 10000 := by decide
  have := h4 _ b1
  unfold vlT
  omega
theorem x_w28 (hX : TxO X) {st nx : Nat} {lo hi : Int32} (hn : nx ≤ X.1) (hv : ∀ i, st ≤ i → i < nx → 48 ≤ tB X i ∧ tB X i ≤ 57) : ∀ r k, st + k + r = nx → ∀ (m : Nat) (w : Wd), r < m → XE w X → (w 4 0).1 6 = nI nx → (w 4 0).1 7 = nI (vlW X st k) → ∃ w2 : Wd, fX4_takeWhole_28 m w lo hi (nI (st + k)) = fX4_takeWhole_70 w2 lo hi ∧ S4 w w2 ∧ (w2 4 0).1 4 = (w 4 0).1 4 ∧ (w2 4 0).1 5 = (w 4 0).1 5 ∧ (w2 4 0).1 6 = (w 4 0).1 6 ∧ (w2 4 0).1 7 = nI (vlW X st (nx - st)) := by
  have h7 := hX.1
  intro r
  induction r with
  | zero =>
    intro k hk m w hm hE h6 h7'
    obtain ⟨m, rfl⟩ : ∃ z, m = z + 1 := ⟨m - 1, by omega⟩
    refine ⟨w, ?_, S4.rf, rfl, rfl, rfl, by rw [h7', show nx - st = k by omega]⟩
    rw [fX4_takeWhole_28.eq_2]
    simp (disch := omega) only [↓mo_1, ↓mo_2, ad_m1, ite_m1_lt, ite_m2_lt, ite_le_m1, ite_eq_m1, ite_eq_m2, ite_m1_m1, ite_m2_m2, ite_T, ite_F, ite_nz, ite_zz, ite_m1_le, ite_m1_eq, oi_none, oi_some, ob_some, lw_def, ck_true, ckp_su, ite_lt_t, ite_lt_f, ite_le_t, ite_le_f, ite_eq_t, ite_eq_f, ck_inb, nI_add, sb_nI, mu_nI, nI_clamp, sO_at, sO_sO, Nat.add_sub_cancel, Nat.zero_add, Nat.add_zero, li_0, li_1, li_2, li_3, li_4, li_5, li_6, li_7, li_8, li_9, li_10, li_11, li_12, li_16, li_20, li_24, li_31, li_32, li_48, li_49, li_73, li_74, li_75, li_97, li_98, li_99, li_100, li_101, li_109, li_110, li_255, li_680, li_700, li_9999, li_65536, li_65537, h6]
  | succ r ih =>
    intro k hk m w hm hE h6 h7'
    obtain ⟨m, rfl⟩ : ∃ z, m = z + 1 := ⟨m - 1, by omega⟩
    have hb := hv (st + k) (by omega) (by omega)
    have hy := hX.2 (st + k) (by omega)
    have ey : X.2 (st + k) = nI (tB X (st + k)) := by
      rcases by_int hy with ⟨-, h⟩ | ⟨h, -⟩
      · exact h
      · have : tB X (st + k) = byN (X.2 (st + k)) := rfl
        omega
    have e14 : nI 10 * nI (vlW X st k) + X.2 (st + k) - nI 48 = nI (vlW X st (k + 1)) := by
      rw [ey, pk_mul, nI_add, pk_sub (by omega)]
      exact congrArg nI (by show _ = 10 * vlW X st k + (tB X (st + k) - 48); omega)
    obtain ⟨w2, e1, e2, e3, e4, e5, e6⟩ := ih (k + 1) (by omega) m (sI w 4 0 7 (nI (vlW X st (k + 1)))) (by omega) (hE.s4 (S4.i (by omega))) (by rw [sI_n (by decide)]; exact h6) sI_i
    refine ⟨w2, ?_, (S4.i (by omega)).tr e2, by rw [e3, sI_n (by decide)], by rw [e4, sI_n (by decide)], by rw [e5, sI_n (by decide)], e6⟩
    rw [fX4_takeWhole_28.eq_2]
    simp (disch := omega) only [↓mo_1, ↓mo_2, ad_m1, ite_m1_lt, ite_m2_lt, ite_le_m1, ite_eq_m1, ite_eq_m2, ite_m1_m1, ite_m2_m2, ite_T, ite_F, ite_nz, ite_zz, ite_m1_le, ite_m1_eq, oi_none, oi_some, ob_some, lw_def, ck_true, ckp_su, ite_lt_t, ite_lt_f, ite_le_t, ite_le_f, ite_eq_t, ite_eq_f, ck_inb, nI_add, nI_clamp, sO_at, sO_sO, Nat.add_sub_cancel, Nat.zero_add, Nat.add_zero, li_0, li_1, li_2, li_3, li_4, li_5, li_6, li_7, li_8, li_9, li_10, li_11, li_12, li_16, li_20, li_24, li_31, li_32, li_48, li_49, li_73, li_74, li_75, li_97, li_98, li_99, li_100, li_101, li_109, li_110, li_255, li_680, li_700, li_9999, li_65536, li_65537, h6, hE.1, x_byteAt hX hE (show st + k < X.1 by omega), h7']
    rw [e14]
    exact e1
/-- takeWhole -/
theorem x_wh (hX : TxO X) (hE : XE w X) {p lo hi : Nat} (hp : p ≤ X.1) (hT : XT w (tk X p)) (hlo : lo < 2 ^ 31) (hhi : hi < 2 ^ 31) : ((tk X p).1 = 2 ∧ lo ≤ vlT X (tk X p) ∧ vlT X (tk X p) ≤ hi → ∃ w2 : Wd, fX4_takeWhole w (nI lo) (nI hi) = some (nI 1, w2) ∧ S4 w w2 ∧ XT w2 (tk X (tk X p).2.2) ∧ (w2 4 0).1 7 = nI (vlT X (tk X p))) ∧ ((tk X p).1 = 2 ∧ ¬ (lo ≤ vlT X (tk X p) ∧ vlT X (tk X p) ≤ hi) → ∃ w2 : Wd, fX4_takeWhole w (nI lo) (nI hi) = some (nI 0, w2) ∧ S49 w w2 ∧ (w2 4 0).1 8 = nI 4 ∧ (w2 4 0).1 9 = nI (tk X p).2.1) ∧ (¬ (tk X p).1 = 2 → ∃ w2 : Wd, fX4_takeWhole w (nI lo) (nI hi) = some (nI 0, w2) ∧ S49 w w2 ∧ (w2 4 0).1 8 = nI 1 ∧ (w2 4 0).1 9 = nI (tk X p).2.1) := by
  have h7 := hX.1
  have hvl := vl_le hp
  obtain ⟨a1, a2, a3, a4, a5, a6, a7, a8, a9⟩ := tk_ok hp
  have go : (tk X p).1 = 2 → ∃ w2 : Wd, fX4_takeWhole w (nI lo) (nI hi) = fX4_takeWhole_70 w2 (nI lo) (nI hi) ∧ S4 w w2 ∧ XT w2 (tk X p) ∧ (w2 4 0).1 7 = nI (vlT X (tk X p)) := by
    intro c
    obtain ⟨b1, b2⟩ := a7 c
    obtain ⟨w2, e1, e2, e3, e4, e5, e6⟩ := x_w28 (lo := nI lo) (hi := nI hi) hX a4 b2 ((tk X p).2.2 - (tk X p).2.1) 0 (by omega) fuel0 (sI w 4 0 7 (nI 0)) (by unfold fuel0; omega) (hE.s4 (S4.i (by omega))) (by rw [sI_n (by decide)]; exact hT.2.2) sI_i
    refine ⟨w2, ?_, (S4.i (by omega)).tr e2, ⟨by rw [e3, sI_n (by decide)]; exact hT.1, by rw [e4, sI_n (by decide)]; exact hT.2.1, by rw [e5, sI_n (by decide)]; exact hT.2.2⟩, e6⟩
    have h4 : (w 4 0).1 4 = nI 2 := by rw [hT.1, c]
    have k5 : ∀ v, (sI w 4 0 7 v 4 0).1 5 = nI (tk X p).2.1 := fun v => by rw [sI_n (by decide)]; exact hT.2.1
    unfold fX4_takeWhole
    simp (disch := omega) only [↓mo_1, ↓mo_2, ad_m1, ite_m1_lt, ite_m2_lt, ite_le_m1, ite_eq_m1, ite_eq_m2, ite_m1_m1, ite_m2_m2, ite_T, ite_F, ite_nz, ite_zz, ite_m1_le, ite_m1_eq, oi_none, oi_some, ob_some, lw_def, ck_true, ckp_su, ite_lt_t, ite_lt_f, ite_le_t, ite_le_f, ite_eq_t, ite_eq_f, ck_inb, nI_add, sb_nI, mu_nI, nI_clamp, sO_at, sO_sO, Nat.add_sub_cancel, Nat.zero_add, Nat.add_zero, li_0, li_1, li_2, li_3, li_4, li_5, li_6, li_7, li_8, li_9, li_10, li_11, li_12, li_16, li_20, li_24, li_31, li_32, li_48, li_49, li_73, li_74, li_75, li_97, li_98, li_99, li_100, li_101, li_109, li_110, li_255, li_680, li_700, li_9999, li_65536, li_65537, h4, k5]
    exact e1
  refine ⟨fun ⟨c, d1, d2⟩ => ?_, fun ⟨c, d⟩ => ?_, fun c => ?_⟩
  · obtain ⟨w2, e1, e2, e3, e4⟩ := go c
    have := hvl c
    obtain ⟨w3, f1, f2, f3, f4⟩ := x_moveOn hX (hE.s4 e2) a4 e3.2.2
    refine ⟨w3, ?_, e2.tr f2, f3, by rw [f4]; exact e4⟩
    rw [e1]
    unfold fX4_takeWhole_70
    simp (disch := omega) only [↓mo_1, ↓mo_2, ad_m1, ite_m1_lt, ite_m2_lt, ite_le_m1, ite_eq_m1, ite_eq_m2, ite_m1_m1, ite_m2_m2, ite_T, ite_F, ite_nz, ite_zz, ite_m1_le, ite_m1_eq, oi_none, oi_some, ob_some, lw_def, ck_true, ckp_su, ite_lt_t, ite_lt_f, ite_le_t, ite_le_f, ite_eq_t, ite_eq_f, ck_inb, nI_add, sb_nI, mu_nI, nI_clamp, sO_at, sO_sO, Nat.add_sub_cancel, Nat.zero_add, Nat.add_zero, li_0, li_1, li_2, li_3, li_4, li_5, li_6, li_7, li_8, li_9, li_10, li_11, li_12, li_16, li_20, li_24, li_31, li_32, li_48, li_49, li_73, li_74, li_75, li_97, li_98, li_99, li_100, li_101, li_109, li_110, li_255, li_680, li_700, li_9999, li_65536, li_65537, e4, f1]
  · obtain ⟨w2, e1, e2, e3, e4⟩ := go c
    have := hvl c
    obtain ⟨w3, f1, f2, f3, f4⟩ := x_stopAt (w := w2) (f := nI 4) (pl := nI (tk X p).2.1)
    refine ⟨w3, ?_, e2.s.tr f2, f3, f4⟩
    rw [e1]
    unfold fX4_takeWhole_70
    by_cases d1 : vlT X (tk X p) < lo
    · simp (disch := omega) only [↓mo_1, ↓mo_2, ad_m1, ite_m1_lt, ite_m2_lt, ite_le_m1, ite_eq_m1, ite_eq_m2, ite_m1_m1, ite_m2_m2, ite_T, ite_F, ite_nz, ite_zz, ite_m1_le, ite_m1_eq, oi_none, oi_some, ob_some, lw_def, ck_true, ckp_su, ite_lt_t, ite_lt_f, ite_le_t, ite_le_f, ite_eq_t, ite_eq_f, ck_inb, nI_add, sb_nI, mu_nI, nI_clamp, sO_at, sO_sO, Nat.add_sub_cancel, Nat.zero_add, Nat.add_zero, li_0, li_1, li_2, li_3, li_4, li_5, li_6, li_7, li_8, li_9, li_10, li_11, li_12, li_16, li_20, li_24, li_31, li_32, li_48, li_49, li_73, li_74, li_75, li_97, li_98, li_99, li_100, li_101, li_109, li_110, li_255, li_680, li_700, li_9999, li_65536, li_65537, e4, e3.2.1, f1, isb_0]
    · simp (disch := omega) only [↓mo_1, ↓mo_2, ad_m1, ite_m1_lt, ite_m2_lt, ite_le_m1, ite_eq_m1, ite_eq_m2, ite_m1_m1, ite_m2_m2, ite_T, ite_F, ite_nz, ite_zz, ite_m1_le, ite_m1_eq, oi_none, oi_some, ob_some, lw_def, ck_true, ckp_su, ite_lt_t, ite_lt_f, ite_le_t, ite_le_f, ite_eq_t, ite_eq_f, ck_inb, nI_add, sb_nI, mu_nI, nI_clamp, sO_at, sO_sO, Nat.add_sub_cancel, Nat.zero_add, Nat.add_zero, li_0, li_1, li_2, li_3, li_4, li_5, li_6, li_7, li_8, li_9, li_10, li_11, li_12, li_16, li_20, li_24, li_31, li_32, li_48, li_49, li_73, li_74, li_75, li_97, li_98, li_99, li_100, li_101, li_109, li_110, li_255, li_680, li_700, li_9999, li_65536, li_65537, e4, e3.2.1, f1, isb_0]
  · obtain ⟨w3, f1, f2, f3, f4⟩ := x_stopAt (w := w) (f := nI 1) (pl := nI (tk X p).2.1)
    refine ⟨w3, ?_, f2, f3, f4⟩
    unfold fX4_takeWhole
    simp (disch := omega) only [↓mo_1, ↓mo_2, ad_m1, ite_m1_lt, ite_m2_lt, ite_le_m1, ite_eq_m1, ite_eq_m2, ite_m1_m1, ite_m2_m2, ite_T, ite_F, ite_nz, ite_zz, ite_m1_le, ite_m1_eq, oi_none, oi_some, ob_some, lw_def, ck_true, ckp_su, ite_lt_t, ite_lt_f, ite_le_t, ite_le_f, ite_eq_t, ite_eq_f, ck_inb, nI_add, sb_nI, mu_nI, nI_clamp, sO_at, sO_sO, Nat.add_sub_cancel, Nat.zero_add, Nat.add_zero, li_0, li_1, li_2, li_3, li_4, li_5, li_6, li_7, li_8, li_9, li_10, li_11, li_12, li_16, li_20, li_24, li_31, li_32, li_48, li_49, li_73, li_74, li_75, li_97, li_98, li_99, li_100, li_101, li_109, li_110, li_255, li_680, li_700, li_9999, li_65536, li_65537, hT.1, hT.2.1, f1, isb_0]
end WD
