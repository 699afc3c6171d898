/-! ===== tokens of the reference ===== -/
def pkW (X : Tx) (st : Nat) : Nat → Nat
  | 0 => 0
  | k + 1 => 32 * pkW X st k + (tB X (st + k) - 96)
def vlW (X : Tx) (st : Nat) : Nat → Nat
  | 0 => 0
  | k + 1 => 10 * vlW X st k + (tB X (st + k) - 48)
def sgK (k : Nat) : Nat := if k = 0 then 1 else if k = 1 then 2 else if k = 2 then 3 else if k = 3 then 4 else 0
def ME (w : Wd) (X : Tx) : Prop := (w 11 0).1 7 = nI X.1 ∧ ∀ i, i < X.1 → (w 11 0).2.1 5 i = X.2 i
/-- the token that the reference looks at -/
def MT (w : Wd) (X : Tx) (t : Tt) : Prop := (w 11 0).1 9 = nI (sgK t.1) ∧ (w 11 0).1 10 = nI t.2.1 ∧ (t.1 ≠ 4 → (w 11 0).1 8 = nI t.2.2) ∧ (t.1 = 1 → (w 11 0).2.2.2 14 = lN (pkW X t.2.1 (t.2.2 - t.2.1))) ∧ (t.1 = 2 → (w 11 0).1 11 = nI (vlW X t.2.1 (t.2.2 - t.2.1)))
/-- only the token looked at changes -/
def SG (w w2 : Wd) : Prop := (∀ c i, ¬ (c = 11 ∧ i = 0) → w2 c i = w c i) ∧ (w2 11 0).2.1 = (w 11 0).2.1 ∧ (w2 11 0).2.2.1 = (w 11 0).2.2.1 ∧ ∀ k, k ≠ 8 → k ≠ 9 → k ≠ 10 → k ≠ 11 → (w2 11 0).1 k = (w 11 0).1 k
theorem SG.rf {w : Wd} : SG w w := ⟨fun _ _ _ => rfl, rfl, rfl, fun _ _ _ _ _ => rfl⟩
theorem SG.tr {w1 w2 w3 : Wd} (h : SG w1 w2) (h2 : SG w2 w3) : SG w1 w3 := ⟨fun c i z => (h2.1 c i z).trans (h.1 c i z), h2.2.1.trans h.2.1, h2.2.2.1.trans h.2.2.1, fun k a b c d => (h2.2.2.2 k a b c d).trans (h.2.2.2 k a b c d)⟩
theorem SG.i {w : Wd} {k : Nat} {v : Int32} (h : k = 8 ∨ k = 9 ∨ k = 10 ∨ k = 11) : SG w (sI w 11 0 k v) := ⟨fun c i z => sO_ne z, by rw [sI_2], by rw [sI_2], fun m a b c d => sI_n (by omega)⟩
section SJ
variable {w : Wd}
theorem sJ_1 {c j k : Nat} {v : Int64} : (sJ w c j k v c j).1 = (w c j).1 := by unfold sJ; rw [sO_at]; rfl
theorem sJ_r {c j k : Nat} {v : Int64} : (sJ w c j k v c j).2.1 = (w c j).2.1 := by unfold sJ; rw [sO_at]; rfl
theorem sJ_p {c j k : Nat} {v : Int64} : (sJ w c j k v c j).2.2.1 = (w c j).2.2.1 := by unfold sJ; rw [sO_at]; rfl
theorem sJ_a {c j k : Nat} {v : Int64} : (sJ w c j k v c j).2.2.2 k = v := by unfold sJ; rw [sO_at]; exact va_up_self _ _ _
end SJ
theorem SG.j {w : Wd} {v : Int64} : SG w (sJ w 11 0 14 v) := ⟨fun c i z => sO_ne z, sJ_r, sJ_p, fun m _ _ _ _ => by rw [sJ_1]⟩
theorem ME.sg {w w2 : Wd} {X : Tx} (h : ME w X) (hs : SG w w2) : ME w2 X := ⟨by rw [hs.2.2.2 7 (by decide) (by decide) (by decide) (by decide)]; exact h.1, by rw [hs.2.1]; exact h.2⟩
theorem l_32 : (32 : Int64) = lN 32 := id rfl
section MTOK
variable {w : Wd} {X : Tx} {nd : Nat}
theorem m_byteAt (hX : TxO X) (hE : ME w X) {p : Nat} (hp : p < X.1) : fX11_byteAt nd w (nI p) = some (nI (tB X p), w) := by
  have h7 := hX.1
  unfold fX11_byteAt
  simp (disch := omega) only [↓mo_1, ↓mo_2, ad_m1, ite_m1_lt, ite_m2_lt, ite_le_m1, ite_eq_m1, ite_eq_m2, ite_m1_m1, ite_m2_m2, ite_T, ite_F, ite_nz, ite_zz, ite_m1_le, ite_m1_eq, oi_none, oi_some, ob_some, lw_def, ck_true, ckp_su, ite_lt_t, ite_lt_f, ite_le_t, ite_le_f, ite_eq_t, ite_eq_f, ck_inb, nI_add, sb_nI, mu_nI, nI_clamp, sO_at, sO_sO, Nat.add_sub_cancel, Nat.zero_add, Nat.add_zero, li_0, li_1, li_2, li_3, li_4, li_5, li_6, li_7, li_8, li_9, li_10, li_11, li_12, li_16, li_20, li_24, li_31, li_32, li_48, li_49, li_73, li_74, li_75, li_97, li_98, li_99, li_100, li_101, li_109, li_110, li_255, li_680, li_700, li_9999, li_65536, li_65537, hE.1, hE.2 p hp, by_and]
  rfl
theorem m_byteE (hX : TxO X) (hE : ME w X) : fX11_byteAt nd w (nI X.1) = some (m1, w) := by
  have h7 := hX.1
  unfold fX11_byteAt
  simp (disch := omega) only [↓mo_1, ↓mo_2, ad_m1, ite_m1_lt, ite_m2_lt, ite_le_m1, ite_eq_m1, ite_eq_m2, ite_m1_m1, ite_m2_m2, ite_T, ite_F, ite_nz, ite_zz, ite_m1_le, ite_m1_eq, oi_none, oi_some, ob_some, lw_def, ck_true, ckp_su, ite_lt_t, ite_lt_f, ite_le_t, ite_le_f, ite_eq_t, ite_eq_f, ck_inb, nI_add, sb_nI, mu_nI, nI_clamp, sO_at, sO_sO, Nat.add_sub_cancel, Nat.zero_add, Nat.add_zero, li_0, li_1, li_2, li_3, li_4, li_5, li_6, li_7, li_8, li_9, li_10, li_11, li_12, li_16, li_20, li_24, li_31, li_32, li_48, li_49, li_73, li_74, li_75, li_97, li_98, li_99, li_100, li_101, li_109, li_110, li_255, li_680, li_700, li_9999, li_65536, li_65537, hE.1]
theorem m_let1 {b : Nat} (h : 97 ≤ b ∧ b ≤ 122) : fX11_isLetter nd w (nI b) = some (nI 1, w) := by
  unfold fX11_isLetter
  simp (disch := omega) only [↓mo_1, ↓mo_2, ad_m1, ite_m1_lt, ite_m2_lt, ite_le_m1, ite_eq_m1, ite_eq_m2, ite_m1_m1, ite_m2_m2, ite_T, ite_F, ite_nz, ite_zz, ite_m1_le, ite_m1_eq, oi_none, oi_some, ob_some, lw_def, ck_true, ckp_su, ite_lt_t, ite_lt_f, ite_le_t, ite_le_f, ite_eq_t, ite_eq_f, ck_inb, nI_add, sb_nI, mu_nI, nI_clamp, sO_at, sO_sO, Nat.add_sub_cancel, Nat.zero_add, Nat.add_zero, li_0, li_1, li_2, li_3, li_4, li_5, li_6, li_7, li_8, li_9, li_10, li_11, li_12, li_16, li_20, li_24, li_31, li_32, li_48, li_49, li_73, li_74, li_75, li_97, li_98, li_99, li_100, li_101, li_109, li_110, li_255, li_680, li_700, li_9999, li_65536, li_65537, li_122]
theorem m_let0 {b : Nat} (hb : b < 256) (h : ¬ (97 ≤ b ∧ b ≤ 122)) : fX11_isLetter nd w (nI b) = some (nI 0, w) := by
  unfold fX11_isLetter
  by_cases c : b < 97
  · simp (disch := omega) only [↓mo_1, ↓mo_2, ad_m1, ite_m1_lt, ite_m2_lt, ite_le_m1, ite_eq_m1, ite_eq_m2, ite_m1_m1, ite_m2_m2, ite_T, ite_F, ite_nz, ite_zz, ite_m1_le, ite_m1_eq, oi_none, oi_some, ob_some, lw_def, ck_true, ckp_su, ite_lt_t, ite_lt_f, ite_le_t, ite_le_f, ite_eq_t, ite_eq_f, ck_inb, nI_add, sb_nI, mu_nI, nI_clamp, sO_at, sO_sO, Nat.add_sub_cancel, Nat.zero_add, Nat.add_zero, li_0, li_1, li_2, li_3, li_4, li_5, li_6, li_7, li_8, li_9, li_10, li_11, li_12, li_16, li_20, li_24, li_31, li_32, li_48, li_49, li_73, li_74, li_75, li_97, li_98, li_99, li_100, li_101, li_109, li_110, li_255, li_680, li_700, li_9999, li_65536, li_65537, li_122]
  · simp (disch := omega) only [↓mo_1, ↓mo_2, ad_m1, ite_m1_lt, ite_m2_lt, ite_le_m1, ite_eq_m1, ite_eq_m2, ite_m1_m1, ite_m2_m2, ite_T, ite_F, ite_nz, ite_zz, ite_m1_le, ite_m1_eq, oi_none, oi_some, ob_some, lw_def, ck_true, ckp_su, ite_lt_t, ite_lt_f, ite_le_t, ite_le_f, ite_eq_t, ite_eq_f, ck_inb, nI_add, sb_nI, mu_nI, nI_clamp, sO_at, sO_sO, Nat.add_sub_cancel, Nat.zero_add, Nat.add_zero, li_0, li_1, li_2, li_3, li_4, li_5, li_6, li_7, li_8, li_9, li_10, li_11, li_12, li_16, li_20, li_24, li_31, li_32, li_48, li_49, li_73, li_74, li_75, li_97, li_98, li_99, li_100, li_101, li_109, li_110, li_255, li_680, li_700, li_9999, li_65536, li_65537, li_122]
theorem m_letm : fX11_isLetter nd w m1 = some (nI 0, w) := by
  unfold fX11_isLetter
  simp (disch := omega) only [↓mo_1, ↓mo_2, ad_m1, ite_m1_lt, ite_m2_lt, ite_le_m1, ite_eq_m1, ite_eq_m2, ite_m1_m1, ite_m2_m2, ite_T, ite_F, ite_nz, ite_zz, ite_m1_le, ite_m1_eq, oi_none, oi_some, ob_some, lw_def, ck_true, ckp_su, ite_lt_t, ite_lt_f, ite_le_t, ite_le_f, ite_eq_t, ite_eq_f, ck_inb, nI_add, sb_nI, mu_nI, nI_clamp, sO_at, sO_sO, Nat.add_sub_cancel, Nat.zero_add, Nat.add_zero, li_0, li_1, li_2, li_3, li_4, li_5, li_6, li_7, li_8, li_9, li_10, li_11, li_12, li_16, li_20, li_24, li_31, li_32, li_48, li_49, li_73, li_74, li_75, li_97, li_98, li_99, li_100, li_101, li_109, li_110, li_255, li_680, li_700, li_9999, li_65536, li_65537, li_122]
theorem m_dig1 {b : Nat} (h : 48 ≤ b ∧ b ≤ 57) : fX11_isDigit nd w (nI b) = some (nI 1, w) := by
  unfold fX11_isDigit
  simp (disch := omega) only [↓mo_1, ↓mo_2, ad_m1, ite_m1_lt, ite_m2_lt, ite_le_m1, ite_eq_m1, ite_eq_m2, ite_m1_m1, ite_m2_m2, ite_T, ite_F, ite_nz, ite_zz, ite_m1_le, ite_m1_eq, oi_none, oi_some, ob_some, lw_def, ck_true, ckp_su, ite_lt_t, ite_lt_f, ite_le_t, ite_le_f, ite_eq_t, ite_eq_f, ck_inb, nI_add, sb_nI, mu_nI, nI_clamp, sO_at, sO_sO, Nat.add_sub_cancel, Nat.zero_add, Nat.add_zero, li_0, li_1, li_2, li_3, li_4, li_5, li_6, li_7, li_8, li_9, li_10, li_11, li_12, li_16, li_20, li_24, li_31, li_32, li_48, li_49, li_73, li_74, li_75, li_97, li_98, li_99, li_100, li_101, li_109, li_110, li_255, li_680, li_700, li_9999, li_65536, li_65537, li_57]
theorem m_dig0 {b : Nat} (hb : b < 256) (h : ¬ (48 ≤ b ∧ b ≤ 57)) : fX11_isDigit nd w (nI b) = some (nI 0, w) := by
  unfold fX11_isDigit
  by_cases c : b < 48
  · simp (disch := omega) only [↓mo_1, ↓mo_2, ad_m1, ite_m1_lt, ite_m2_lt, ite_le_m1, ite_eq_m1, ite_eq_m2, ite_m1_m1, ite_m2_m2, ite_T, ite_F, ite_nz, ite_zz, ite_m1_le, ite_m1_eq, oi_none, oi_some, ob_some, lw_def, ck_true, ckp_su, ite_lt_t, ite_lt_f, ite_le_t, ite_le_f, ite_eq_t, ite_eq_f, ck_inb, nI_add, sb_nI, mu_nI, nI_clamp, sO_at, sO_sO, Nat.add_sub_cancel, Nat.zero_add, Nat.add_zero, li_0, li_1, li_2, li_3, li_4, li_5, li_6, li_7, li_8, li_9, li_10, li_11, li_12, li_16, li_20, li_24, li_31, li_32, li_48, li_49, li_73, li_74, li_75, li_97, li_98, li_99, li_100, li_101, li_109, li_110, li_255, li_680, li_700, li_9999, li_65536, li_65537, li_57]
  · simp (disch := omega) only [↓mo_1, ↓mo_2, ad_m1, ite_m1_lt, ite_m2_lt, ite_le_m1, ite_eq_m1, ite_eq_m2, ite_m1_m1, ite_m2_m2, ite_T, ite_F, ite_nz, ite_zz, ite_m1_le, ite_m1_eq, oi_none, oi_some, ob_some, lw_def, ck_true, ckp_su, ite_lt_t, ite_lt_f, ite_le_t, ite_le_f, ite_eq_t, ite_eq_f, ck_inb, nI_add, sb_nI, mu_nI, nI_clamp, sO_at, sO_sO, Nat.add_sub_cancel, Nat.zero_add, Nat.add_zero, li_0, li_1, li_2, li_3, li_4, li_5, li_6, li_7, li_8, li_9, li_10, li_11, li_12, li_16, li_20, li_24, li_31, li_32, li_48, li_49, li_73, li_74, li_75, li_97, li_98, li_99, li_100, li_101, li_109, li_110, li_255, li_680, li_700, li_9999, li_65536, li_65537, li_57]
theorem m_digm : fX11_isDigit nd w m1 = some (nI 0, w) := by
  unfold fX11_isDigit
  simp (disch := omega) only [↓mo_1, ↓mo_2, ad_m1, ite_m1_lt, ite_m2_lt, ite_le_m1, ite_eq_m1, ite_eq_m2, ite_m1_m1, ite_m2_m2, ite_T, ite_F, ite_nz, ite_zz, ite_m1_le, ite_m1_eq, oi_none, oi_some, ob_some, lw_def, ck_true, ckp_su, ite_lt_t, ite_lt_f, ite_le_t, ite_le_f, ite_eq_t, ite_eq_f, ck_inb, nI_add, sb_nI, mu_nI, nI_clamp, sO_at, sO_sO, Nat.add_sub_cancel, Nat.zero_add, Nat.add_zero, li_0, li_1, li_2, li_3, li_4, li_5, li_6, li_7, li_8, li_9, li_10, li_11, li_12, li_16, li_20, li_24, li_31, li_32, li_48, li_49, li_73, li_74, li_75, li_97, li_98, li_99, li_100, li_101, li_109, li_110, li_255, li_680, li_700, li_9999, li_65536, li_65537, li_57]
theorem pw_lt {st : Nat} : ∀ k, k ≤ 8 → (∀ i, i < k → 97 ≤ tB X (st + i) ∧ tB X (st + i) ≤ 122) → pkW X st k < 32 ^ k
  | 0, _, _ => Nat.zero_lt_one
  | k + 1, hk, h => by
    have ih := pw_lt (st := st) k (by omega) (fun i hi => h i (by omega))
    have hb := h k (by omega)
    show 32 * pkW X st k + (tB X (st + k) - 96) < 32 ^ (k + 1)
    rw [Nat.pow_succ]
    omega
theorem m_84 (hX : TxO X) {st : Nat} (hst : st ≤ X.1) : ∀ r n, st + n + r = rn X 97 122 st → ∀ (m : Nat) (w : Wd), r < m → ME w X → (w 11 0).1 8 = nI (st + n) → (w 11 0).2.2.2 14 = lN (pkW X st (min n 8)) → ∃ w2 : Wd, fX11_goesOn_84 nd m w (nI n) = some ((), w2) ∧ SG w w2 ∧ (w2 11 0).1 8 = nI (rn X 97 122 st) ∧ (w2 11 0).1 10 = (w 11 0).1 10 ∧ (w2 11 0).1 9 = (if rn X 97 122 st - st ≤ 8 then nI 2 else (w 11 0).1 9) ∧ (w2 11 0).2.2.2 14 = lN (pkW X st (min (rn X 97 122 st - st) 8)) := by
  have h7 := hX.1
  obtain ⟨d1, d2, d3, d4⟩ := rn_b (X := X) (lo := 97) (hi := 122) (X.1 - st) st (by omega)
  intro r
  induction r with
  | zero =>
    intro n hn m w hm hE h8 h14
    obtain ⟨m, rfl⟩ : ∃ z, m = z + 1 := ⟨m - 1, by omega⟩
    have e : st + n = rn X 97 122 st := by omega
    have en : rn X 97 122 st - st = n := by omega
    rw [en]
    -- the byte there is no letter
    have hno : ∃ v, fX11_byteAt nd w (nI (st + n)) = some (v, w) ∧ fX11_isLetter nd w v = some (nI 0, w) := by
      by_cases c : st + n < X.1
      · exact ⟨_, m_byteAt hX hE c, m_let0 (by_lt _) (by rw [e]; exact d4 (by omega))⟩
      · have : st + n = X.1 := by omega
        rw [this]
        exact ⟨_, m_byteE hX hE, m_letm⟩
    obtain ⟨v, b1, b2⟩ := hno
    rw [fX11_goesOn_84.eq_2]
    by_cases c : n ≤ 8
    · rw [if_pos c]
      refine ⟨sI w 11 0 9 (nI 2), ?_, SG.i (by omega), by rw [sI_n (by decide), h8, e], sI_n (by decide), sI_i, by rw [sI_2]; exact h14⟩
      simp (disch := omega) only [↓mo_1, ↓mo_2, ad_m1, ite_m1_lt, ite_m2_lt, ite_le_m1, ite_eq_m1, ite_eq_m2, ite_m1_m1, ite_m2_m2, ite_T, ite_F, ite_nz, ite_zz, ite_m1_le, ite_m1_eq, oi_none, oi_some, ob_some, lw_def, ck_true, ckp_su, ite_lt_t, ite_lt_f, ite_le_t, ite_le_f, ite_eq_t, ite_eq_f, ck_inb, nI_add, sb_nI, mu_nI, nI_clamp, sO_at, sO_sO, Nat.add_sub_cancel, Nat.zero_add, Nat.add_zero, li_0, li_1, li_2, li_3, li_4, li_5, li_6, li_7, li_8, li_9, li_10, li_11, li_12, li_16, li_20, li_24, li_31, li_32, li_48, li_49, li_73, li_74, li_75, li_97, li_98, li_99, li_100, li_101, li_109, li_110, li_255, li_680, li_700, li_9999, li_65536, li_65537, h8, b1, b2]
    · rw [if_neg c]
      refine ⟨w, ?_, SG.rf, by rw [h8, e], rfl, rfl, h14⟩
      simp (disch := omega) only [↓mo_1, ↓mo_2, ad_m1, ite_m1_lt, ite_m2_lt, ite_le_m1, ite_eq_m1, ite_eq_m2, ite_m1_m1, ite_m2_m2, ite_T, ite_F, ite_nz, ite_zz, ite_m1_le, ite_m1_eq, oi_none, oi_some, ob_some, lw_def, ck_true, ckp_su, ite_lt_t, ite_lt_f, ite_le_t, ite_le_f, ite_eq_t, ite_eq_f, ck_inb, nI_add, sb_nI, mu_nI, nI_clamp, sO_at, sO_sO, Nat.add_sub_cancel, Nat.zero_add, Nat.add_zero, li_0, li_1, li_2, li_3, li_4, li_5, li_6, li_7, li_8, li_9, li_10, li_11, li_12, li_16, li_20, li_24, li_31, li_32, li_48, li_49, li_73, li_74, li_75, li_97, li_98, li_99, li_100, li_101, li_109, li_110, li_255, li_680, li_700, li_9999, li_65536, li_65537, h8, b1, b2]
  | succ r ih =>
    intro n hn m w hm hE h8 h14
    obtain ⟨m, rfl⟩ : ∃ z, m = z + 1 := ⟨m - 1, by omega⟩
    have hb := d3 (st + n) (by omega) (by omega)
    have b1 := m_byteAt (nd := nd) hX hE (show st + n < X.1 by omega)
    rw [fX11_goesOn_84.eq_2]
    unfold fX11_goesOn_131
    by_cases c : n < 8
    · have e14 : lN 32 * lN (pkW X st n) + lN (tB X (st + n) - 96) = lN (pkW X st (n + 1)) := by
        rw [lN_mul, lN_add]; rfl
      have e15 : (nI (tB X (st + n)) - nI 97 + nI 1).toInt64 = lN (tB X (st + n) - 96) := by
        rw [pk_sub (by omega), nI_add, nI_l (by omega)]
        exact congrArg lN (by omega)
      rw [show min n 8 = n by omega] at h14
      have k8 : ∀ v, (sJ w 11 0 14 v 11 0).1 8 = nI (st + n) := fun v => by rw [sJ_1]; exact h8
      obtain ⟨w2, e1, e2, e3, e4, e5, e6⟩ := ih (n + 1) (by omega) m (sI (sJ w 11 0 14 (lN (pkW X st (n + 1)))) 11 0 8 (nI (st + n + 1))) (by omega) (hE.sg (SG.j.tr (SG.i (by omega)))) sI_i (by rw [sI_2, sJ_a, show min (n + 1) 8 = n + 1 by omega])
      refine ⟨w2, ?_, SG.j.tr ((SG.i (by omega)).tr e2), e3, by rw [e4, sI_n (by decide), sJ_1], by rw [e5, sI_n (by decide), sJ_1], e6⟩
      simp (disch := omega) only [↓mo_1, ↓mo_2, ad_m1, ite_m1_lt, ite_m2_lt, ite_le_m1, ite_eq_m1, ite_eq_m2, ite_m1_m1, ite_m2_m2, ite_T, ite_F, ite_nz, ite_zz, ite_m1_le, ite_m1_eq, oi_none, oi_some, ob_some, lw_def, ck_true, ckp_su, ite_lt_t, ite_lt_f, ite_le_t, ite_le_f, ite_eq_t, ite_eq_f, ck_inb, nI_add, nI_clamp, sO_at, sO_sO, Nat.add_sub_cancel, Nat.zero_add, Nat.add_zero, li_0, li_1, li_2, li_3, li_4, li_5, li_6, li_7, li_8, li_9, li_10, li_11, li_12, li_16, li_20, li_24, li_31, li_32, li_48, li_49, li_73, li_74, li_75, li_97, li_98, li_99, li_100, li_101, li_109, li_110, li_255, li_680, li_700, li_9999, li_65536, li_65537, h8, b1, m_let1 hb, h14, l_32, e15, e14, k8]
      exact e1
    · obtain ⟨w2, e1, e2, e3, e4, e5, e6⟩ := ih (n + 1) (by omega) m (sI w 11 0 8 (nI (st + n + 1))) (by omega) (hE.sg (SG.i (by omega))) sI_i (by rw [sI_2, h14, show min (n + 1) 8 = min n 8 by omega])
      refine ⟨w2, ?_, (SG.i (by omega)).tr e2, e3, by rw [e4, sI_n (by decide)], by rw [e5, sI_n (by decide)], e6⟩
      simp (disch := omega) only [↓mo_1, ↓mo_2, ad_m1, ite_m1_lt, ite_m2_lt, ite_le_m1, ite_eq_m1, ite_eq_m2, ite_m1_m1, ite_m2_m2, ite_T, ite_F, ite_nz, ite_zz, ite_m1_le, ite_m1_eq, oi_none, oi_some, ob_some, lw_def, ck_true, ckp_su, ite_lt_t, ite_lt_f, ite_le_t, ite_le_f, ite_eq_t, ite_eq_f, ck_inb, nI_add, sb_nI, mu_nI, nI_clamp, sO_at, sO_sO, Nat.add_sub_cancel, Nat.zero_add, Nat.add_zero, li_0, li_1, li_2, li_3, li_4, li_5, li_6, li_7, li_8, li_9, li_10, li_11, li_12, li_16, li_20, li_24, li_31, li_32, li_48, li_49, li_73, li_74, li_75, li_97, li_98, li_99, li_100, li_101, li_109, li_110, li_255, li_680, li_700, li_9999, li_65536, li_65537, h8, b1, m_let1 hb]
      exact e1
theorem vl_lt {st : Nat} : ∀ k, k ≤ 4 → (∀ i, i < k → 48 ≤ tB X (st + i) ∧ tB X (st + i) ≤ 57) → vlW X st k < 10 ^ k
  | 0, _, _ => Nat.zero_lt_one
  | k + 1, hk, h => by
    have ih := vl_lt (st := st) k (by omega) (fun i hi => h i (by omega))
    have hb := h k (by omega)
    show 10 * vlW X st k + (tB X (st + k) - 48) < 10 ^ (k + 1)
    rw [Nat.pow_succ]
    omega
theorem m_173 (hX : TxO X) {st : Nat} (hst : st ≤ X.1) : ∀ r n, st + n + r = rn X 48 57 st → ∀ (m : Nat) (w : Wd), r < m → ME w X → (w 11 0).1 8 = nI (st + n) → (w 11 0).1 11 = nI (vlW X st (min n 4)) → ∃ w2 : Wd, fX11_goesOn_173 nd m w (nI n) = some ((), w2) ∧ SG w w2 ∧ (w2 11 0).1 8 = nI (rn X 48 57 st) ∧ (w2 11 0).1 10 = (w 11 0).1 10 ∧ (w2 11 0).1 9 = (if rn X 48 57 st - st ≤ 4 then nI 3 else (w 11 0).1 9) ∧ (w2 11 0).1 11 = nI (vlW X st (min (rn X 48 57 st - st) 4)) := by
  have h7 := hX.1
  obtain ⟨d1, d2, d3, d4⟩ := rn_b (X := X) (lo := 48) (hi := 57) (X.1 - st) st (by omega)
  intro r
  induction r with
  | zero =>
    intro n hn m w hm hE h8 h14
    obtain ⟨m, rfl⟩ : ∃ z, m = z + 1 := ⟨m - 1, by omega⟩
    have e : st + n = rn X 48 57 st := by omega
    have en : rn X 48 57 st - st = n := by omega
    rw [en]
    have hno : ∃ v, fX11_byteAt nd w (nI (st + n)) = some (v, w) ∧ fX11_isDigit nd w v = some (nI 0, w) := by
      by_cases c : st + n < X.1
      · exact ⟨_, m_byteAt hX hE c, m_dig0 (by_lt _) (by rw [e]; exact d4 (by omega))⟩
      · have : st + n = X.1 := by omega
        rw [this]
        exact ⟨_, m_byteE hX hE, m_digm⟩
    obtain ⟨v, b1, b2⟩ := hno
    rw [fX11_goesOn_173.eq_2]
    by_cases c : n ≤ 4
    · rw [if_pos c]
      refine ⟨sI w 11 0 9 (nI 3), ?_, SG.i (by omega), by rw [sI_n (by decide), h8, e], sI_n (by decide), sI_i, by rw [sI_n (by decide)]; exact h14⟩
      simp (disch := omega) only [↓mo_1, ↓mo_2, ad_m1, ite_m1_lt, ite_m2_lt, ite_le_m1, ite_eq_m1, ite_eq_m2, ite_m1_m1, ite_m2_m2, ite_T, ite_F, ite_nz, ite_zz, ite_m1_le, ite_m1_eq, oi_none, oi_some, ob_some, lw_def, ck_true, ckp_su, ite_lt_t, ite_lt_f, ite_le_t, ite_le_f, ite_eq_t, ite_eq_f, ck_inb, nI_add, sb_nI, mu_nI, nI_clamp, sO_at, sO_sO, Nat.add_sub_cancel, Nat.zero_add, Nat.add_zero, li_0, li_1, li_2, li_3, li_4, li_5, li_6, li_7, li_8, li_9, li_10, li_11, li_12, li_16, li_20, li_24, li_31, li_32, li_48, li_49, li_73, li_74, li_75, li_97, li_98, li_99, li_100, li_101, li_109, li_110, li_255, li_680, li_700, li_9999, li_65536, li_65537, h8, b1, b2]
    · rw [if_neg c]
      refine ⟨w, ?_, SG.rf, by rw [h8, e], rfl, rfl, h14⟩
      simp (disch := omega) only [↓mo_1, ↓mo_2, ad_m1, ite_m1_lt, ite_m2_lt, ite_le_m1, ite_eq_m1, ite_eq_m2, ite_m1_m1, ite_m2_m2, ite_T, ite_F, ite_nz, ite_zz, ite_m1_le, ite_m1_eq, oi_none, oi_some, ob_some, lw_def, ck_true, ckp_su, ite_lt_t, ite_lt_f, ite_le_t, ite_le_f, ite_eq_t, ite_eq_f, ck_inb, nI_add, sb_nI, mu_nI, nI_clamp, sO_at, sO_sO, Nat.add_sub_cancel, Nat.zero_add, Nat.add_zero, li_0, li_1, li_2, li_3, li_4, li_5, li_6, li_7, li_8, li_9, li_10, li_11, li_12, li_16, li_20, li_24, li_31, li_32, li_48, li_49, li_73, li_74, li_75, li_97, li_98, li_99, li_100, li_101, li_109, li_110, li_255, li_680, li_700, li_9999, li_65536, li_65537, h8, b1, b2]
  | succ r ih =>
    intro n hn m w hm hE h8 h14
    obtain ⟨m, rfl⟩ : ∃ z, m = z + 1 := ⟨m - 1, by omega⟩
    have hb := d3 (st + n) (by omega) (by omega)
    have b1 := m_byteAt (nd := nd) hX hE (show st + n < X.1 by omega)
    rw [fX11_goesOn_173.eq_2]
    unfold fX11_goesOn_215
    by_cases c : n < 4
    · have e14 : nI 10 * nI (vlW X st n) + nI (tB X (st + n)) - nI 48 = nI (vlW X st (n + 1)) := by
        rw [pk_mul, nI_add, pk_sub (by omega)]
        exact congrArg nI (by show _ = 10 * vlW X st n + (tB X (st + n) - 48); omega)
      rw [show min n 4 = n by omega] at h14
      have k8 : ∀ v, (sI w 11 0 11 v 11 0).1 8 = nI (st + n) := fun v => by rw [sI_n (by decide)]; exact h8
      obtain ⟨w2, e1, e2, e3, e4, e5, e6⟩ := ih (n + 1) (by omega) m (sI (sI w 11 0 11 (nI (vlW X st (n + 1)))) 11 0 8 (nI (st + n + 1))) (by omega) (hE.sg ((SG.i (by omega)).tr (SG.i (by omega)))) sI_i (by rw [sI_n (by decide), sI_i, show min (n + 1) 4 = n + 1 by omega])
      refine ⟨w2, ?_, (SG.i (by omega)).tr ((SG.i (by omega)).tr e2), e3, by rw [e4, sI_n (by decide), sI_n (by decide)], by rw [e5, sI_n (by decide), sI_n (by decide)], e6⟩
      simp (disch := omega) only [↓mo_1, ↓mo_2, ad_m1, ite_m1_lt, ite_m2_lt, ite_le_m1, ite_eq_m1, ite_eq_m2, ite_m1_m1, ite_m2_m2, ite_T, ite_F, ite_nz, ite_zz, ite_m1_le, ite_m1_eq, oi_none, oi_some, ob_some, lw_def, ck_true, ckp_su, ite_lt_t, ite_lt_f, ite_le_t, ite_le_f, ite_eq_t, ite_eq_f, ck_inb, nI_add, nI_clamp, sO_at, sO_sO, Nat.add_sub_cancel, Nat.zero_add, Nat.add_zero, li_0, li_1, li_2, li_3, li_4, li_5, li_6, li_7, li_8, li_9, li_10, li_11, li_12, li_16, li_20, li_24, li_31, li_32, li_48, li_49, li_73, li_74, li_75, li_97, li_98, li_99, li_100, li_101, li_109, li_110, li_255, li_680, li_700, li_9999, li_65536, li_65537, h8, b1, m_dig1 hb, h14]
      rw [e14]
      simp (disch := omega) only [↓mo_1, ↓mo_2, ad_m1, ite_m1_lt, ite_m2_lt, ite_le_m1, ite_eq_m1, ite_eq_m2, ite_m1_m1, ite_m2_m2, ite_T, ite_F, ite_nz, ite_zz, ite_m1_le, ite_m1_eq, oi_none, oi_some, ob_some, lw_def, ck_true, ckp_su, ite_lt_t, ite_lt_f, ite_le_t, ite_le_f, ite_eq_t, ite_eq_f, ck_inb, nI_add, sb_nI, mu_nI, nI_clamp, sO_at, sO_sO, Nat.add_sub_cancel, Nat.zero_add, Nat.add_zero, li_0, li_1, li_2, li_3, li_4, li_5, li_6, li_7, li_8, li_9, li_10, li_11, li_12, li_16, li_20, li_24, li_31, li_32, li_48, li_49, li_73, li_74, li_75, li_97, li_98, li_99, li_100, li_101, li_109, li_110, li_255, li_680, li_700, li_9999, li_65536, li_65537, k8]
      exact e1
    · obtain ⟨w2, e1, e2, e3, e4, e5, e6⟩ := ih (n + 1) (by omega) m (sI w 11 0 8 (nI (st + n + 1))) (by omega) (hE.sg (SG.i (by omega))) sI_i (by rw [sI_n (by decide), h14, show min (n + 1) 4 = min n 4 by omega])
      refine ⟨w2, ?_, (SG.i (by omega)).tr e2, e3, by rw [e4, sI_n (by decide)], by rw [e5, sI_n (by decide)], e6⟩
      simp (disch := omega) only [↓mo_1, ↓mo_2, ad_m1, ite_m1_lt, ite_m2_lt, ite_le_m1, ite_eq_m1, ite_eq_m2, ite_m1_m1, ite_m2_m2, ite_T, ite_F, ite_nz, ite_zz, ite_m1_le, ite_m1_eq, oi_none, oi_some, ob_some, lw_def, ck_true, ckp_su, ite_lt_t, ite_lt_f, ite_le_t, ite_le_f, ite_eq_t, ite_eq_f, ck_inb, nI_add, sb_nI, mu_nI, nI_clamp, sO_at, sO_sO, Nat.add_sub_cancel, Nat.zero_add, Nat.add_zero, li_0, li_1, li_2, li_3, li_4, li_5, li_6, li_7, li_8, li_9, li_10, li_11, li_12, li_16, li_20, li_24, li_31, li_32, li_48, li_49, li_73, li_74, li_75, li_97, li_98, li_99, li_100, li_101, li_109, li_110, li_255, li_680, li_700, li_9999, li_65536, li_65537, h8, b1, m_dig1 hb]
      exact e1
theorem m_9 (hX : TxO X) : ∀ r p, p + r = X.1 → ∀ (m : Nat) (w : Wd), r < m → ME w X → (w 11 0).1 8 = nI p → ∃ (w2 : Wd) (m2 : Nat), fX11_goesOn_9 nd m w = fX11_goesOn_9 nd (m2 + 1) w2 ∧ SG w w2 ∧ (w2 11 0).1 8 = nI (rn X 32 32 p) := by
  have h7 := hX.1
  intro r
  induction r with
  | zero =>
    intro p hp m w hm hE h8
    obtain ⟨m, rfl⟩ : ∃ z, m = z + 1 := ⟨m - 1, by omega⟩
    exact ⟨w, m, rfl, SG.rf, by rw [rn_end (by omega)]; exact h8⟩
  | succ r ih =>
    intro p hp m w hm hE h8
    obtain ⟨m, rfl⟩ : ∃ z, m = z + 1 := ⟨m - 1, by omega⟩
    by_cases c : 32 ≤ tB X p ∧ tB X p ≤ 32
    · obtain ⟨w2, m2, e1, e2, e3⟩ := ih (p + 1) (by omega) m (sI w 11 0 8 (nI (p + 1))) (by omega) (hE.sg (SG.i (by omega))) sI_i
      refine ⟨w2, m2, ?_, (SG.i (by omega)).tr e2, by rw [rn_in (by omega) c]; exact e3⟩
      rw [← e1, fX11_goesOn_9.eq_2]
      have c' : tB X p = 32 := by omega
      simp (disch := omega) only [↓mo_1, ↓mo_2, ad_m1, ite_m1_lt, ite_m2_lt, ite_le_m1, ite_eq_m1, ite_eq_m2, ite_m1_m1, ite_m2_m2, ite_T, ite_F, ite_nz, ite_zz, ite_m1_le, ite_m1_eq, oi_none, oi_some, ob_some, lw_def, ck_true, ckp_su, ite_lt_t, ite_lt_f, ite_le_t, ite_le_f, ite_eq_t, ite_eq_f, ck_inb, nI_add, sb_nI, mu_nI, nI_clamp, sO_at, sO_sO, Nat.add_sub_cancel, Nat.zero_add, Nat.add_zero, li_0, li_1, li_2, li_3, li_4, li_5, li_6, li_7, li_8, li_9, li_10, li_11, li_12, li_16, li_20, li_24, li_31, li_32, li_48, li_49, li_73, li_74, li_75, li_97, li_98, li_99, li_100, li_101, li_109, li_110, li_255, li_680, li_700, li_9999, li_65536, li_65537, h8, m_byteAt hX hE (show p < X.1 by omega), c']
    · exact ⟨w, m, rfl, SG.rf, by rw [rn_out (by omega) c]; exact h8⟩
theorem m_goesOn (hX : TxO X) (hE : ME w X) {p k : Nat} (hp : p ≤ X.1) (h8 : (w 11 0).1 8 = nI p) (h9 : (w 11 0).1 9 = nI k) (hk : k < 5) : ∃ w2 : Wd, fX11_goesOn nd w = some ((), w2) ∧ SG w w2 ∧ MT w2 X (tk X p) := by
  have h7 := hX.1
  obtain ⟨a1, a2, a3, a4⟩ := rn_b (X := X) (lo := 32) (hi := 32) (X.1 - p) p (by omega)
  obtain ⟨wa, m2, e1, e2, e3⟩ := m_9 (nd := nd) hX (X.1 - p) p (by omega) fuel0 w (by unfold fuel0; omega) hE h8
  have hEa := hE.sg e2
  suffices hs : ∃ w2 : Wd, fX11_goesOn_9 nd (m2 + 1) wa = some ((), w2) ∧ SG wa w2 ∧ MT w2 X (tkS X (rn X 32 32 p)) by
    obtain ⟨w2, f1, f2, f3⟩ := hs
    refine ⟨w2, ?_, e2.tr f2, f3⟩
    unfold fX11_goesOn
    simp (disch := omega) only [↓mo_1, ↓mo_2, ad_m1, ite_m1_lt, ite_m2_lt, ite_le_m1, ite_eq_m1, ite_eq_m2, ite_m1_m1, ite_m2_m2, ite_T, ite_F, ite_nz, ite_zz, ite_m1_le, ite_m1_eq, oi_none, oi_some, ob_some, lw_def, ck_true, ckp_su, ite_lt_t, ite_lt_f, ite_le_t, ite_le_f, ite_eq_t, ite_eq_f, ck_inb, nI_add, sb_nI, mu_nI, nI_clamp, sO_at, sO_sO, Nat.add_sub_cancel, Nat.zero_add, Nat.add_zero, li_0, li_1, li_2, li_3, li_4, li_5, li_6, li_7, li_8, li_9, li_10, li_11, li_12, li_16, li_20, li_24, li_31, li_32, li_48, li_49, li_73, li_74, li_75, li_97, li_98, li_99, li_100, li_101, li_109, li_110, li_255, li_680, li_700, li_9999, li_65536, li_65537, h9]
    rw [e1]
    exact f1
  generalize rn X 32 32 p = st at *
  rw [fX11_goesOn_9.eq_2]
  generalize hwb : sI (sI wa 11 0 10 (nI st)) 11 0 9 (nI 0) = wb
  have sb : SG wa wb := by rw [← hwb]; exact (SG.i (by omega)).tr (SG.i (by omega))
  have hEb := hEa.sg sb
  have b8 : (wb 11 0).1 8 = nI st := by rw [← hwb, sI_n (by decide), sI_n (by decide)]; exact e3
  have b9 : (wb 11 0).1 9 = nI 0 := by rw [← hwb, sI_i]
  have b10 : (wb 11 0).1 10 = nI st := by rw [← hwb, sI_n (by decide), sI_i]
  by_cases c0 : X.1 ≤ st
  · have est : st = X.1 := by omega
    subst est
    rw [tk_0 (Nat.le_refl _)]
    refine ⟨sI wb 11 0 9 (nI 1), ?_, sb.tr (SG.i (by omega)), ⟨sI_i, by rw [sI_n (by decide)]; exact b10, fun _ => by rw [sI_n (by decide)]; exact b8, (fun z => by cases z), (fun z => by cases z)⟩⟩
    simp (disch := omega) only [↓mo_1, ↓mo_2, ad_m1, ite_m1_lt, ite_m2_lt, ite_le_m1, ite_eq_m1, ite_eq_m2, ite_m1_m1, ite_m2_m2, ite_T, ite_F, ite_nz, ite_zz, ite_m1_le, ite_m1_eq, oi_none, oi_some, ob_some, lw_def, ck_true, ckp_su, ite_lt_t, ite_lt_f, ite_le_t, ite_le_f, ite_eq_t, ite_eq_f, ck_inb, nI_add, sb_nI, mu_nI, nI_clamp, sO_at, sO_sO, Nat.add_sub_cancel, Nat.zero_add, Nat.add_zero, li_0, li_1, li_2, li_3, li_4, li_5, li_6, li_7, li_8, li_9, li_10, li_11, li_12, li_16, li_20, li_24, li_31, li_32, li_48, li_49, li_73, li_74, li_75, li_97, li_98, li_99, li_100, li_101, li_109, li_110, li_255, li_680, li_700, li_9999, li_65536, li_65537, e3, m_byteE hX hEa, hwb, b8, m_byteE hX hEb]
  · have hst : st < X.1 := by omega
    have hb2 := by_lt (X.2 st)
    have et : tB X st = byN (X.2 st) := rfl
    have n32 := a4 hst
    have y1 := m_byteAt (nd := nd) hX hEa hst
    have y2 := m_byteAt (nd := nd) hX hEb hst
    by_cases c1 : 97 ≤ tB X st ∧ tB X st ≤ 122
    · rw [tk_1 hst c1]
      obtain ⟨d1, d2, -, -⟩ := rn_b (X := X) (lo := 97) (hi := 122) (X.1 - st) st (by omega)
      obtain ⟨w2, f1, f2, f3, f4, f5, f6⟩ := m_84 (nd := nd) hX (Nat.le_of_lt hst) (rn X 97 122 st - st) 0 (by omega) fuel0 (sJ wb 11 0 14 (lN 0)) (by unfold fuel0; omega) (hEb.sg SG.j) (by rw [sJ_1]; exact b8) (by rw [sJ_a]; rfl)
      refine ⟨w2, ?_, sb.tr (SG.j.tr f2), ?_⟩
      · simp (disch := omega) only [↓mo_1, ↓mo_2, ad_m1, ite_m1_lt, ite_m2_lt, ite_le_m1, ite_eq_m1, ite_eq_m2, ite_m1_m1, ite_m2_m2, ite_T, ite_F, ite_nz, ite_zz, ite_m1_le, ite_m1_eq, oi_none, oi_some, ob_some, lw_def, ck_true, ckp_su, ite_lt_t, ite_lt_f, ite_le_t, ite_le_f, ite_eq_t, ite_eq_f, ck_inb, nI_add, sb_nI, mu_nI, nI_clamp, sO_at, sO_sO, Nat.add_sub_cancel, Nat.zero_add, Nat.add_zero, li_0, li_1, li_2, li_3, li_4, li_5, li_6, li_7, li_8, li_9, li_10, li_11, li_12, li_16, li_20, li_24, li_31, li_32, li_48, li_49, li_73, li_74, li_75, li_97, li_98, li_99, li_100, li_101, li_109, li_110, li_255, li_680, li_700, li_9999, li_65536, li_65537, e3, y1, hwb, b8, y2, m_let1 c1, lN_0]
        exact f1
      · rw [sJ_1] at f4 f5
        by_cases d : rn X 97 122 st - st ≤ 8
        · rw [if_pos d] at f5 ⊢
          exact ⟨f5, by rw [f4]; exact b10, fun _ => f3, fun _ => by rw [f6, show min (rn X 97 122 st - st) 8 = rn X 97 122 st - st by omega], (fun z => by cases z)⟩
        · rw [if_neg d] at f5 ⊢
          exact ⟨by rw [f5]; exact b9, by rw [f4]; exact b10, (fun z => absurd rfl z), (fun z => by cases z), (fun z => by cases z)⟩
    · by_cases c2 : 48 ≤ tB X st ∧ tB X st ≤ 57
      · rw [tk_2 hst c2]
        obtain ⟨d1, d2, -, -⟩ := rn_b (X := X) (lo := 48) (hi := 57) (X.1 - st) st (by omega)
        obtain ⟨w2, f1, f2, f3, f4, f5, f6⟩ := m_173 (nd := nd) hX (Nat.le_of_lt hst) (rn X 48 57 st - st) 0 (by omega) fuel0 (sI wb 11 0 11 (nI 0)) (by unfold fuel0; omega) (hEb.sg (SG.i (by omega))) (by rw [sI_n (by decide)]; exact b8) (by rw [sI_i]; rfl)
        refine ⟨w2, ?_, sb.tr ((SG.i (by omega)).tr f2), ?_⟩
        · simp (disch := omega) only [↓mo_1, ↓mo_2, ad_m1, ite_m1_lt, ite_m2_lt, ite_le_m1, ite_eq_m1, ite_eq_m2, ite_m1_m1, ite_m2_m2, ite_T, ite_F, ite_nz, ite_zz, ite_m1_le, ite_m1_eq, oi_none, oi_some, ob_some, lw_def, ck_true, ckp_su, ite_lt_t, ite_lt_f, ite_le_t, ite_le_f, ite_eq_t, ite_eq_f, ck_inb, nI_add, sb_nI, mu_nI, nI_clamp, sO_at, sO_sO, Nat.add_sub_cancel, Nat.zero_add, Nat.add_zero, li_0, li_1, li_2, li_3, li_4, li_5, li_6, li_7, li_8, li_9, li_10, li_11, li_12, li_16, li_20, li_24, li_31, li_32, li_48, li_49, li_73, li_74, li_75, li_97, li_98, li_99, li_100, li_101, li_109, li_110, li_255, li_680, li_700, li_9999, li_65536, li_65537, e3, y1, hwb, b8, y2, m_let0 (show tB X st < 256 by omega) c1, m_dig1 c2]
          exact f1
        · rw [sI_n (by decide)] at f4 f5
          by_cases d : rn X 48 57 st - st ≤ 4
          · rw [if_pos d] at f5 ⊢
            exact ⟨f5, by rw [f4]; exact b10, fun _ => f3, (fun z => by cases z), fun _ => by rw [f6, show min (rn X 48 57 st - st) 4 = rn X 48 57 st - st by omega]⟩
          · rw [if_neg d] at f5 ⊢
            exact ⟨by rw [f5]; exact b9, by rw [f4]; exact b10, (fun z => absurd rfl z), (fun z => by cases z), (fun z => by cases z)⟩
      · by_cases c3 : tB X st = 59
        · rw [tk_3 hst c3]
          have k8 : ∀ v, (sI wb 11 0 9 v 11 0).1 8 = nI st := fun v => by rw [sI_n (by decide)]; exact b8
          refine ⟨sI (sI wb 11 0 9 (nI 4)) 11 0 8 (nI (st + 1)), ?_, sb.tr ((SG.i (by omega)).tr (SG.i (by omega))), ⟨by rw [sI_n (by decide), sI_i]; rfl, by rw [sI_n (by decide), sI_n (by decide)]; exact b10, fun _ => sI_i, (fun z => by cases z), (fun z => by cases z)⟩⟩
          simp (disch := omega) only [↓mo_1, ↓mo_2, ad_m1, ite_m1_lt, ite_m2_lt, ite_le_m1, ite_eq_m1, ite_eq_m2, ite_m1_m1, ite_m2_m2, ite_T, ite_F, ite_nz, ite_zz, ite_m1_le, ite_m1_eq, oi_none, oi_some, ob_some, lw_def, ck_true, ckp_su, ite_lt_t, ite_lt_f, ite_le_t, ite_le_f, ite_eq_t, ite_eq_f, ck_inb, nI_add, sb_nI, mu_nI, nI_clamp, sO_at, sO_sO, Nat.add_sub_cancel, Nat.zero_add, Nat.add_zero, li_0, li_1, li_2, li_3, li_4, li_5, li_6, li_7, li_8, li_9, li_10, li_11, li_12, li_16, li_20, li_24, li_31, li_32, li_48, li_49, li_73, li_74, li_75, li_97, li_98, li_99, li_100, li_101, li_109, li_110, li_255, li_680, li_700, li_9999, li_65536, li_65537, e3, y1, hwb, b8, y2, m_let0 (show 59 < 256 by omega) (show ¬ (97 ≤ 59 ∧ 59 ≤ 122) by omega), m_dig0 (show 59 < 256 by omega) (show ¬ (48 ≤ 59 ∧ 59 ≤ 57) by omega), c3, li_59, k8]
        · rw [tk_4 hst c3 c1 c2]
          refine ⟨wb, ?_, sb, ⟨b9, b10, (fun z => absurd rfl z), (fun z => by cases z), (fun z => by cases z)⟩⟩
          simp (disch := omega) only [↓mo_1, ↓mo_2, ad_m1, ite_m1_lt, ite_m2_lt, ite_le_m1, ite_eq_m1, ite_eq_m2, ite_m1_m1, ite_m2_m2, ite_T, ite_F, ite_nz, ite_zz, ite_m1_le, ite_m1_eq, oi_none, oi_some, ob_some, lw_def, ck_true, ckp_su, ite_lt_t, ite_lt_f, ite_le_t, ite_le_f, ite_eq_t, ite_eq_f, ck_inb, nI_add, sb_nI, mu_nI, nI_clamp, sO_at, sO_sO, Nat.add_sub_cancel, Nat.zero_add, Nat.add_zero, li_0, li_1, li_2, li_3, li_4, li_5, li_6, li_7, li_8, li_9, li_10, li_11, li_12, li_16, li_20, li_24, li_31, li_32, li_48, li_49, li_73, li_74, li_75, li_97, li_98, li_99, li_100, li_101, li_109, li_110, li_255, li_680, li_700, li_9999, li_65536, li_65537, e3, y1, hwb, b8, y2, m_let0 (show tB X st < 256 by omega) c1, m_dig0 (show tB X st < 256 by omega) c2, li_59]
end MTOK
