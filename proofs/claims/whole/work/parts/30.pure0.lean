/-! ===== the pure layer: numbers, checks, worlds ===== -/
theorem li_0 : (0 : Int32) = nI 0 := id rfl
theorem li_1 : (1 : Int32) = nI 1 := id rfl
theorem li_2 : (2 : Int32) = nI 2 := id rfl
theorem li_3 : (3 : Int32) = nI 3 := id rfl
theorem li_4 : (4 : Int32) = nI 4 := id rfl
theorem li_5 : (5 : Int32) = nI 5 := id rfl
theorem li_6 : (6 : Int32) = nI 6 := id rfl
theorem li_7 : (7 : Int32) = nI 7 := id rfl
theorem li_8 : (8 : Int32) = nI 8 := id rfl
theorem li_9 : (9 : Int32) = nI 9 := id rfl
theorem li_10 : (10 : Int32) = nI 10 := id rfl
theorem li_11 : (11 : Int32) = nI 11 := id rfl
theorem li_12 : (12 : Int32) = nI 12 := id rfl
theorem li_16 : (16 : Int32) = nI 16 := id rfl
theorem li_20 : (20 : Int32) = nI 20 := id rfl
theorem li_24 : (24 : Int32) = nI 24 := id rfl
theorem li_31 : (31 : Int32) = nI 31 := id rfl
theorem li_32 : (32 : Int32) = nI 32 := id rfl
theorem li_48 : (48 : Int32) = nI 48 := id rfl
theorem li_49 : (49 : Int32) = nI 49 := id rfl
theorem li_73 : (73 : Int32) = nI 73 := id rfl
theorem li_74 : (74 : Int32) = nI 74 := id rfl
theorem li_75 : (75 : Int32) = nI 75 := id rfl
theorem li_97 : (97 : Int32) = nI 97 := id rfl
theorem li_98 : (98 : Int32) = nI 98 := id rfl
theorem li_99 : (99 : Int32) = nI 99 := id rfl
theorem li_100 : (100 : Int32) = nI 100 := id rfl
theorem li_101 : (101 : Int32) = nI 101 := id rfl
theorem li_109 : (109 : Int32) = nI 109 := id rfl
theorem li_110 : (110 : Int32) = nI 110 := id rfl
theorem li_255 : (255 : Int32) = nI 255 := id rfl
theorem li_680 : (680 : Int32) = nI 680 := id rfl
theorem li_700 : (700 : Int32) = nI 700 := id rfl
theorem li_9999 : (9999 : Int32) = nI 9999 := id rfl
theorem li_65536 : (65536 : Int32) = nI 65536 := id rfl
theorem li_65537 : (65537 : Int32) = nI 65537 := id rfl
theorem ob_some {α β : Type} {a : α} {w : Wd} {f : α → Wd → Option β} : ob (some (a, w)) f = f a w := id rfl
theorem lw_def {α β : Type} {x : α} {f : α → β} : lw x f = f x := id rfl
theorem ck_true {α : Type} {x : Option α} : ck true x = x := id rfl
theorem ckp_su {α : Type} {j n : Nat} {f : Nat → Option α} (h : j < n) : ckp (j + 1) n f = f j := by simp [ckp, h]
theorem inb_nI {n N : Nat} (h : n < N) (hN : N < 2 ^ 31) : inb (nI n) N = true := by
  unfold inb
  rw [nI_toInt (by omega)]
  simp
  omega
theorem ck_inb {α : Type} {x : Option α} {n N : Nat} (h : n < N) (hN : N < 2 ^ 31) : ck (inb (nI n) N) x = x := by rw [inb_nI h hN]; rfl
theorem ite_lt_t {α : Type} {x y : α} {a b : Nat} {inst : Decidable (nI a < nI b)} (hb : b < 2 ^ 31) (h : a < b) : @ite _ (nI a < nI b) inst x y = x := if_pos (nI_lt h hb)
theorem ite_lt_f {α : Type} {x y : α} {a b : Nat} {inst : Decidable (nI a < nI b)} (ha : a < 2 ^ 31) (h : b ≤ a) : @ite _ (nI a < nI b) inst x y = y := if_neg (nI_nlt h ha)
theorem ite_le_t {α : Type} {x y : α} {a b : Nat} {inst : Decidable (nI a ≤ nI b)} (hb : b < 2 ^ 31) (h : a ≤ b) : @ite _ (nI a ≤ nI b) inst x y = x := if_pos (nI_le h hb)
theorem ite_le_f {α : Type} {x y : α} {a b : Nat} {inst : Decidable (nI a ≤ nI b)} (ha : a < 2 ^ 31) (h : b < a) : @ite _ (nI a ≤ nI b) inst x y = y := if_neg (nI_ge h ha)
theorem ite_eq_t {α : Type} {x y : α} {a b : Nat} {inst : Decidable (nI a = nI b)} (h : a = b) : @ite _ (nI a = nI b) inst x y = x := if_pos (by rw [h])
theorem ite_eq_f {α : Type} {x y : α} {a b : Nat} {inst : Decidable (nI a = nI b)} (ha : a < 2 ^ 31) (hb : b < 2 ^ 31) (h : a ≠ b) : @ite _ (nI a = nI b) inst x y = y := if_neg (fun e => h ((nI_eq ha hb).mp e))
theorem sb_nI {a b : Nat} (h : b ≤ a) : nI a - nI b = nI (a - b) := pk_sub h
theorem mu_nI {a b : Nat} : nI a * nI b = nI (a * b) := pk_mul a b
def m1 : Int32 := -1
def m2 : Int32 := -2
theorem mo_1 : (-1 : Int32) = m1 := id rfl
theorem mo_2 : (-2 : Int32) = m2 := id rfl
theorem ad_m1 (x : Int32) : x + m1 = x - nI 1 := by
  show x + (-1) = x - 1
  rw [Int32.sub_eq_add_neg]
theorem nI_z : nI 0 - nI 1 = m1 := by decide
theorem m_toInt : m1.toInt = -1 ∧ m2.toInt = -2 := ⟨by decide, by decide⟩
theorem m1_lt {b : Nat} (hb : b < 2 ^ 31) : m1 < nI b := Int32.lt_iff_toInt_lt.mpr (by rw [nI_toInt hb, m_toInt.1]; omega)
theorem m2_lt {b : Nat} (hb : b < 2 ^ 31) : m2 < nI b := Int32.lt_iff_toInt_lt.mpr (by rw [nI_toInt hb, m_toInt.2]; omega)
theorem ne_m1 {b : Nat} (hb : b < 2 ^ 31) : ¬ nI b = m1 := fun e => by
  have h := congrArg Int32.toInt e
  rw [nI_toInt hb, m_toInt.1] at h
  omega
theorem ne_m2 {b : Nat} (hb : b < 2 ^ 31) : ¬ nI b = m2 := fun e => by
  have h := congrArg Int32.toInt e
  rw [nI_toInt hb, m_toInt.2] at h
  omega
theorem ite_m1_lt {α : Type} {x y : α} {b : Nat} {inst : Decidable (m1 < nI b)} (hb : b < 2 ^ 31) : @ite _ (m1 < nI b) inst x y = x := if_pos (m1_lt hb)
theorem ite_m2_lt {α : Type} {x y : α} {b : Nat} {inst : Decidable (m2 < nI b)} (hb : b < 2 ^ 31) : @ite _ (m2 < nI b) inst x y = x := if_pos (m2_lt hb)
theorem ite_le_m1 {α : Type} {x y : α} {b : Nat} {inst : Decidable (nI b ≤ m1)} (hb : b < 2 ^ 31) : @ite _ (nI b ≤ m1) inst x y = y := if_neg (fun h => absurd (m1_lt hb) (by rw [Int32.lt_iff_toInt_lt]; rw [Int32.le_iff_toInt_le] at h; omega))
theorem ite_eq_m1 {α : Type} {x y : α} {b : Nat} {inst : Decidable (nI b = m1)} (hb : b < 2 ^ 31) : @ite _ (nI b = m1) inst x y = y := if_neg (ne_m1 hb)
theorem ite_eq_m2 {α : Type} {x y : α} {b : Nat} {inst : Decidable (nI b = m2)} (hb : b < 2 ^ 31) : @ite _ (nI b = m2) inst x y = y := if_neg (ne_m2 hb)
theorem ite_m1_m1 {α : Type} {x y : α} {inst : Decidable (m1 = m1)}  : @ite _ (m1 = m1) inst x y = x := if_pos rfl
theorem ite_m2_m2 {α : Type} {x y : α} {inst : Decidable (m2 = m2)}  : @ite _ (m2 = m2) inst x y = x := if_pos rfl
theorem sO_sO {w : Wd} {c j : Nat} {o o2 : Ob} : sO (sO w c j o) c j o2 = sO w c j o2 := by
  funext a b
  by_cases h : a = c ∧ b = j
  · obtain ⟨rfl, rfl⟩ := h
    rw [sO_at, sO_at]
  · rw [sO_ne h, sO_ne h, sO_ne h]
theorem sO_id {w : Wd} {c j : Nat} : sO w c j (w c j) = w := by
  funext a b
  by_cases h : a = c ∧ b = j
  · obtain ⟨rfl, rfl⟩ := h
    rw [sO_at]
  · rw [sO_ne h]
theorem sO_nc {w : Wd} {c j c2 j2 : Nat} {o : Ob} (h : c2 ≠ c) : (sO w c j o) c2 j2 = w c2 j2 := sO_ne (fun q => h q.1)
theorem sO_nj {w : Wd} {c j j2 : Nat} {o : Ob} (h : j2 ≠ j) : (sO w c j o) c j2 = w c j2 := sO_ne (fun q => h q.2)
theorem upd_at {f : Nat → Int32} {k : Nat} {x : Int32} : upd f k x k = x := by simp [upd]
theorem upd_ne {f : Nat → Int32} {k j : Nat} {x : Int32} (h : j ≠ k) : upd f k x j = f j := by simp [upd, h]
def b2i (b : Bool) : Int32 := match b with
  | true => 1
  | false => 0
/-- a place, or none: -1 -/
def oi (o : Option Nat) : Int32 := match o with
  | none => m1
  | some i => nI i
theorem ite_T {α : Type} {x y : α} {inst : Decidable (True)}  : @ite _ (True) inst x y = x := if_pos trivial
theorem ite_F {α : Type} {x y : α} {inst : Decidable (False)}  : @ite _ (False) inst x y = y := if_neg (fun h => h)
theorem oi_none : oi none = m1 := id rfl
theorem oi_some {i : Nat} : oi (some i) = nI i := id rfl

theorem ite_nz {α : Type} {x y : α} {n : Nat} {inst : Decidable (n + 1 = 0)} : @ite _ (n + 1 = 0) inst x y = y := if_neg (Nat.succ_ne_zero n)
theorem ite_zz {α : Type} {x y : α} {inst : Decidable ((0 : Nat) = 0)} : @ite _ ((0 : Nat) = 0) inst x y = x := if_pos rfl
theorem ite_m1_le {α : Type} {x y : α} {b : Nat} {inst : Decidable (m1 ≤ nI b)} (hb : b < 2 ^ 31) : @ite _ (m1 ≤ nI b) inst x y = x := if_pos (by have := m1_lt hb; rw [Int32.lt_iff_toInt_lt] at this; rw [Int32.le_iff_toInt_le]; omega)
theorem ite_m1_eq {α : Type} {x y : α} {b : Nat} {inst : Decidable (m1 = nI b)} (hb : b < 2 ^ 31) : @ite _ (m1 = nI b) inst x y = y := if_neg (fun e => ne_m1 hb e.symm)
