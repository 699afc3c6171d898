/-! ===== disk: the reference, and both ===== -/
/-- the disk's part of the class stands when these stand -/
theorem XD.cg2 {w w1 : Wd} {q : Nat} {d : Option Dd} (hq : q < 2) (h : XD w q d) (e5 : w1 5 q = w 5 q) (e3 : ∀ j, 4 * q ≤ j → j < 4 * q + 4 → w1 3 j = w 3 j) (e7 : ∀ j, j ≠ 1 → w1 7 j = w 7 j) (e1 : w1 1 0 = w 1 0) (e2 : w1 2 0 = w 2 0) (e9 : (w1 9 0).1 12 = (w 9 0).1 12) : XD w1 q d := by
  cases d with
  | none =>
    obtain ⟨a1, a2, a3, a4, a5⟩ := h
    refine ⟨by rw [e5]; exact a1, by rw [e3 _ (by omega) (by omega), e3 _ (by omega) (by omega), e3 _ (by omega) (by omega)]; exact a2, by rw [e7 0 (by decide)]; exact a3, ?_, by rw [e9]; exact a5⟩
    obtain ⟨b1, p, b2, b3, b4⟩ := a4
    exact ⟨by rw [e2]; exact b1, p, b2, by rw [e2]; exact b3, fun i hi => absurd hi (Nat.not_lt_zero i)⟩
  | some x =>
    obtain ⟨D, T, s, h, im⟩ := x
    obtain ⟨a1, a2, a3, a4, ⟨b1, p, b2, b3, b4⟩, a6, a7⟩ := h
    refine ⟨by rw [e5]; exact a1, ?_, by rw [e7 0 (by decide)]; exact a3, by rw [e1]; exact a4, ⟨by rw [e2]; exact b1, p, b2, by rw [e2]; exact b3, fun i hi => by rw [e7 _ (by omega)]; exact b4 i hi⟩, by rw [e9]; exact a6, fun i hi => by rw [e7 _ (by omega)]; exact a7 i hi⟩
    unfold RT
    rw [e3 _ (by omega) (by omega), e3 _ (by omega) (by omega), e3 _ (by omega) (by omega), e3 _ (by omega) (by omega)]
    exact a2
section CE
variable {w w2 : Wd} {X : Tx} {D : Dk} {T : Tk} {q nd d : Nat} {A : Ab}
theorem m_tail (hX : TxO X) (hd : d < nd) (hz : w 10 d = zOb) (h7 : (w 11 0).1 7 = nI X.1) (h8 : (w 11 0).1 8 = nI 0) (h12 : (w 11 0).1 12 = nI 0) (h4 : (w 11 0).2.2.1 4 = d + 1) (ht : ∀ i, i < X.1 → (w 11 0).2.1 5 i = X.2 i) : match paA X with
    | .inl (f, pl) => f ≤ 6 → 1 ≤ f → ∃ w2 : Wd, fX11_disk_54 nd w = some (m1, w2) ∧ (w2 11 0).1 1 = nI 4 ∧ (w2 11 0).1 2 = nI pl ∧ (w2 11 0).1 12 = nI f ∧ (∀ k, k = 6 ∨ k = 19 ∨ k = 20 → (w2 11 0).1 k = (w 11 0).1 k) ∧ (w2 11 0).2.1 = (w 11 0).2.1 ∧ (w2 11 0).2.2.1 = (w 11 0).2.2.1 ∧ ∀ c i, ¬ (c = 11 ∧ i = 0) → ¬ (c = 10 ∧ i = d) → w2 c i = w c i
    | .inr (D, T) => WFD D → WFT D T → ∃ w2 : Wd, fX11_disk_54 nd w = some (nI (dnt D), w2) ∧ (w2 11 0).1 1 = nI 0 ∧ (w2 11 0).1 2 = m1 ∧ (w2 11 0).1 12 = nI 0 ∧ (w2 11 0).1 6 = (w 11 0).1 6 ∧ (w2 11 0).1 19 = nI 0 ∧ (w2 11 0).1 20 = nI 0 ∧ (w2 11 0).2.1 5 = (w 11 0).2.1 5 ∧ (w2 11 0).2.2.1 3 = d + 1 ∧ RDm (w2 10 d) D ∧ RTm (w2 10 d) D T ∧ RM ((w2 11 0).2.1 15) (bgS T) ∧ ∀ c i, ¬ (c = 11 ∧ i = 0) → ¬ (c = 10 ∧ i = d) → w2 c i = w c i := by
  have h700 := hX.1
  have n1 : ∀ {k : Nat}, k ≠ 9 → (sI w 11 0 9 (nI 0) 11 0).1 k = (w 11 0).1 k := fun h => sI_n h
  have e2 : (sI w 11 0 9 (nI 0) 11 0).2 = (w 11 0).2 := sI_2
  have e10 : sI w 11 0 9 (nI 0) 10 d = zOb := by rw [sI_o (by omega)]; exact hz
  have s1 : SV w (sI w 11 0 9 (nI 0)) := SV.i (by omega) (by omega)
  have hE : ME (sI w 11 0 9 (nI 0)) X := ⟨by rw [n1 (by decide)]; exact h7, by rw [e2]; exact ht⟩
  obtain ⟨w3, a1, a2, a3⟩ := m_goesOn (nd := nd) hX hE (Nat.zero_le _) (by rw [n1 (by decide)]; exact h8) (k := 0) sI_i (by omega)
  have e3 : w3 10 d = zOb := by rw [a2.1 10 d (by omega)]; exact e10
  have p3 : PM w3 d X D0 T0 (tk X 0) := by
    refine ⟨hE.sg a2, a3, by rw [a2.2.2.1, e2]; exact h4, ?_, ?_, ?_⟩
    · rw [e3]
      exact ⟨rfl, rfl, rfl, rfl, fun b hb => absurd hb (Nat.not_lt_zero b), Nat.zero_le _⟩
    · rw [e3]
      exact ⟨rfl, fun t _ => rfl, ⟨rfl, fun i hi => absurd hi (Nat.not_lt_zero i), fun i hi => absurd hi (Nat.not_lt_zero i)⟩, ⟨rfl, fun i hi => absurd hi (Nat.not_lt_zero i), fun i hi => absurd hi (Nat.not_lt_zero i)⟩, ⟨rfl, fun i hi => absurd hi (Nat.not_lt_zero i), fun i hi => absurd hi (Nat.not_lt_zero i)⟩⟩
    · rw [e3]
      exact ⟨rfl, fun t _ => rfl⟩
  have s3 : SV w w3 := s1.tr a2.sv
  have k12 : (w3 11 0).1 12 = nI 0 := by rw [a2.2.2.2 12 (by decide) (by decide) (by decide) (by decide), n1 (by decide)]; exact h12
  have r := m_loop hX hd (X.1 + 1) 0 D0 T0 (Nat.zero_le _) (by omega) d0_wp fuel0 w3 (by unfold fuel0; omega) p3
  unfold paA
  cases e : paS X (X.1 + 1) D0 T0 0 with
  | inl z =>
    obtain ⟨f, pl⟩ := z
    rw [e] at r
    obtain ⟨w5, r2, r3, r4, r5⟩ := r
    have r2 : fX11_readAll nd w3 = some ((), w5) := r2
    intro f1 f2
    have fr := (s3.fr (d := d)).tr r3
    have r5' : (sI w5 11 0 1 (nI 4) 11 0).1 13 = nI pl := by rw [sI_n (by decide)]; exact r5
    refine ⟨sI (sI w5 11 0 1 (nI 4)) 11 0 2 (nI pl), ?_, by rw [sI_n (by decide), sI_i], sI_i, by rw [sI_n (by decide), sI_n (by decide)]; exact r4, fun k hk => by rw [sI_n (by omega), sI_n (by omega)]; exact fr.2.2.2 k (by omega), by rw [sI_2, sI_2]; exact fr.2.1, by rw [sI_2, sI_2]; exact fr.2.2.1, fun c i x y => by rw [sI_o x, sI_o x]; exact fr.1 c i x y⟩
    unfold fX11_disk_54
    simp (disch := omega) only [↓mo_1, ↓mo_2, ad_m1, ite_m1_lt, ite_m2_lt, ite_le_m1, ite_eq_m1, ite_eq_m2, ite_m1_m1, ite_m2_m2, ite_T, ite_F, ite_nz, ite_zz, ite_m1_le, ite_m1_eq, oi_none, oi_some, ob_some, lw_def, ck_true, ckp_su, ite_lt_t, ite_lt_f, ite_le_t, ite_le_f, ite_eq_t, ite_eq_f, ck_inb, nI_add, sb_nI, mu_nI, nI_clamp, sO_at, sO_sO, Nat.add_sub_cancel, Nat.zero_add, Nat.add_zero, li_0, li_1, li_2, li_3, li_4, li_5, li_6, li_7, li_8, li_9, li_10, li_11, li_12, li_16, li_20, li_24, li_31, li_32, li_48, li_49, li_73, li_74, li_75, li_97, li_98, li_99, li_100, li_101, li_109, li_110, li_255, li_680, li_700, li_9999, li_65536, li_65537, a1, r2, r4, r5']
  | inr z =>
    obtain ⟨D, T⟩ := z
    rw [e] at r
    obtain ⟨w5, r2, r3, r4, r5, r6⟩ := r
    have r2 : fX11_readAll nd w3 = some ((), w5) := r2
    intro hD hT
    have fr := (s3.fr (d := d)).tr r3
    have g12 : (w5 11 0).1 12 = nI 0 := by rw [r6]; exact k12
    have g4 : (w5 11 0).2.2.1 4 = d + 1 := by rw [fr.2.2.1]; exact h4
    have n8 : ∀ c i, ¬ (c = 11 ∧ i = 0) → sP w5 11 0 3 (d + 1) c i = w5 c i := fun c i x => sP_o x
    obtain ⟨w10, g, b1, -, b3, b4, -⟩ := m_asTold (w := sP w5 11 0 3 (d + 1)) hD hd sP_a (by rw [n8 10 d (by omega)]; exact r4) (by rw [n8 10 d (by omega)]; exact r5) hT
    obtain ⟨w12, c1, c2, c3, c4, c5, c6⟩ := m_rm (nd := nd) (g := g) 110 0 (by omega) fuel0 (mX w10 g) (by unfold fuel0; omega) mX_x (fun u hu => absurd hu (Nat.not_lt_zero u))
    have c1 : fX11_remains nd (mX w10 g) = some ((), w12) := c1
    have q3 : (w12 11 0).2.2.1 3 = d + 1 := by rw [c4, mX_p, b4.2.1]; exact sP_a
    have q10 : w12 10 d = w5 10 d := by rw [c3 10 d (by omega), mX_c (by decide), b4.1 10 d (by omega), n8 10 d (by omega)]
    have i12 : ∀ k, k ∈ [1, 2, 6, 12, 19, 20, 29, 30, 31, 33] → (w12 11 0).1 k = (w5 11 0).1 k := fun k hk => by rw [c5, mX_i, b4.2.2.1 k hk, sP_1]
    have t3 : (w5 10 d).1 3 = nI (dnt D) := r5.1
    refine ⟨mT (sI (sI w12 11 0 19 (nI 0)) 11 0 20 (nI 0)) (nI 0), ?_, ?_, ?_, ?_, ?_, ?_, ?_, ?_, ?_, ?_, ?_, ?_, ?_⟩
    · have y3 : (sI (sI w12 11 0 19 (nI 0)) 11 0 20 (nI 0) 11 0).2.2.1 3 = d + 1 := by rw [sI_2, sI_2]; exact q3
      have y10 : (sI (sI w12 11 0 19 (nI 0)) 11 0 20 (nI 0) 10 d).1 3 = nI (dnt D) := by rw [sI_o (by omega), sI_o (by omega), q10]; exact t3
      unfold fX11_disk_54
      simp (disch := omega) only [↓mo_1, ↓mo_2, ad_m1, ite_m1_lt, ite_m2_lt, ite_le_m1, ite_eq_m1, ite_eq_m2, ite_m1_m1, ite_m2_m2, ite_T, ite_F, ite_nz, ite_zz, ite_m1_le, ite_m1_eq, oi_none, oi_some, ob_some, lw_def, ck_true, ckp_su, ite_lt_t, ite_lt_f, ite_le_t, ite_le_f, ite_eq_t, ite_eq_f, ck_inb, nI_add, sb_nI, mu_nI, nI_clamp, sO_at, sO_sO, Nat.add_sub_cancel, Nat.zero_add, Nat.add_zero, li_0, li_1, li_2, li_3, li_4, li_5, li_6, li_7, li_8, li_9, li_10, li_11, li_12, li_16, li_20, li_24, li_31, li_32, li_48, li_49, li_73, li_74, li_75, li_97, li_98, li_99, li_100, li_101, li_109, li_110, li_255, li_680, li_700, li_9999, li_65536, li_65537, a1, r2, g12, g4, b1, c1, y3, y10, m_good]
    · unfold mT; rw [sI_n (by decide), sI_i]
    · unfold mT; rw [sI_i]
    · unfold mT; rw [sI_n (by decide), sI_n (by decide), sI_n (by decide), sI_n (by decide), i12 12 (by decide)]; exact g12
    · unfold mT; rw [sI_n (by decide), sI_n (by decide), sI_n (by decide), sI_n (by decide), i12 6 (by decide)]; exact fr.2.2.2 6 (by omega)
    · unfold mT; rw [sI_n (by decide), sI_n (by decide), sI_n (by decide), sI_i]
    · unfold mT; rw [sI_n (by decide), sI_n (by decide), sI_i]
    · unfold mT; rw [sI_2, sI_2, sI_2, sI_2, c6 5 (by decide), mX_r (by decide), b4.2.2.2 5 (by decide), sP_r, fr.2.1]
    · unfold mT; rw [sI_2, sI_2, sI_2, sI_2]; exact q3
    · unfold mT; rw [sI_o (by omega), sI_o (by omega), sI_o (by omega), sI_o (by omega), q10]; exact r4
    · unfold mT; rw [sI_o (by omega), sI_o (by omega), sI_o (by omega), sI_o (by omega), q10]; exact r5
    · unfold mT; rw [sI_2, sI_2, sI_2, sI_2]
      exact b3.cg ((bg_wf (T := T) hD).n24 hD) ((bg_wf (T := T) hD).j8 hD) c2
    · intro c i x y
      unfold mT
      rw [sI_o x, sI_o x, sI_o x, sI_o x, c3 c i x]
      show sO w10 11 0 _ c i = _
      rw [sO_ne x, b4.1 c i x, n8 c i x]
      exact fr.1 c i x y
/-- the reference's fields ahead of the making of its Disk -/
def dW (w : Wd) (x : Int32) : Wd := sI (sI (sI (sI (sI w 11 0 0 (nI 0)) 11 0 7 x) 11 0 6 (nI 0)) 11 0 8 (nI 0)) 11 0 12 (nI 0)
/-- and with it -/
def dN (nd : Nat) (w : Wd) : Wd := sP (sO w 10 nd zOb) 11 0 4 (nd + 1)
/-- refused for its number -/
def dRf (A : Ab) (x : Int32) : Prop := x < nI 0 ∨ ¬ x ≤ nI A.2.2.2.1.1
theorem c_disk {x : Int32} (hA : AOK A) : ∃ r A2, AOK A2 ∧ (∀ w, XRel w A → ∃ w1, fX9_disk w x = some (r, w1) ∧ XRel w1 A2 ∧ FX w w1) ∧ (dRf A x → ∀ nd w, MRel nd w A → ∃ w2, fX11_refused nd (sI w 11 0 0 (nI 0)) (nI 2) = some (r, w2) ∧ MRel nd w2 A2 ∧ FM w w2) ∧ (¬ dRf A x → ∀ nd w, MRel nd w A → ∃ w2, fX11_disk_54 (nd + 1) (dN nd (dW w x)) = some (r, w2) ∧ MRel (nd + 1) w2 A2 ∧ FM w w2) := by
  have h700 := hA.1
  by_cases c : dRf A x
  · refine ⟨m1, (nI 2, A.2), hA, fun w hw => ?_, fun _ nd w hw => ?_, fun z => absurd c z⟩
    · refine ⟨sI w 9 0 13 (nI 2), ?_, hw.qy XS.rf, fun c i hc => sI_o (by omega)⟩
      obtain ⟨q, a1, a2, a3, a4, a5, a6, a7, a8, a9⟩ := hw
      unfold fX9_disk
      rcases c with c | c
      · rw [li_0, if_pos c]
        rfl
      · by_cases c0 : x < nI 0
        · rw [li_0, if_pos c0]
          rfl
        · rw [li_0, if_neg c0, a7, if_neg c]
          rfl
    · refine ⟨_, m_refused, hw.qy (SM.i (by decide)) (by omega) (by omega), fun c i x y => ?_⟩
      unfold mT
      rw [sI_nc y, sI_nc y, sI_nc y]
  · have c0 : ¬ x < nI 0 := fun z => c (Or.inl z)
    have c1 : x ≤ nI A.2.2.2.1.1 := by
      by_cases z : x ≤ nI A.2.2.2.1.1
      · exact z
      · exact absurd (Or.inr z) c
    obtain ⟨n, hn, rfl⟩ : ∃ n, n ≤ A.2.2.2.1.1 ∧ x = nI n := by
      rcases rng x (show A.2.2.2.1.1 + 1 < 2 ^ 31 by omega) with ⟨t, ht, e⟩ | h | ⟨-, h⟩
      · exact ⟨t, by omega, e⟩
      · exact absurd h c0
      · rw [Int32.le_iff_toInt_le, nI_toInt (by omega)] at h
        rw [Int32.le_iff_toInt_le, nI_toInt (by omega)] at c1
        omega
    have hX : TxO (n, A.2.2.2.1.2) := ⟨by show n ≤ 700; omega, fun i hi => hA.2.1 i (by have : i < n := hi; omega)⟩
    -- the class's first steps
    have xs : ∀ w, XRel w A → ∃ q, q < 2 ∧ (w 9 0).2.2.1 2 = q + 1 ∧ (w 9 0).2.2.1 3 = (1 - q) + 1 ∧ XD w q A.2.2.2.2 ∧ (∀ w7, fX4_tellAll (1 - q) w (nI n) = some ((), w7) → fX9_disk w (nI n) = (let w10 := sI (sI (sI w7 9 0 1 (nI 0)) 9 0 14 ((w7 4 0).1 8)) 9 0 15 ((w7 4 0).1 9); if ((w7 4 0).1 8 : Int32) = 0 then ckp ((w10 9 0).2.2.1 2) 2 fun q12 => ckp ((w10 9 0).2.2.1 3) 2 fun q13 => lw (sP w10 9 0 2 (q13 + 1)) fun w14 => lw (sP w14 9 0 3 (q12 + 1)) fun w15 => ob (fX9_beginAnew w15) fun _ w17 => ckp ((w17 9 0).2.2.1 2) 2 fun q18 => ob (fX9_accept w17 (((w17 5 q18).1 4))) fun r19 w20 => some (r19, w20) else some (m1, sI w10 9 0 13 (nI 4)))) ∧ ∀ i, i < n → (w 9 0).2.1 0 i = A.2.2.2.1.2 i := by
      intro w hw
      obtain ⟨q, a1, a2, a3, a4, a5, a6, a7, a8, a9⟩ := hw
      refine ⟨q, a1, a2, a3, a9, fun w7 e => ?_, fun i hi => a8 i (by omega)⟩
      have e14 : ∀ u : Wd, (sI (sI u 9 0 14 ((u 4 0).1 8)) 9 0 15 ((u 4 0).1 9) 9 0).1 14 = (u 4 0).1 8 := fun u => by rw [sI_n (by decide), sI_i]
      have e4 : ∀ {u : Wd} {k : Nat} {v : Int32}, sI u 9 0 k v 4 0 = u 4 0 := fun {u k v} => sI_o (by omega)
      unfold fX9_disk
      rw [li_0, if_neg c0, a7, if_pos c1, a3, ckp_su (by omega), e]
      simp only [ob_some, lw_def, e4, x_refuse]
      rw [sI_n (by decide), sI_i]
      rfl
    have mw : ∀ nd w, MRel nd w A → (dN nd (dW w (nI n)) 10 nd = zOb) ∧ ((dN nd (dW w (nI n)) 11 0).1 7 = nI n) ∧ ((dN nd (dW w (nI n)) 11 0).1 8 = nI 0) ∧ ((dN nd (dW w (nI n)) 11 0).1 12 = nI 0) ∧ ((dN nd (dW w (nI n)) 11 0).2.2.1 4 = nd + 1) ∧ (∀ i, i < n → (dN nd (dW w (nI n)) 11 0).2.1 5 i = A.2.2.2.1.2 i) ∧ ((dN nd (dW w (nI n)) 11 0).1 6 = nI 0) ∧ (∀ k, k = 19 ∨ k = 20 → (dN nd (dW w (nI n)) 11 0).1 k = (w 11 0).1 k) ∧ ((dN nd (dW w (nI n)) 11 0).2.1 = (w 11 0).2.1) ∧ ((dN nd (dW w (nI n)) 11 0).2.2.1 3 = (w 11 0).2.2.1 3) ∧ ∀ c i, ¬ (c = 11 ∧ i = 0) → ¬ (c = 10 ∧ i = nd) → dN nd (dW w (nI n)) c i = w c i := by
      intro nd w hw
      have e11 : sO (dW w (nI n)) 10 nd zOb 11 0 = dW w (nI n) 11 0 := sO_ne (by omega)
      unfold dN
      refine ⟨by rw [sP_o (by omega), sO_at], by rw [sP_1, e11]; unfold dW; rw [sI_n (by decide), sI_n (by decide), sI_n (by decide), sI_i], by rw [sP_1, e11]; unfold dW; rw [sI_n (by decide), sI_i], by rw [sP_1, e11]; unfold dW; rw [sI_i], sP_a, fun i hi => ?_, by rw [sP_1, e11]; unfold dW; rw [sI_n (by decide), sI_n (by decide), sI_i], fun k hk => by rw [sP_1, e11]; unfold dW; rw [sI_n (by omega), sI_n (by omega), sI_n (by omega), sI_n (by omega), sI_n (by omega)], by rw [sP_r, e11]; unfold dW; rw [sI_2, sI_2, sI_2, sI_2, sI_2], by rw [sP_n (by decide), e11]; unfold dW; rw [sI_2, sI_2, sI_2, sI_2, sI_2], fun c i x y => by rw [sP_o x, sO_ne y]; unfold dW; rw [sI_o x, sI_o x, sI_o x, sI_o x, sI_o x]⟩
      rw [sP_r, e11]
      unfold dW
      rw [sI_2, sI_2, sI_2, sI_2, sI_2]
      exact hw.2.2.2.2.1 i (by omega)
    cases e : paA (n, A.2.2.2.1.2) with
    | inl z =>
      obtain ⟨f, pl⟩ := z
      have fb : 1 ≤ f ∧ f ≤ 6 ∧ pl ≤ n := by
        have t := x_tell (w := fun _ _ => (fun _ => nI 0, fun _ i => A.2.2.2.1.2 i, fun _ => 0, fun _ => 0)) (s := 0) hX (by omega) (fun i hi => rfl)
        rw [e] at t
        exact t.1
      refine ⟨m1, (nI 4, nI f, nI pl, (0, A.2.2.2.1.2), A.2.2.2.2), ⟨Nat.zero_le _, fun i hi => absurd hi (Nat.not_lt_zero i), hA.2.2⟩, fun w hw => ?_, fun z => absurd z c, fun _ nd w hw => ?_⟩
      · obtain ⟨q, a1, a2, a3, a4, a5, a6⟩ := xs w hw
        have t := x_tell (w := w) (s := 1 - q) hX (by omega) a6
        rw [e] at t
        obtain ⟨-, w7, t1, t2, t3, t4⟩ := t
        have n9 : w7 9 0 = w 9 0 := t2 9 0 (by omega) (by omega) (by omega)
        refine ⟨sI (sI (sI (sI w7 9 0 1 (nI 0)) 9 0 14 ((w7 4 0).1 8)) 9 0 15 ((w7 4 0).1 9)) 9 0 13 (nI 4), ?_, ?_, fun c i hc => by rw [sI_o (by omega), sI_o (by omega), sI_o (by omega), sI_o (by omega)]; exact t2 c i (by omega) (by omega) (by omega)⟩
        · rw [a5 w7 t1, t3]
          show (if (nI f : Int32) = 0 then _ else _) = _
          rw [li_0, ite_eq_f (by omega) (by omega) (by omega)]
        · refine ⟨q, a1, by rw [sI_2, sI_2, sI_2, sI_2, n9]; exact a2, by rw [sI_2, sI_2, sI_2, sI_2, n9]; exact a3, sI_i, by rw [sI_n (by decide), sI_n (by decide), sI_i]; exact t3, by rw [sI_n (by decide), sI_i]; exact t4, by rw [sI_n (by decide), sI_n (by decide), sI_n (by decide), sI_i], fun i hi => absurd hi (Nat.not_lt_zero i), ?_⟩
          refine XD.cg2 a1 a4 ?_ (fun j y1 y2 => ?_) (fun j _ => ?_) ?_ ?_ ?_
          · rw [sI_o (by omega), sI_o (by omega), sI_o (by omega), sI_o (by omega)]; exact t2 5 q (by omega) (by omega) (by omega)
          · rw [sI_o (by omega), sI_o (by omega), sI_o (by omega), sI_o (by omega)]; exact t2 3 j (by omega) (by omega) (by omega)
          · rw [sI_o (by omega), sI_o (by omega), sI_o (by omega), sI_o (by omega)]; exact t2 7 j (by omega) (by omega) (by omega)
          · rw [sI_o (by omega), sI_o (by omega), sI_o (by omega), sI_o (by omega)]; exact t2 1 0 (by omega) (by omega) (by omega)
          · rw [sI_o (by omega), sI_o (by omega), sI_o (by omega), sI_o (by omega)]; exact t2 2 0 (by omega) (by omega) (by omega)
          · rw [sI_n (by decide), sI_n (by decide), sI_n (by decide), sI_n (by decide), n9]
      · obtain ⟨b1, b2, b3, b4, b5, b6, b7, b8, b9, b10, b11⟩ := mw nd w hw
        have t := m_tail (nd := nd + 1) (d := nd) hX (by omega) b1 b2 b3 b4 b5 b6
        rw [e] at t
        obtain ⟨w2, t1, t2, t3, t4, t5, t6, t7, t8⟩ := t fb.2.1 fb.1
        obtain ⟨h1, h2, h3, h4, h5, h6⟩ := hw
        refine ⟨w2, t1, ⟨t2, t4, by rw [if_pos rfl]; exact t3, by rw [t5 6 (by omega)]; exact b7, fun i hi => absurd hi (Nat.not_lt_zero i), ?_⟩, fun c i x y => by rw [t8 c i (by omega) (by omega)]; exact b11 c i (by omega) (by omega)⟩
        show MD (nd + 1) w2 A.2.2.2.2
        cases hd : A.2.2.2.2 with
        | none =>
          rw [hd] at h6
          show (w2 11 0).2.2.1 3 = 0
          rw [t7, b10]
          exact h6
        | some v =>
          rw [hd] at h6
          obtain ⟨D, T, s, h, im⟩ := v
          obtain ⟨d, g1, g2, g3, g4, g5, g6, g7, g8, g9⟩ := h6
          have e10 : w2 10 d = w 10 d := by rw [t8 10 d (by omega) (by omega)]; exact b11 10 d (by omega) (by omega)
          have er : (w2 11 0).2.1 = (w 11 0).2.1 := t6.trans b9
          exact ⟨d, by rw [t7, b10]; exact g1, by omega, by rw [e10]; exact g3, by rw [e10]; exact g4, by rw [er]; exact g5, by rw [t5 19 (by omega), b8 19 (by omega)]; exact g6, by rw [er]; exact g7, by rw [t5 20 (by omega), b8 20 (by omega)]; exact g8, by rw [er]; exact g9⟩
    | inr z =>
      obtain ⟨D, T⟩ := z
      have fb : WP D T ∧ 0 < D.1 := by
        have t := x_tell (w := fun _ _ => (fun _ => nI 0, fun _ i => A.2.2.2.1.2 i, fun _ => 0, fun _ => 0)) (s := 0) hX (by omega) (fun i hi => rfl)
        rw [e] at t
        exact t.1
      obtain ⟨hD, hT⟩ := wp_wfd fb.1 fb.2
      refine ⟨nI (dnt D), (nI 0, nI 0, nI 0, (0, A.2.2.2.1.2), some (D, T, bgS T, (0, fun _ => bgS T), (0, fun _ => bgS T))), ⟨Nat.zero_le _, fun i hi => absurd hi (Nat.not_lt_zero i), hD, fb.1.1, hT, bg_wf hD, fun _ => ⟨rfl, rfl⟩, ⟨Nat.zero_le _, fun i hi => absurd hi (Nat.not_lt_zero i)⟩, ⟨Nat.zero_le _, fun i hi => absurd hi (Nat.not_lt_zero i)⟩⟩, fun w hw => ?_, fun z => absurd z c, fun _ nd w hw => ?_⟩
      · obtain ⟨q, a1, a2, a3, a4, a5, a6⟩ := xs w hw
        have t := x_tell (w := w) (s := 1 - q) hX (by omega) a6
        rw [e] at t
        obtain ⟨-, w7, t1, t2, t3, t4, t5, t6⟩ := t
        have n9 : w7 9 0 = w 9 0 := t2 9 0 (by omega) (by omega) (by omega)
        generalize hw10 : sI (sI (sI w7 9 0 1 (nI 0)) 9 0 14 ((w7 4 0).1 8)) 9 0 15 ((w7 4 0).1 9) = w10
        have o10 : ∀ c i, ¬ (c = 9 ∧ i = 0) → w10 c i = w7 c i := fun c i x => by rw [← hw10, sI_o x, sI_o x, sI_o x]
        have p10 : (w10 9 0).2.2.1 2 = q + 1 ∧ (w10 9 0).2.2.1 3 = (1 - q) + 1 := by rw [← hw10, sI_2, sI_2, sI_2, n9]; exact ⟨a2, a3⟩
        have i10 : (w10 9 0).1 1 = nI 0 ∧ (w10 9 0).1 14 = nI 0 ∧ (w10 9 0).1 15 = nI 0 := by
          rw [← hw10]
          exact ⟨by rw [sI_n (by decide), sI_n (by decide), sI_i], by rw [sI_n (by decide), sI_i]; exact t5, by rw [sI_i]; exact t6⟩
        generalize hw15 : sP (sP w10 9 0 2 ((1 - q) + 1)) 9 0 3 (q + 1) = w15
        have o15 : ∀ c i, ¬ (c = 9 ∧ i = 0) → w15 c i = w7 c i := fun c i x => by rw [← hw15, sP_o x, sP_o x, o10 c i x]
        have p15 : (w15 9 0).2.2.1 2 = (1 - q) + 1 ∧ (w15 9 0).2.2.1 3 = q + 1 := by
          rw [← hw15]
          exact ⟨by rw [sP_n (by decide), sP_a], sP_a⟩
        have i15 : (w15 9 0).1 = (w10 9 0).1 := by rw [← hw15, sP_1, sP_1]
        obtain ⟨w17, u1, u2, u3, u4, u5, u6⟩ := x_ba (w := w15) (q := 1 - q) hD hT (by omega) p15.1 (by rw [o15 5 _ (by omega)]; exact t3) (by unfold RT; rw [o15 3 _ (by omega), o15 3 _ (by omega), o15 3 _ (by omega), o15 3 _ (by omega)]; exact t4)
        have sh : RSh (w17 5 (1 - q)) D := by rw [u6 5 _ (by omega) (by omega) (by omega) (by omega) (by omega), o15 5 _ (by omega)]; exact t3
        refine ⟨sI w17 9 0 13 (nI 0), ?_, ?_, fun c i hc => by rw [sI_o (by omega), u6 c i (by omega) (by omega) (by omega) (by omega) (by omega), o15 c i (by omega)]; exact t2 c i (by omega) (by omega) (by omega)⟩
        · have p17 : (w17 9 0).2.2.1 2 = (1 - q) + 1 := by rw [u5]; exact p15.1
          rw [a5 w7 t1, hw10]
          show (if ((w7 4 0).1 8 : Int32) = 0 then _ else _) = _
          rw [t5]
          simp (disch := omega) only [↓mo_1, ↓mo_2, ad_m1, ite_m1_lt, ite_m2_lt, ite_le_m1, ite_eq_m1, ite_eq_m2, ite_m1_m1, ite_m2_m2, ite_T, ite_F, ite_nz, ite_zz, ite_m1_le, ite_m1_eq, oi_none, oi_some, ob_some, lw_def, ck_true, ckp_su, ite_lt_t, ite_lt_f, ite_le_t, ite_le_f, ite_eq_t, ite_eq_f, ck_inb, nI_add, sb_nI, mu_nI, nI_clamp, sO_at, sO_sO, Nat.add_sub_cancel, Nat.zero_add, Nat.add_zero, li_0, li_1, li_2, li_3, li_4, li_5, li_6, li_7, li_8, li_9, li_10, li_11, li_12, li_16, li_20, li_24, li_31, li_32, li_48, li_49, li_73, li_74, li_75, li_97, li_98, li_99, li_100, li_101, li_109, li_110, li_255, li_680, li_700, li_9999, li_65536, li_65537, p10.1, p10.2, hw15, u1, p17, sh.2.2.2.1, x_accept]
        · have e9 : w17 9 0 = oI (w15 9 0) 12 (nI 0) := u5
          have i9 : ∀ k, k ≠ 13 → k ≠ 12 → (sI w17 9 0 13 (nI 0) 9 0).1 k = (w10 9 0).1 k := fun k h1 h2 => by rw [sI_n h1, e9, oI_n h2, i15]
          have eq2 : 1 - (1 - q) + 1 = q + 1 := by omega
          refine ⟨1 - q, by omega, by rw [sI_2, e9]; exact p15.1, by rw [sI_2, e9, eq2]; exact p15.2, sI_i, by rw [i9 14 (by decide) (by decide)]; exact i10.2.1, by rw [i9 15 (by decide) (by decide)]; exact i10.2.2, by rw [i9 1 (by decide) (by decide)]; exact i10.1, fun i hi => absurd hi (Nat.not_lt_zero i), ?_⟩
          have k7 : ∀ c i, ¬ (c = 9 ∧ i = 0) → sI w17 9 0 13 (nI 0) c i = w17 c i := fun c i x => sI_o x
          have xh : ∃ p, p < 16 ∧ (w 2 0).1 1 = nI p := by
            cases hd : A.2.2.2.2 with
            | none => rw [hd] at a4; obtain ⟨-, -, -, ⟨-, p, y1, y2, -⟩, -⟩ := a4; exact ⟨p, y1, y2⟩
            | some v => rw [hd] at a4; obtain ⟨-, -, -, -, ⟨-, p, y1, y2, -⟩, -⟩ := a4; exact ⟨p, y1, y2⟩
          obtain ⟨p, y1, y2⟩ := xh
          refine ⟨by rw [k7 5 _ (by omega)]; exact sh, ?_, by rw [k7 7 0 (by omega)]; exact u3, by rw [k7 1 0 (by omega)]; exact u2, ⟨by rw [k7 2 0 (by omega)]; exact u4.1, p, y1, by rw [k7 2 0 (by omega), u4.2, o15 2 0 (by omega), t2 2 0 (by omega) (by omega) (by omega)]; exact y2, fun i hi => absurd hi (Nat.not_lt_zero i)⟩, by rw [sI_n (by decide), e9, oI_a], fun i hi => absurd hi (Nat.not_lt_zero i)⟩
          unfold RT
          rw [k7 3 _ (by omega), k7 3 _ (by omega), k7 3 _ (by omega), k7 3 _ (by omega), u6 3 _ (by omega) (by omega) (by omega) (by omega) (by omega), u6 3 _ (by omega) (by omega) (by omega) (by omega) (by omega), u6 3 _ (by omega) (by omega) (by omega) (by omega) (by omega), u6 3 _ (by omega) (by omega) (by omega) (by omega) (by omega), o15 3 _ (by omega), o15 3 _ (by omega), o15 3 _ (by omega), o15 3 _ (by omega)]
          exact t4
      · obtain ⟨b1, b2, b3, b4, b5, b6, b7, b8, b9, b10, b11⟩ := mw nd w hw
        have t := m_tail (nd := nd + 1) (d := nd) hX (by omega) b1 b2 b3 b4 b5 b6
        rw [e] at t
        obtain ⟨w2, t1, t2, t3, t4, t5, t6, t7, t8, t9, t10, t11, t12, t13⟩ := t hD hT
        refine ⟨w2, t1, ⟨t2, t4, ?_, by rw [t5]; exact b7, fun i hi => absurd hi (Nat.not_lt_zero i), ?_⟩, fun c i x y => by rw [t13 c i (by omega) (by omega)]; exact b11 c i (by omega) (by omega)⟩
        · rw [t3, if_neg]
          show ¬ nI 0 = nI 4
          decide
        · exact ⟨nd, t9, by omega, t10, t11, t12, t6, fun i hi => absurd hi (Nat.not_lt_zero i), t7, fun i hi => absurd hi (Nat.not_lt_zero i)⟩
end CE
