def fX0_draw (w : Wd) (x1 : Int32) : Option (Int32 × Wd) :=
  if (65537 : Int32) = 0 then none else
  lw (sI w 0 0 0 ((((75 * ((w 0 0).1 0)) + 74) - ((75 * ((w 0 0).1 0)) + 74) / 65537 * 65537))) fun w2 =>
  if (x1 : Int32) ≤ 0 then
    some (0, w2)
  else
    if (x1 : Int32) = 0 then none else
    some ((((w2 0 0).1 0) - ((w2 0 0).1 0) / x1 * x1), w2)
set_option maxRecDepth 100000 in
set_option maxHeartbeats 4000000 in
theorem kX0_draw {l : Launch} {G : Gx} {al : Al} {w : Wd} {x1 : Int32} {r : Int32} {wz : Wd} (hN : NX G) (h : fX0_draw w x1 = some (r, wz)) : MC l G yX0_draw cX0_draw 2 (some (.int)) 0 0 al w [.ref (al 0 0 0), .int x1] (some (.int r)) wz := by
  refine mc_of [(0, .ref (al 0 0 0)), (1, .int x1)] (by decide) (Nat.le_of_ble_eq_true rfl) rfl ?_
  intro K hk hR hn hl hG
  subst hl; subst hG
  have hk : VH K RX0 cX0_draw 0 0 := hk
  rw [fX0_draw.eq_1] at h
  refine r_aload_n 1 hk dX0_draw_0 rfl 0 rfl rfl ?_
  refine r_bipush 3 hk dX0_draw_1 rfl cb_75 ?_
  refine r_aload_n 4 hk dX0_draw_3 rfl 0 rfl rfl ?_
  refine r_get 7 hk dX0_draw_4 rfl ff_RX0_9 (mk_0_0 (nx_0 hN (j := 0) (by decide))) (gv_0_0 _ _ _) ?_
  refine r_imul 8 hk dX0_draw_7 rfl ?_
  refine r_bipush 10 hk dX0_draw_8 rfl cb_74 ?_
  refine r_iadd 11 hk dX0_draw_10 rfl ?_
  refine r_ldc 13 hk dX0_draw_11 rfl kc_RX0_15 ?_
  by_cases z1 : (65537 : Int32) = 0
  · have h := if_t z1 h; cases h
  have h := if_f z1 h
  refine r_irem 14 hk dX0_draw_13 rfl z1 ?_
  obtain ⟨w2, ew2, h⟩ := lw_e h
  refine r_putI 17 w2 hk dX0_draw_14 rfl ff_RX0_9 fi_0_0 (mk_0_0 (nx_0 hN (j := 0) (by decide))) ew2 ?_
  refine r_iload_n 18 hk dX0_draw_17 rfl 1 rfl rfl ?_
  refine r_if_le 30 21 hk dX0_draw_18 rfl rfl (fun c3 => ?_) (fun c3 => ?_)
  · have h := if_t c3 h
    refine r_iconst 31 hk dX0_draw_30 rfl ci_0 ?_
    exact r_iret hk hR dX0_draw_31 h
  · have h := if_f c3 h
    refine r_aload_n 22 hk dX0_draw_21 rfl 0 rfl rfl ?_
    refine r_get 25 hk dX0_draw_22 rfl ff_RX0_9 (mk_0_0 (nx_0 hN (j := 0) (by decide))) (gv_0_0 _ _ _) ?_
    refine r_iload_n 26 hk dX0_draw_25 rfl 1 rfl rfl ?_
    by_cases z4 : (x1 : Int32) = 0
    · have h := if_t z4 h; cases h
    have h := if_f z4 h
    refine r_irem 27 hk dX0_draw_26 rfl z4 ?_
    refine r_goto 31 hk (x := 0) dX0_draw_27 rfl ?_
    exact r_iret hk hR dX0_draw_31 h
def fX9_at (ac0 : Nat) (aj0 : Nat) (ak0 : Nat) (w : Wd) (x1 : Int32) : Option (Int32 × Wd) :=
  if (x1 : Int32) < 0 then
    some (0, w)
  else
    if ((nI (aln ac0 aj0 ak0)) : Int32) ≤ x1 then
      some (0, w)
    else
      ck (inb (x1) (aln ac0 aj0 ak0)) <|
      some (((w ac0 aj0).2.1 ak0 (x1 : Int32).toNatClampNeg), w)
set_option maxRecDepth 100000 in
set_option maxHeartbeats 4000000 in
theorem kX9_at {l : Launch} {G : Gx} {al : Al} {ac0 : Nat} {aj0 : Nat} {ak0 : Nat} {w : Wd} {x1 : Int32} {r : Int32} {wz : Wd} (hN : NX G) (ht0 : aty ac0 ak0 = 1) (hm0 : (ac0, aj0, ak0 + 1) ∈ keys (gN G)) (h : fX9_at ac0 aj0 ak0 w x1 = some (r, wz)) : MC l G yX9_at cX9_at 2 (some (.int)) 0 0 al w [.ref (al ac0 aj0 (ak0 + 1)), .int x1] (some (.int r)) wz := by
  refine mc_of [(0, .ref (al ac0 aj0 (ak0 + 1))), (1, .int x1)] (by decide) (Nat.le_of_ble_eq_true rfl) rfl ?_
  intro K hk hR hn hl hG
  subst hl; subst hG
  have hk : VH K RX9 cX9_at 0 0 := hk
  rw [fX9_at.eq_1] at h
  refine r_iload_n 1 hk dX9_at_0 rfl 1 rfl rfl ?_
  refine r_if_lt 16 4 hk dX9_at_1 rfl rfl (fun c1 => ?_) (fun c1 => ?_)
  · have h := if_t c1 h
    refine r_iconst 17 hk dX9_at_16 rfl ci_0 ?_
    exact r_iret hk hR dX9_at_17 h
  · have h := if_f c1 h
    refine r_iload_n 5 hk dX9_at_4 rfl 1 rfl rfl ?_
    refine r_aload_n 6 hk dX9_at_5 rfl 0 rfl rfl ?_
    refine r_alen 7 hk dX9_at_6 rfl hm0 rfl ?_
    refine r_icmp_ge 16 10 hk dX9_at_7 rfl rfl (fun c2 => ?_) (fun c2 => ?_)
    · have h := if_t c2 h
      refine r_iconst 17 hk dX9_at_16 rfl ci_0 ?_
      exact r_iret hk hR dX9_at_17 h
    · have h := if_f c2 h
      refine r_aload_n 11 hk dX9_at_10 rfl 0 rfl rfl ?_
      refine r_iload_n 12 hk dX9_at_11 rfl 1 rfl rfl ?_
      obtain ⟨b3, h⟩ := ck_e h
      refine r_iald 13 hk dX9_at_12 rfl ht0 hm0 rfl b3 ?_
      refine r_goto 17 hk (x := 0) dX9_at_13 rfl ?_
      exact r_iret hk hR dX9_at_17 h
def fX5_bandHolding (j : Nat) (w : Wd) (x1 : Int32) : Option (Int32 × Wd) :=
  ob (fX9_at 5 j 2 w (x1)) fun r1 w2 =>
  some (r1, w2)
set_option maxRecDepth 100000 in
set_option maxHeartbeats 4000000 in
theorem kX5_bandHolding {l : Launch} {G : Gx} {al : Al} {j : Nat} {w : Wd} {x1 : Int32} {r : Int32} {wz : Wd} (hN : NX G) (hj : j < gN G 5) (h : fX5_bandHolding j w x1 = some (r, wz)) : MC l G yX5_bandHolding cX5_bandHolding 2 (some (.int)) 1 21 al w [.ref (al 5 j 0), .int x1] (some (.int r)) wz := by
  refine mc_of [(0, .ref (al 5 j 0)), (1, .int x1)] (by decide) (Nat.le_of_ble_eq_true rfl) rfl ?_
  intro K hk hR hn hl hG
  subst hl; subst hG
  have hk : VH K RX5 cX5_bandHolding 1 21 := hk
  rw [fX5_bandHolding.eq_1] at h
  refine r_aload_n 1 hk dX5_bandHolding_0 rfl 0 rfl rfl ?_
  refine r_get 4 hk dX5_bandHolding_1 rfl ff_RX5_18 (mk_5_0 hj) (gv_5_2 _ _ _) ?_
  refine r_iload_n 5 hk dX5_bandHolding_4 rfl 1 rfl rfl ?_
  obtain ⟨r1, w2, ew2, h⟩ := ob_e h
  refine r_cSi 8 (As := [.ref (al 5 j 3), .int x1]) (rest := []) hk (kX9_at hN rfl (mk_5_3 hj) ew2) cf_RX5_38 ms_X9_at dX5_bandHolding_5 rfl (Nat.le_of_ble_eq_true rfl) (Nat.le_of_ble_eq_true rfl) rfl rfl (Nat.le_of_ble_eq_true rfl) ?_
  exact r_iret hk hR dX5_bandHolding_8 h
def fX7_entriesOf_5 (j : Nat) (o1 : Nat) : Nat → Wd → Int32 → Int32 → Int32 → Option (Int32 × Wd)
  | 0, _, _, _, _ => none
  | n + 1, w, x2, x3, x4 =>
    if (((w 7 j).1 4) : Int32) ≤ x4 then
      some (x3, w)
    else
      ob (fX9_at 7 j 1 w (x4)) fun r2 w3 =>
      ob (fX5_bandHolding o1 w3 (r2)) fun r4 w5 =>
      if (r4 : Int32) = x2 then
        lw (x3 + 1) fun x3_8 =>
        lw (x4 + 1) fun x4_9 =>
        fX7_entriesOf_5 j o1 n w5 (x2) (x3_8) (x4_9)
      else
        lw (x4 + 1) fun x4_7 =>
        fX7_entriesOf_5 j o1 n w5 (x2) (x3) (x4_7)
def fX7_entriesOf (j : Nat) (o1 : Nat) (w : Wd) (x2 : Int32) : Option (Int32 × Wd) :=
  fX7_entriesOf_5 j o1 fuel0 w (x2) (0) (0)
set_option maxRecDepth 100000 in
set_option maxHeartbeats 4000000 in
theorem sX7_entriesOf_5 {K : VC} {al : Al} {r : Int32} {wz : Wd} {j : Nat} {o1 : Nat} (hk : VH K RX7 cX7_entriesOf 2 42) (hR : VR K al (some (.int)) (some (.int r)) wz) (hn : kn K = 5) (hN : NX (kG K)) (hj : j < gN (kG K) 7) (ho1 : o1 < gN (kG K) 5) : ∀ (n : Nat) (w : Wd) (x2 : Int32) (x3 : Int32) (x4 : Int32), fX7_entriesOf_5 j o1 n w x2 x3 x4 = some (r, wz) → V K al w 5 [(0, .ref (al 7 j 0)), (1, .ref (al 5 o1 0)), (2, .int x2), (3, .int x3), (4, .int x4)] [] := by
  intro n
  induction n with
  | zero => intro w x2 x3 x4 h; cases h
  | succ n ih =>
    intro w x2 x3 x4 h
    rw [fX7_entriesOf_5.eq_2] at h
    refine r_iload 7 hk dX7_entriesOf_5 rfl 4 rfl ?_
    refine r_aload_n 8 hk dX7_entriesOf_7 rfl 0 rfl rfl ?_
    refine r_get 11 hk dX7_entriesOf_8 rfl ff_RX7_37 (mk_7_0 hj) (gv_7_4 _ _ _) ?_
    refine r_icmp_ge 40 14 hk dX7_entriesOf_11 rfl rfl (fun c1 => ?_) (fun c1 => ?_)
    · have h := if_t c1 h
      refine r_iload_n 41 hk dX7_entriesOf_40 rfl 3 rfl rfl ?_
      exact r_iret hk hR dX7_entriesOf_41 h
    · have h := if_f c1 h
      refine r_aload_n 15 hk dX7_entriesOf_14 rfl 1 rfl rfl ?_
      refine r_aload_n 16 hk dX7_entriesOf_15 rfl 0 rfl rfl ?_
      refine r_get 19 hk dX7_entriesOf_16 rfl ff_RX7_15 (mk_7_0 hj) (gv_7_1 _ _ _) ?_
      refine r_iload 21 hk dX7_entriesOf_19 rfl 4 rfl ?_
      obtain ⟨r2, w3, ew3, h⟩ := ob_e h
      refine r_cSi 24 (As := [.ref (al 7 j 2), .int x4]) (rest := [.ref (al 5 o1 0)]) hk (kX9_at hN rfl (mk_7_2 hj) ew3) cf_RX7_74 ms_X9_at dX7_entriesOf_21 rfl (Nat.le_of_ble_eq_true rfl) (Nat.le_of_ble_eq_true rfl) rfl rfl (Nat.le_of_ble_eq_true rfl) ?_
      obtain ⟨r4, w5, ew5, h⟩ := ob_e h
      refine r_cVi 27 (As := [.int r2]) (rest := []) hk (kX5_bandHolding hN ho1 ew5) cf_RX7_81 mi_X5_bandHolding ⟨TX5, 8, rfl⟩ dX7_entriesOf_24 rfl (Nat.le_of_ble_eq_true rfl) (Nat.le_of_ble_eq_true rfl) (mk_5_0 ho1) rfl rfl (Nat.le_of_ble_eq_true rfl) ?_
      refine r_iload_n 28 hk dX7_entriesOf_27 rfl 2 rfl rfl ?_
      refine r_icmp_ne 34 31 hk dX7_entriesOf_28 rfl rfl (fun c6 => ?_) (fun c6 => ?_)
      · have h := if_f c6 h
        obtain ⟨x4_7, ex4_7, h⟩ := lw_e h
        refine r_iinc 37 [(4, .int x4_7), (0, .ref (al 7 j 0)), (1, .ref (al 5 o1 0)), (2, .int x2), (3, .int x3)] hk (j := 4) dX7_entriesOf_34 rfl hn (by decide) rfl ex4_7 rfl ?_
        refine r_goto 5 hk (x := 0) dX7_entriesOf_37 rfl ?_
        refine r_sub [1, 2, 3, 4, 0] rfl ?_
        exact ih _ _ _ _ h
      · have h := if_t c6 h
        obtain ⟨x3_8, ex3_8, h⟩ := lw_e h
        refine r_iinc 34 [(3, .int x3_8), (0, .ref (al 7 j 0)), (1, .ref (al 5 o1 0)), (2, .int x2), (4, .int x4)] hk (j := 3) dX7_entriesOf_31 rfl hn (by decide) rfl ex3_8 rfl ?_
        obtain ⟨x4_9, ex4_9, h⟩ := lw_e h
        refine r_iinc 37 [(4, .int x4_9), (3, .int x3_8), (0, .ref (al 7 j 0)), (1, .ref (al 5 o1 0)), (2, .int x2)] hk (j := 4) dX7_entriesOf_34 rfl hn (by decide) rfl ex4_9 rfl ?_
        refine r_goto 5 hk (x := 0) dX7_entriesOf_37 rfl ?_
        refine r_sub [2, 3, 4, 1, 0] rfl ?_
        exact ih _ _ _ _ h
set_option maxRecDepth 100000 in
set_option maxHeartbeats 4000000 in
theorem kX7_entriesOf {l : Launch} {G : Gx} {al : Al} {j : Nat} {o1 : Nat} {w : Wd} {x2 : Int32} {r : Int32} {wz : Wd} (hN : NX G) (hj : j < gN G 7) (ho1 : o1 < gN G 5) (h : fX7_entriesOf j o1 w x2 = some (r, wz)) : MC l G yX7_entriesOf cX7_entriesOf 5 (some (.int)) 2 42 al w [.ref (al 7 j 0), .ref (al 5 o1 0), .int x2] (some (.int r)) wz := by
  refine mc_of [(0, .ref (al 7 j 0)), (1, .ref (al 5 o1 0)), (2, .int x2)] (by decide) (Nat.le_of_ble_eq_true rfl) rfl ?_
  intro K hk hR hn hl hG
  subst hl; subst hG
  have hk : VH K RX7 cX7_entriesOf 2 42 := hk
  rw [fX7_entriesOf.eq_1] at h
  refine r_iconst 1 hk dX7_entriesOf_0 rfl ci_0 ?_
  refine r_istore_n 2 [(3, .int 0), (0, .ref (al 7 j 0)), (1, .ref (al 5 o1 0)), (2, .int x2)] hk dX7_entriesOf_1 rfl rfl hn (by decide) rfl rfl ?_
  refine r_iconst 3 hk dX7_entriesOf_2 rfl ci_0 ?_
  refine r_istore 5 [(4, .int 0), (3, .int 0), (0, .ref (al 7 j 0)), (1, .ref (al 5 o1 0)), (2, .int x2)] hk dX7_entriesOf_3 rfl hn (by decide) rfl rfl ?_
  refine r_sub [2, 3, 4, 1, 0] rfl ?_
  exact sX7_entriesOf_5 hk hR hn hN hj ho1 _ _ _ _ _ h
def fX7_nextBand_37 (j : Nat) (o1 : Nat) : Nat → Wd → Int32 → Int32 → Int32 → Option (Int32 × Wd)
  | 0, _, _, _, _ => none
  | n + 1, w, x2, x3, x4 =>
    if (((w 5 o1).1 3) : Int32) ≤ x4 then
      some (x2, w)
    else
      ob (fX7_entriesOf j o1 w (x4)) fun r8 w9 =>
      if (r8 : Int32) ≤ x3 then
        lw (x4 + 1) fun x4_11 =>
        fX7_nextBand_37 j o1 n w9 (x2) (x3) (x4_11)
      else
        lw (x4 + 1) fun x4_12 =>
        fX7_nextBand_37 j o1 n w9 (x4) (r8) (x4_12)
def fX7_nextBand (j : Nat) (o1 : Nat) (w : Wd) : Option (Int32 × Wd) :=
  if (((w 7 j).1 4) : Int32) = 0 then
    some ((-2), w)
  else
    if (((w 5 o1).1 7) : Int32) = 0 then
      fX7_nextBand_37 j o1 fuel0 w (0) (0) (0)
    else
      ob (fX9_at 7 j 1 w (0)) fun r3 w4 =>
      ob (fX5_bandHolding o1 w4 (r3)) fun r5 w6 =>
      some (r5, w6)
set_option maxRecDepth 100000 in
set_option maxHeartbeats 4000000 in
theorem sX7_nextBand_37 {K : VC} {al : Al} {r : Int32} {wz : Wd} {j : Nat} {o1 : Nat} (hk : VH K RX7 cX7_nextBand 3 66) (hR : VR K al (some (.int)) (some (.int r)) wz) (hn : kn K = 6) (hN : NX (kG K)) (hj : j < gN (kG K) 7) (ho1 : o1 < gN (kG K) 5) : ∀ (n : Nat) (w : Wd) (x2 : Int32) (x3 : Int32) (x4 : Int32), fX7_nextBand_37 j o1 n w x2 x3 x4 = some (r, wz) → V K al w 37 [(0, .ref (al 7 j 0)), (1, .ref (al 5 o1 0)), (2, .int x2), (3, .int x3), (4, .int x4)] [] := by
  intro n
  induction n with
  | zero => intro w x2 x3 x4 h; cases h
  | succ n ih =>
    intro w x2 x3 x4 h
    rw [fX7_nextBand_37.eq_2] at h
    refine r_iload 39 hk dX7_nextBand_37 rfl 4 rfl ?_
    refine r_aload_n 40 hk dX7_nextBand_39 rfl 1 rfl rfl ?_
    refine r_get 43 hk dX7_nextBand_40 rfl ff_RX7_94 (mk_5_0 ho1) (gv_5_3 _ _ _) ?_
    refine r_icmp_ge 73 46 hk dX7_nextBand_43 rfl rfl (fun c7 => ?_) (fun c7 => ?_)
    · have h := if_t c7 h
      refine r_iload_n 74 hk dX7_nextBand_73 rfl 2 rfl rfl ?_
      exact r_iret hk hR dX7_nextBand_74 h
    · have h := if_f c7 h
      refine r_aload_n 47 hk dX7_nextBand_46 rfl 0 rfl rfl ?_
      refine r_aload_n 48 hk dX7_nextBand_47 rfl 1 rfl rfl ?_
      refine r_iload 50 hk dX7_nextBand_48 rfl 4 rfl ?_
      obtain ⟨r8, w9, ew9, h⟩ := ob_e h
      refine r_cVi 53 (As := [.ref (al 5 o1 0), .int x4]) (rest := []) hk (kX7_entriesOf hN hj ho1 ew9) cf_RX7_107 mi_X7_entriesOf ⟨TX7, 11, rfl⟩ dX7_nextBand_50 rfl (Nat.le_of_ble_eq_true rfl) (Nat.le_of_ble_eq_true rfl) (mk_7_0 hj) rfl rfl (Nat.le_of_ble_eq_true rfl) ?_
      refine r_istore 55 [(5, .int r8), (0, .ref (al 7 j 0)), (1, .ref (al 5 o1 0)), (2, .int x2), (3, .int x3), (4, .int x4)] hk dX7_nextBand_53 rfl hn (by decide) rfl rfl ?_
      refine r_iload 57 hk dX7_nextBand_55 rfl 0 rfl ?_
      refine r_iload_n 58 hk dX7_nextBand_57 rfl 4 rfl rfl ?_
      refine r_icmp_le 67 61 hk dX7_nextBand_58 rfl rfl (fun c10 => ?_) (fun c10 => ?_)
      · have h := if_t c10 h
        obtain ⟨x4_11, ex4_11, h⟩ := lw_e h
        refine r_iinc 70 [(4, .int x4_11), (5, .int r8), (0, .ref (al 7 j 0)), (1, .ref (al 5 o1 0)), (2, .int x2), (3, .int x3)] hk (j := 5) dX7_nextBand_67 rfl hn (by decide) rfl ex4_11 rfl ?_
        refine r_goto 37 hk (x := 0) dX7_nextBand_70 rfl ?_
        refine r_sub [2, 3, 4, 5, 0] rfl ?_
        exact ih _ _ _ _ h
      · have h := if_f c10 h
        refine r_iload 63 hk dX7_nextBand_61 rfl 0 rfl ?_
        refine r_istore_n 64 [(3, .int r8), (5, .int r8), (0, .ref (al 7 j 0)), (1, .ref (al 5 o1 0)), (2, .int x2), (4, .int x4)] hk dX7_nextBand_63 rfl rfl hn (by decide) rfl rfl ?_
        refine r_iload 66 hk dX7_nextBand_64 rfl 5 rfl ?_
        refine r_istore_n 67 [(2, .int x4), (3, .int r8), (5, .int r8), (0, .ref (al 7 j 0)), (1, .ref (al 5 o1 0)), (4, .int x4)] hk dX7_nextBand_66 rfl rfl hn (by decide) rfl rfl ?_
        obtain ⟨x4_12, ex4_12, h⟩ := lw_e h
        refine r_iinc 70 [(4, .int x4_12), (2, .int x4), (3, .int r8), (5, .int r8), (0, .ref (al 7 j 0)), (1, .ref (al 5 o1 0))] hk (j := 5) dX7_nextBand_67 rfl hn (by decide) rfl ex4_12 rfl ?_
        refine r_goto 37 hk (x := 0) dX7_nextBand_70 rfl ?_
        refine r_sub [4, 5, 1, 2, 0] rfl ?_
        exact ih _ _ _ _ h
set_option maxRecDepth 100000 in
set_option maxHeartbeats 4000000 in
theorem kX7_nextBand {l : Launch} {G : Gx} {al : Al} {j : Nat} {o1 : Nat} {w : Wd} {r : Int32} {wz : Wd} (hN : NX G) (hj : j < gN G 7) (ho1 : o1 < gN G 5) (h : fX7_nextBand j o1 w = some (r, wz)) : MC l G yX7_nextBand cX7_nextBand 6 (some (.int)) 3 66 al w [.ref (al 7 j 0), .ref (al 5 o1 0)] (some (.int r)) wz := by
  refine mc_of [(0, .ref (al 7 j 0)), (1, .ref (al 5 o1 0))] (by decide) (Nat.le_of_ble_eq_true rfl) rfl ?_
  intro K hk hR hn hl hG
  subst hl; subst hG
  have hk : VH K RX7 cX7_nextBand 3 66 := hk
  rw [fX7_nextBand.eq_1] at h
  refine r_aload_n 1 hk dX7_nextBand_0 rfl 0 rfl rfl ?_
  refine r_get 4 hk dX7_nextBand_1 rfl ff_RX7_37 (mk_7_0 hj) (gv_7_4 _ _ _) ?_
  refine r_if_ne 10 7 hk dX7_nextBand_4 rfl rfl (fun c1 => ?_) (fun c1 => ?_)
  · have h := if_f c1 h
    refine r_aload_n 11 hk dX7_nextBand_10 rfl 1 rfl rfl ?_
    refine r_get 14 hk dX7_nextBand_11 rfl ff_RX7_104 (mk_5_0 ho1) (gv_5_7 _ _ _) ?_
    refine r_if_eq 30 17 hk dX7_nextBand_14 rfl rfl (fun c2 => ?_) (fun c2 => ?_)
    · have h := if_t c2 h
      refine r_iconst 31 hk dX7_nextBand_30 rfl ci_0 ?_
      refine r_istore_n 32 [(2, .int 0), (0, .ref (al 7 j 0)), (1, .ref (al 5 o1 0))] hk dX7_nextBand_31 rfl rfl hn (by decide) rfl rfl ?_
      refine r_iconst 33 hk dX7_nextBand_32 rfl ci_0 ?_
      refine r_istore_n 34 [(3, .int 0), (2, .int 0), (0, .ref (al 7 j 0)), (1, .ref (al 5 o1 0))] hk dX7_nextBand_33 rfl rfl hn (by decide) rfl rfl ?_
      refine r_iconst 35 hk dX7_nextBand_34 rfl ci_0 ?_
      refine r_istore 37 [(4, .int 0), (3, .int 0), (2, .int 0), (0, .ref (al 7 j 0)), (1, .ref (al 5 o1 0))] hk dX7_nextBand_35 rfl hn (by decide) rfl rfl ?_
      refine r_sub [3, 4, 2, 1, 0] rfl ?_
      exact sX7_nextBand_37 hk hR hn hN hj ho1 _ _ _ _ _ h
    · have h := if_f c2 h
      refine r_aload_n 18 hk dX7_nextBand_17 rfl 1 rfl rfl ?_
      refine r_aload_n 19 hk dX7_nextBand_18 rfl 0 rfl rfl ?_
      refine r_get 22 hk dX7_nextBand_19 rfl ff_RX7_15 (mk_7_0 hj) (gv_7_1 _ _ _) ?_
      refine r_iconst 23 hk dX7_nextBand_22 rfl ci_0 ?_
      obtain ⟨r3, w4, ew4, h⟩ := ob_e h
      refine r_cSi 26 (As := [.ref (al 7 j 2), .int 0]) (rest := [.ref (al 5 o1 0)]) hk (kX9_at hN rfl (mk_7_2 hj) ew4) cf_RX7_74 ms_X9_at dX7_nextBand_23 rfl (Nat.le_of_ble_eq_true rfl) (Nat.le_of_ble_eq_true rfl) rfl rfl (Nat.le_of_ble_eq_true rfl) ?_
      obtain ⟨r5, w6, ew6, h⟩ := ob_e h
      refine r_cVi 29 (As := [.int r3]) (rest := []) hk (kX5_bandHolding hN ho1 ew6) cf_RX7_81 mi_X5_bandHolding ⟨TX5, 8, rfl⟩ dX7_nextBand_26 rfl (Nat.le_of_ble_eq_true rfl) (Nat.le_of_ble_eq_true rfl) (mk_5_0 ho1) rfl rfl (Nat.le_of_ble_eq_true rfl) ?_
      exact r_iret hk hR dX7_nextBand_29 h
  · have h := if_t c1 h
    refine r_bipush 9 hk dX7_nextBand_7 rfl cb_m2 ?_
    exact r_iret hk hR dX7_nextBand_9 h
def fX5_tracksOf (j : Nat) (w : Wd) (x1 : Int32) : Option (Int32 × Wd) :=
  ob (fX9_at 5 j 1 w (x1)) fun r1 w2 =>
  some (r1, w2)
set_option maxRecDepth 100000 in
set_option maxHeartbeats 4000000 in
theorem kX5_tracksOf {l : Launch} {G : Gx} {al : Al} {j : Nat} {w : Wd} {x1 : Int32} {r : Int32} {wz : Wd} (hN : NX G) (hj : j < gN G 5) (h : fX5_tracksOf j w x1 = some (r, wz)) : MC l G yX5_tracksOf cX5_tracksOf 2 (some (.int)) 1 21 al w [.ref (al 5 j 0), .int x1] (some (.int r)) wz := by
  refine mc_of [(0, .ref (al 5 j 0)), (1, .int x1)] (by decide) (Nat.le_of_ble_eq_true rfl) rfl ?_
  intro K hk hR hn hl hG
  subst hl; subst hG
  have hk : VH K RX5 cX5_tracksOf 1 21 := hk
  rw [fX5_tracksOf.eq_1] at h
  refine r_aload_n 1 hk dX5_tracksOf_0 rfl 0 rfl rfl ?_
  refine r_get 4 hk dX5_tracksOf_1 rfl ff_RX5_15 (mk_5_0 hj) (gv_5_1 _ _ _) ?_
  refine r_iload_n 5 hk dX5_tracksOf_4 rfl 1 rfl rfl ?_
  obtain ⟨r1, w2, ew2, h⟩ := ob_e h
  refine r_cSi 8 (As := [.ref (al 5 j 2), .int x1]) (rest := []) hk (kX9_at hN rfl (mk_5_2 hj) ew2) cf_RX5_38 ms_X9_at dX5_tracksOf_5 rfl (Nat.le_of_ble_eq_true rfl) (Nat.le_of_ble_eq_true rfl) rfl rfl (Nat.le_of_ble_eq_true rfl) ?_
  exact r_iret hk hR dX5_tracksOf_8 h
def fX5_stepsOf (j : Nat) (w : Wd) (x1 : Int32) : Option (Int32 × Wd) :=
  ob (fX5_tracksOf j w (x1)) fun r1 w2 =>
  some (((2 * r1) + 2), w2)
set_option maxRecDepth 100000 in
set_option maxHeartbeats 4000000 in
theorem kX5_stepsOf {l : Launch} {G : Gx} {al : Al} {j : Nat} {w : Wd} {x1 : Int32} {r : Int32} {wz : Wd} (hN : NX G) (hj : j < gN G 5) (h : fX5_stepsOf j w x1 = some (r, wz)) : MC l G yX5_stepsOf cX5_stepsOf 2 (some (.int)) 2 42 al w [.ref (al 5 j 0), .int x1] (some (.int r)) wz := by
  refine mc_of [(0, .ref (al 5 j 0)), (1, .int x1)] (by decide) (Nat.le_of_ble_eq_true rfl) rfl ?_
  intro K hk hR hn hl hG
  subst hl; subst hG
  have hk : VH K RX5 cX5_stepsOf 2 42 := hk
  rw [fX5_stepsOf.eq_1] at h
  refine r_iconst 1 hk dX5_stepsOf_0 rfl ci_2 ?_
  refine r_aload_n 2 hk dX5_stepsOf_1 rfl 0 rfl rfl ?_
  refine r_iload_n 3 hk dX5_stepsOf_2 rfl 1 rfl rfl ?_
  obtain ⟨r1, w2, ew2, h⟩ := ob_e h
  refine r_cVi 6 (As := [.int x1]) (rest := [.int 2]) hk (kX5_tracksOf hN hj ew2) cf_RX5_42 mi_X5_tracksOf ⟨TX5, 8, rfl⟩ dX5_stepsOf_3 rfl (Nat.le_of_ble_eq_true rfl) (Nat.le_of_ble_eq_true rfl) (mk_5_0 hj) rfl rfl (Nat.le_of_ble_eq_true rfl) ?_
  refine r_imul 7 hk dX5_stepsOf_6 rfl ?_
  refine r_iconst 8 hk dX5_stepsOf_7 rfl ci_2 ?_
  refine r_iadd 9 hk dX5_stepsOf_8 rfl ?_
  exact r_iret hk hR dX5_stepsOf_9 h
def fX5_firstOf (j : Nat) (w : Wd) (x1 : Int32) : Option (Int32 × Wd) :=
  ob (fX9_at 5 j 0 w (x1)) fun r1 w2 =>
  some (r1, w2)
set_option maxRecDepth 100000 in
set_option maxHeartbeats 4000000 in
theorem kX5_firstOf {l : Launch} {G : Gx} {al : Al} {j : Nat} {w : Wd} {x1 : Int32} {r : Int32} {wz : Wd} (hN : NX G) (hj : j < gN G 5) (h : fX5_firstOf j w x1 = some (r, wz)) : MC l G yX5_firstOf cX5_firstOf 2 (some (.int)) 1 21 al w [.ref (al 5 j 0), .int x1] (some (.int r)) wz := by
  refine mc_of [(0, .ref (al 5 j 0)), (1, .int x1)] (by decide) (Nat.le_of_ble_eq_true rfl) rfl ?_
  intro K hk hR hn hl hG
  subst hl; subst hG
  have hk : VH K RX5 cX5_firstOf 1 21 := hk
  rw [fX5_firstOf.eq_1] at h
  refine r_aload_n 1 hk dX5_firstOf_0 rfl 0 rfl rfl ?_
  refine r_get 4 hk dX5_firstOf_1 rfl ff_RX5_9 (mk_5_0 hj) (gv_5_0 _ _ _) ?_
  refine r_iload_n 5 hk dX5_firstOf_4 rfl 1 rfl rfl ?_
  obtain ⟨r1, w2, ew2, h⟩ := ob_e h
  refine r_cSi 8 (As := [.ref (al 5 j 1), .int x1]) (rest := []) hk (kX9_at hN rfl (mk_5_1 hj) ew2) cf_RX5_38 ms_X9_at dX5_firstOf_5 rfl (Nat.le_of_ble_eq_true rfl) (Nat.le_of_ble_eq_true rfl) rfl rfl (Nat.le_of_ble_eq_true rfl) ?_
  exact r_iret hk hR dX5_firstOf_8 h
def fX7_livePlaceOf_15 (j : Nat) : Nat → Wd → Int32 → Int32 → Option (Int32 × Wd)
  | 0, _, _, _ => none
  | n + 1, w, x1, x2 =>
    if (x2 : Int32) < 0 then
      some ((-1), w)
    else
      ck (inb (x2) 24) <|
      if (((w 7 j).2.1 1 (x2 : Int32).toNatClampNeg) : Int32) = x1 then
        some (x2, w)
      else
        lw (x2 + (-1)) fun x2_5 =>
        fX7_livePlaceOf_15 j n w (x1) (x2_5)
def fX7_livePlaceOf (j : Nat) (w : Wd) (x1 : Int32) : Option (Int32 × Wd) :=
  lw (((if ((nI 24) : Int32) < ((w 7 j).1 4) then (nI 24) else ((w 7 j).1 4)) - 1)) fun x2_1 =>
  fX7_livePlaceOf_15 j fuel0 w (x1) (x2_1)
set_option maxRecDepth 100000 in
set_option maxHeartbeats 4000000 in
theorem sX7_livePlaceOf_15 {K : VC} {al : Al} {r : Int32} {wz : Wd} {j : Nat} (hk : VH K RX7 cX7_livePlaceOf 1 21) (hR : VR K al (some (.int)) (some (.int r)) wz) (hn : kn K = 3) (hN : NX (kG K)) (hj : j < gN (kG K) 7) : ∀ (n : Nat) (w : Wd) (x1 : Int32) (x2 : Int32), fX7_livePlaceOf_15 j n w x1 x2 = some (r, wz) → V K al w 15 [(0, .ref (al 7 j 0)), (1, .int x1), (2, .int x2)] [] := by
  intro n
  induction n with
  | zero => intro w x1 x2 h; cases h
  | succ n ih =>
    intro w x1 x2 h
    rw [fX7_livePlaceOf_15.eq_2] at h
    refine r_iload_n 16 hk dX7_livePlaceOf_15 rfl 2 rfl rfl ?_
    refine r_if_lt 37 19 hk dX7_livePlaceOf_16 rfl rfl (fun c2 => ?_) (fun c2 => ?_)
    · have h := if_t c2 h
      refine r_iconst 38 hk dX7_livePlaceOf_37 rfl ci_m1 ?_
      exact r_iret hk hR dX7_livePlaceOf_38 h
    · have h := if_f c2 h
      refine r_aload_n 20 hk dX7_livePlaceOf_19 rfl 0 rfl rfl ?_
      refine r_get 23 hk dX7_livePlaceOf_20 rfl ff_RX7_15 (mk_7_0 hj) (gv_7_1 _ _ _) ?_
      refine r_iload_n 24 hk dX7_livePlaceOf_23 rfl 2 rfl rfl ?_
      obtain ⟨b3, h⟩ := ck_e h
      refine r_iald 25 hk dX7_livePlaceOf_24 rfl rfl (mk_7_2 hj) rfl b3 ?_
      refine r_iload_n 26 hk dX7_livePlaceOf_25 rfl 1 rfl rfl ?_
      refine r_icmp_ne 31 29 hk dX7_livePlaceOf_26 rfl rfl (fun c4 => ?_) (fun c4 => ?_)
      · have h := if_f c4 h
        obtain ⟨x2_5, ex2_5, h⟩ := lw_e h
        refine r_iinc 34 [(2, .int x2_5), (0, .ref (al 7 j 0)), (1, .int x1)] hk (j := 2) dX7_livePlaceOf_31 rfl hn (by decide) rfl ex2_5 rfl ?_
        refine r_goto 15 hk (x := 0) dX7_livePlaceOf_34 rfl ?_
        refine r_sub [1, 2, 0] rfl ?_
        exact ih _ _ _ h
      · have h := if_t c4 h
        refine r_iload_n 30 hk dX7_livePlaceOf_29 rfl 2 rfl rfl ?_
        exact r_iret hk hR dX7_livePlaceOf_30 h
set_option maxRecDepth 100000 in
set_option maxHeartbeats 4000000 in
theorem kX7_livePlaceOf {l : Launch} {G : Gx} {al : Al} {j : Nat} {w : Wd} {x1 : Int32} {r : Int32} {wz : Wd} (hN : NX G) (hj : j < gN G 7) (h : fX7_livePlaceOf j w x1 = some (r, wz)) : MC l G yX7_livePlaceOf cX7_livePlaceOf 3 (some (.int)) 1 21 al w [.ref (al 7 j 0), .int x1] (some (.int r)) wz := by
  refine mc_of [(0, .ref (al 7 j 0)), (1, .int x1)] (by decide) (Nat.le_of_ble_eq_true rfl) rfl ?_
  intro K hk hR hn hl hG
  subst hl; subst hG
  have hk : VH K RX7 cX7_livePlaceOf 1 21 := hk
  rw [fX7_livePlaceOf.eq_1] at h
  refine r_aload_n 1 hk dX7_livePlaceOf_0 rfl 0 rfl rfl ?_
  refine r_get 4 hk dX7_livePlaceOf_1 rfl ff_RX7_37 (mk_7_0 hj) (gv_7_4 _ _ _) ?_
  refine r_aload_n 5 hk dX7_livePlaceOf_4 rfl 0 rfl rfl ?_
  refine r_get 8 hk dX7_livePlaceOf_5 rfl ff_RX7_15 (mk_7_0 hj) (gv_7_1 _ _ _) ?_
  refine r_alen 9 hk dX7_livePlaceOf_8 rfl (mk_7_2 hj) rfl ?_
  refine r_min 12 hk dX7_livePlaceOf_9 rfl km_RX7_68 (Nat.le_of_ble_eq_true rfl) (Nat.le_of_ble_eq_true rfl) ?_
  refine r_iconst 13 hk dX7_livePlaceOf_12 rfl ci_1 ?_
  refine r_isub 14 hk dX7_livePlaceOf_13 rfl ?_
  obtain ⟨x2_1, ex2_1, h⟩ := lw_e h
  refine r_istore_n 15 [(2, .int x2_1), (0, .ref (al 7 j 0)), (1, .int x1)] hk dX7_livePlaceOf_14 rfl rfl hn (by decide) ex2_1 rfl ?_
  refine r_sub [1, 2, 0] rfl ?_
  exact sX7_livePlaceOf_15 hk hR hn hN hj _ _ _ _ h
def fX7_valueOf (j : Nat) (w : Wd) (x1 : Int32) : Option (Int32 × Wd) :=
  ob (fX7_livePlaceOf j w (x1)) fun r1 w2 =>
  if (r1 : Int32) < 0 then
    ob (fX9_at 7 j 0 w2 (x1)) fun r4 w5 =>
    some (r4, w5)
  else
    ob (fX9_at 7 j 2 w2 (r1)) fun r6 w7 =>
    some (r6, w7)
set_option maxRecDepth 100000 in
set_option maxHeartbeats 4000000 in
theorem kX7_valueOf {l : Launch} {G : Gx} {al : Al} {j : Nat} {w : Wd} {x1 : Int32} {r : Int32} {wz : Wd} (hN : NX G) (hj : j < gN G 7) (h : fX7_valueOf j w x1 = some (r, wz)) : MC l G yX7_valueOf cX7_valueOf 3 (some (.int)) 2 43 al w [.ref (al 7 j 0), .int x1] (some (.int r)) wz := by
  refine mc_of [(0, .ref (al 7 j 0)), (1, .int x1)] (by decide) (Nat.le_of_ble_eq_true rfl) rfl ?_
  intro K hk hR hn hl hG
  subst hl; subst hG
  have hk : VH K RX7 cX7_valueOf 2 43 := hk
  rw [fX7_valueOf.eq_1] at h
  refine r_aload_n 1 hk dX7_valueOf_0 rfl 0 rfl rfl ?_
  refine r_iload_n 2 hk dX7_valueOf_1 rfl 1 rfl rfl ?_
  obtain ⟨r1, w2, ew2, h⟩ := ob_e h
  refine r_cVi 5 (As := [.int x1]) (rest := []) hk (kX7_livePlaceOf hN hj ew2) cf_RX7_78 mi_X7_livePlaceOf ⟨TX7, 11, rfl⟩ dX7_valueOf_2 rfl (Nat.le_of_ble_eq_true rfl) (Nat.le_of_ble_eq_true rfl) (mk_7_0 hj) rfl rfl (Nat.le_of_ble_eq_true rfl) ?_
  refine r_istore_n 6 [(2, .int r1), (0, .ref (al 7 j 0)), (1, .int x1)] hk dX7_valueOf_5 rfl rfl hn (by decide) rfl rfl ?_
  refine r_iload_n 7 hk dX7_valueOf_6 rfl 0 rfl rfl ?_
  refine r_if_lt 21 10 hk dX7_valueOf_7 rfl rfl (fun c3 => ?_) (fun c3 => ?_)
  · have h := if_t c3 h
    refine r_aload_n 22 hk dX7_valueOf_21 rfl 1 rfl rfl ?_
    refine r_get 25 hk dX7_valueOf_22 rfl ff_RX7_9 (mk_7_0 hj) (gv_7_0 _ _ _) ?_
    refine r_iload_n 26 hk dX7_valueOf_25 rfl 2 rfl rfl ?_
    obtain ⟨r4, w5, ew5, h⟩ := ob_e h
    refine r_cSi 29 (As := [.ref (al 7 j 1), .int x1]) (rest := []) hk (kX9_at hN rfl (mk_7_1 hj) ew5) cf_RX7_74 ms_X9_at dX7_valueOf_26 rfl (Nat.le_of_ble_eq_true rfl) (Nat.le_of_ble_eq_true rfl) rfl rfl (Nat.le_of_ble_eq_true rfl) ?_
    exact r_iret hk hR dX7_valueOf_29 h
  · have h := if_f c3 h
    refine r_aload_n 11 hk dX7_valueOf_10 rfl 1 rfl rfl ?_
    refine r_get 14 hk dX7_valueOf_11 rfl ff_RX7_18 (mk_7_0 hj) (gv_7_2 _ _ _) ?_
    refine r_iload_n 15 hk dX7_valueOf_14 rfl 0 rfl rfl ?_
    obtain ⟨r6, w7, ew7, h⟩ := ob_e h
    refine r_cSi 18 (As := [.ref (al 7 j 3), .int r1]) (rest := []) hk (kX9_at hN rfl (mk_7_3 hj) ew7) cf_RX7_74 ms_X9_at dX7_valueOf_15 rfl (Nat.le_of_ble_eq_true rfl) (Nat.le_of_ble_eq_true rfl) rfl rfl (Nat.le_of_ble_eq_true rfl) ?_
    refine r_goto 29 hk (x := 0) dX7_valueOf_18 rfl ?_
    exact r_iret hk hR dX7_valueOf_29 h
def fX7_writeFromJournal_63 (j : Nat) (o1 : Nat) : Nat → Wd → Int32 → Int32 → Int32 → Option (Unit × Wd)
  | 0, _, _, _, _ => none
  | n + 1, w, x3, x4, x5 =>
    if ((x3 + ((w 5 o1).1 5)) : Int32) < x5 then
      lw (sI w 7 j 9 ((((w 7 j).1 9) + 1))) fun w17 =>
      some ((), w17)
    else
      if (x4 : Int32) ≤ x5 then
        lw (sI w 7 j 9 ((((w 7 j).1 9) + 1))) fun w19 =>
        some ((), w19)
      else
        if ((nI 48) : Int32) ≤ x5 then
          lw (sI w 7 j 9 ((((w 7 j).1 9) + 1))) fun w21 =>
          some ((), w21)
        else
          ck (inb (x5) 48) <|
          lw (sA w 7 j 0 (x5 : Int32).toNatClampNeg ((-2))) fun w23 =>
          lw (x5 + 1) fun x5_24 =>
          fX7_writeFromJournal_63 j o1 n w23 (x3) (x4) (x5_24)
def fX7_writeFromJournal (j : Nat) (o1 : Nat) (w : Wd) (x2 : Int32) : Option (Unit × Wd) :=
  ob (fX5_firstOf o1 w (((w 7 j).1 6))) fun r1 w2 =>
  lw ((r1 + x2)) fun x3_3 =>
  ob (fX5_firstOf o1 w2 (((w2 7 j).1 6))) fun r4 w5 =>
  ob (fX5_tracksOf o1 w5 (((w5 7 j).1 6))) fun r6 w7 =>
  lw ((r4 + r6)) fun x4_8 =>
  if (x3_3 : Int32) < 0 then
    some ((), w7)
  else
    if (x3_3 : Int32) < (nI 48) then
      ob (fX9_at 7 j 3 w7 (x2)) fun r11 w12 =>
      ck (inb (x3_3) 48) <|
      lw (sA w12 7 j 0 (x3_3 : Int32).toNatClampNeg (r11)) fun w14 =>
      lw ((x3_3 + 1)) fun x5_15 =>
      fX7_writeFromJournal_63 j o1 fuel0 w14 (x3_3) (x4_8) (x5_15)
    else
      some ((), w7)
set_option maxRecDepth 100000 in
set_option maxHeartbeats 4000000 in
theorem sX7_writeFromJournal_63 {K : VC} {al : Al} {r : Unit} {wz : Wd} {j : Nat} {o1 : Nat} (hk : VH K RX7 cX7_writeFromJournal 2 42) (hR : VR K al none none wz) (hn : kn K = 6) (hN : NX (kG K)) (hj : j < gN (kG K) 7) (ho1 : o1 < gN (kG K) 5) : ∀ (n : Nat) (w : Wd) (x3 : Int32) (x4 : Int32) (x5 : Int32), fX7_writeFromJournal_63 j o1 n w x3 x4 x5 = some (r, wz) → V K al w 63 [(0, .ref (al 7 j 0)), (1, .ref (al 5 o1 0)), (3, .int x3), (4, .int x4), (5, .int x5)] [] := by
  intro n
  induction n with
  | zero => intro w x3 x4 x5 h; cases h
  | succ n ih =>
    intro w x3 x4 x5 h
    rw [fX7_writeFromJournal_63.eq_2] at h
    refine r_iload 65 hk dX7_writeFromJournal_63 rfl 4 rfl ?_
    refine r_iload_n 66 hk dX7_writeFromJournal_65 rfl 2 rfl rfl ?_
    refine r_aload_n 67 hk dX7_writeFromJournal_66 rfl 1 rfl rfl ?_
    refine r_get 70 hk dX7_writeFromJournal_67 rfl ff_RX7_134 (mk_5_0 ho1) (gv_5_5 _ _ _) ?_
    refine r_iadd 71 hk dX7_writeFromJournal_70 rfl ?_
    refine r_icmp_gt 106 74 hk dX7_writeFromJournal_71 rfl rfl (fun c16 => ?_) (fun c16 => ?_)
    · have h := if_t c16 h
      refine r_aload_n 107 hk dX7_writeFromJournal_106 rfl 0 rfl rfl ?_
      refine r_dup 108 hk dX7_writeFromJournal_107 rfl rfl ?_
      refine r_get 111 hk dX7_writeFromJournal_108 rfl ff_RX7_47 (mk_7_0 hj) (gv_7_9 _ _ _) ?_
      refine r_iconst 112 hk dX7_writeFromJournal_111 rfl ci_1 ?_
      refine r_iadd 113 hk dX7_writeFromJournal_112 rfl ?_
      obtain ⟨w17, ew17, h⟩ := lw_e h
      refine r_putI 116 w17 hk dX7_writeFromJournal_113 rfl ff_RX7_47 fi_7_9 (mk_7_0 hj) ew17 ?_
      exact r_vret hk hR dX7_writeFromJournal_116 h
    · have h := if_f c16 h
      refine r_iload 76 hk dX7_writeFromJournal_74 rfl 4 rfl ?_
      refine r_iload 78 hk dX7_writeFromJournal_76 rfl 3 rfl ?_
      refine r_icmp_ge 106 81 hk dX7_writeFromJournal_78 rfl rfl (fun c18 => ?_) (fun c18 => ?_)
      · have h := if_t c18 h
        refine r_aload_n 107 hk dX7_writeFromJournal_106 rfl 0 rfl rfl ?_
        refine r_dup 108 hk dX7_writeFromJournal_107 rfl rfl ?_
        refine r_get 111 hk dX7_writeFromJournal_108 rfl ff_RX7_47 (mk_7_0 hj) (gv_7_9 _ _ _) ?_
        refine r_iconst 112 hk dX7_writeFromJournal_111 rfl ci_1 ?_
        refine r_iadd 113 hk dX7_writeFromJournal_112 rfl ?_
        obtain ⟨w19, ew19, h⟩ := lw_e h
        refine r_putI 116 w19 hk dX7_writeFromJournal_113 rfl ff_RX7_47 fi_7_9 (mk_7_0 hj) ew19 ?_
        exact r_vret hk hR dX7_writeFromJournal_116 h
      · have h := if_f c18 h
        refine r_iload 83 hk dX7_writeFromJournal_81 rfl 4 rfl ?_
        refine r_aload_n 84 hk dX7_writeFromJournal_83 rfl 0 rfl rfl ?_
        refine r_get 87 hk dX7_writeFromJournal_84 rfl ff_RX7_9 (mk_7_0 hj) (gv_7_0 _ _ _) ?_
        refine r_alen 88 hk dX7_writeFromJournal_87 rfl (mk_7_1 hj) rfl ?_
        refine r_icmp_ge 106 91 hk dX7_writeFromJournal_88 rfl rfl (fun c20 => ?_) (fun c20 => ?_)
        · have h := if_t c20 h
          refine r_aload_n 107 hk dX7_writeFromJournal_106 rfl 0 rfl rfl ?_
          refine r_dup 108 hk dX7_writeFromJournal_107 rfl rfl ?_
          refine r_get 111 hk dX7_writeFromJournal_108 rfl ff_RX7_47 (mk_7_0 hj) (gv_7_9 _ _ _) ?_
          refine r_iconst 112 hk dX7_writeFromJournal_111 rfl ci_1 ?_
          refine r_iadd 113 hk dX7_writeFromJournal_112 rfl ?_
          obtain ⟨w21, ew21, h⟩ := lw_e h
          refine r_putI 116 w21 hk dX7_writeFromJournal_113 rfl ff_RX7_47 fi_7_9 (mk_7_0 hj) ew21 ?_
          exact r_vret hk hR dX7_writeFromJournal_116 h
        · have h := if_f c20 h
          refine r_aload_n 92 hk dX7_writeFromJournal_91 rfl 0 rfl rfl ?_
          refine r_get 95 hk dX7_writeFromJournal_92 rfl ff_RX7_9 (mk_7_0 hj) (gv_7_0 _ _ _) ?_
          refine r_iload 97 hk dX7_writeFromJournal_95 rfl 4 rfl ?_
          refine r_bipush 99 hk dX7_writeFromJournal_97 rfl cb_m2 ?_
          obtain ⟨b22, h⟩ := ck_e h
          obtain ⟨w23, ew23, h⟩ := lw_e h
          refine r_iast 100 w23 hk dX7_writeFromJournal_99 rfl rfl (mk_7_1 hj) rfl b22 ew23 ?_
          obtain ⟨x5_24, ex5_24, h⟩ := lw_e h
          refine r_iinc 103 [(5, .int x5_24), (0, .ref (al 7 j 0)), (1, .ref (al 5 o1 0)), (3, .int x3), (4, .int x4)] hk (j := 4) dX7_writeFromJournal_100 rfl hn (by decide) rfl ex5_24 rfl ?_
          refine r_goto 63 hk (x := 0) dX7_writeFromJournal_103 rfl ?_
          refine r_sub [1, 2, 3, 4, 0] rfl ?_
          exact ih _ _ _ _ h
set_option maxRecDepth 100000 in
set_option maxHeartbeats 4000000 in
theorem kX7_writeFromJournal {l : Launch} {G : Gx} {al : Al} {j : Nat} {o1 : Nat} {w : Wd} {x2 : Int32} {r : Unit} {wz : Wd} (hN : NX G) (hj : j < gN G 7) (ho1 : o1 < gN G 5) (h : fX7_writeFromJournal j o1 w x2 = some (r, wz)) : MC l G yX7_writeFromJournal cX7_writeFromJournal 6 none 2 42 al w [.ref (al 7 j 0), .ref (al 5 o1 0), .int x2] none wz := by
  refine mc_of [(0, .ref (al 7 j 0)), (1, .ref (al 5 o1 0)), (2, .int x2)] (by decide) (Nat.le_of_ble_eq_true rfl) rfl ?_
  intro K hk hR hn hl hG
  subst hl; subst hG
  have hk : VH K RX7 cX7_writeFromJournal 2 42 := hk
  rw [fX7_writeFromJournal.eq_1] at h
  refine r_aload_n 1 hk dX7_writeFromJournal_0 rfl 1 rfl rfl ?_
  refine r_aload_n 2 hk dX7_writeFromJournal_1 rfl 0 rfl rfl ?_
  refine r_get 5 hk dX7_writeFromJournal_2 rfl ff_RX7_62 (mk_7_0 hj) (gv_7_6 _ _ _) ?_
  obtain ⟨r1, w2, ew2, h⟩ := ob_e h
  refine r_cVi 8 (As := [.int (((w 7 j).1 6))]) (rest := []) hk (kX5_firstOf hN ho1 ew2) cf_RX7_93 mi_X5_firstOf ⟨TX5, 8, rfl⟩ dX7_writeFromJournal_5 rfl (Nat.le_of_ble_eq_true rfl) (Nat.le_of_ble_eq_true rfl) (mk_5_0 ho1) rfl rfl (Nat.le_of_ble_eq_true rfl) ?_
  refine r_iload_n 9 hk dX7_writeFromJournal_8 rfl 2 rfl rfl ?_
  refine r_iadd 10 hk dX7_writeFromJournal_9 rfl ?_
  obtain ⟨x3_3, ex3_3, h⟩ := lw_e h
  refine r_istore_n 11 [(3, .int x3_3), (0, .ref (al 7 j 0)), (1, .ref (al 5 o1 0)), (2, .int x2)] hk dX7_writeFromJournal_10 rfl rfl hn (by decide) ex3_3 rfl ?_
  refine r_aload_n 12 hk dX7_writeFromJournal_11 rfl 2 rfl rfl ?_
  refine r_aload_n 13 hk dX7_writeFromJournal_12 rfl 1 rfl rfl ?_
  refine r_get 16 hk dX7_writeFromJournal_13 rfl ff_RX7_62 (mk_7_0 hj) (gv_7_6 _ _ _) ?_
  obtain ⟨r4, w5, ew5, h⟩ := ob_e h
  refine r_cVi 19 (As := [.int (((w2 7 j).1 6))]) (rest := []) hk (kX5_firstOf hN ho1 ew5) cf_RX7_93 mi_X5_firstOf ⟨TX5, 8, rfl⟩ dX7_writeFromJournal_16 rfl (Nat.le_of_ble_eq_true rfl) (Nat.le_of_ble_eq_true rfl) (mk_5_0 ho1) rfl rfl (Nat.le_of_ble_eq_true rfl) ?_
  refine r_aload_n 20 hk dX7_writeFromJournal_19 rfl 2 rfl rfl ?_
  refine r_aload_n 21 hk dX7_writeFromJournal_20 rfl 1 rfl rfl ?_
  refine r_get 24 hk dX7_writeFromJournal_21 rfl ff_RX7_62 (mk_7_0 hj) (gv_7_6 _ _ _) ?_
  obtain ⟨r6, w7, ew7, h⟩ := ob_e h
  refine r_cVi 27 (As := [.int (((w5 7 j).1 6))]) (rest := [.int r4]) hk (kX5_tracksOf hN ho1 ew7) cf_RX7_90 mi_X5_tracksOf ⟨TX5, 8, rfl⟩ dX7_writeFromJournal_24 rfl (Nat.le_of_ble_eq_true rfl) (Nat.le_of_ble_eq_true rfl) (mk_5_0 ho1) rfl rfl (Nat.le_of_ble_eq_true rfl) ?_
  refine r_iadd 28 hk dX7_writeFromJournal_27 rfl ?_
  obtain ⟨x4_8, ex4_8, h⟩ := lw_e h
  refine r_istore 30 [(4, .int x4_8), (3, .int x3_3), (0, .ref (al 7 j 0)), (1, .ref (al 5 o1 0)), (2, .int x2)] hk dX7_writeFromJournal_28 rfl hn (by decide) ex4_8 rfl ?_
  refine r_iload_n 31 hk dX7_writeFromJournal_30 rfl 1 rfl rfl ?_
  refine r_if_lt 43 34 hk dX7_writeFromJournal_31 rfl rfl (fun c9 => ?_) (fun c9 => ?_)
  · have h := if_t c9 h
    exact r_vret hk hR dX7_writeFromJournal_43 h
  · have h := if_f c9 h
    refine r_iload_n 35 hk dX7_writeFromJournal_34 rfl 1 rfl rfl ?_
    refine r_aload_n 36 hk dX7_writeFromJournal_35 rfl 2 rfl rfl ?_
    refine r_get 39 hk dX7_writeFromJournal_36 rfl ff_RX7_9 (mk_7_0 hj) (gv_7_0 _ _ _) ?_
    refine r_alen 40 hk dX7_writeFromJournal_39 rfl (mk_7_1 hj) rfl ?_
    refine r_icmp_lt 44 43 hk dX7_writeFromJournal_40 rfl rfl (fun c10 => ?_) (fun c10 => ?_)
    · have h := if_t c10 h
      refine r_aload_n 45 hk dX7_writeFromJournal_44 rfl 2 rfl rfl ?_
      refine r_get 48 hk dX7_writeFromJournal_45 rfl ff_RX7_9 (mk_7_0 hj) (gv_7_0 _ _ _) ?_
      refine r_iload_n 49 hk dX7_writeFromJournal_48 rfl 1 rfl rfl ?_
      refine r_aload_n 50 hk dX7_writeFromJournal_49 rfl 2 rfl rfl ?_
      refine r_get 53 hk dX7_writeFromJournal_50 rfl ff_RX7_21 (mk_7_0 hj) (gv_7_3 _ _ _) ?_
      refine r_iload_n 54 hk dX7_writeFromJournal_53 rfl 4 rfl rfl ?_
      obtain ⟨r11, w12, ew12, h⟩ := ob_e h
      refine r_cSi 57 (As := [.ref (al 7 j 4), .int x2]) (rest := [.int x3_3, .ref (al 7 j 1)]) hk (kX9_at hN rfl (mk_7_4 hj) ew12) cf_RX7_74 ms_X9_at dX7_writeFromJournal_54 rfl (Nat.le_of_ble_eq_true rfl) (Nat.le_of_ble_eq_true rfl) rfl rfl (Nat.le_of_ble_eq_true rfl) ?_
      obtain ⟨b13, h⟩ := ck_e h
      obtain ⟨w14, ew14, h⟩ := lw_e h
      refine r_iast 58 w14 hk dX7_writeFromJournal_57 rfl rfl (mk_7_1 hj) rfl b13 ew14 ?_
      refine r_iload_n 59 hk dX7_writeFromJournal_58 rfl 1 rfl rfl ?_
      refine r_iconst 60 hk dX7_writeFromJournal_59 rfl ci_1 ?_
      refine r_iadd 61 hk dX7_writeFromJournal_60 rfl ?_
      obtain ⟨x5_15, ex5_15, h⟩ := lw_e h
      refine r_istore 63 [(5, .int x5_15), (4, .int x4_8), (3, .int x3_3), (0, .ref (al 7 j 0)), (1, .ref (al 5 o1 0)), (2, .int x2)] hk dX7_writeFromJournal_61 rfl hn (by decide) ex5_15 rfl ?_
      refine r_sub [3, 4, 2, 1, 0] rfl ?_
      exact sX7_writeFromJournal_63 hk hR hn hN hj ho1 _ _ _ _ _ h
    · have h := if_f c10 h
      exact r_vret hk hR dX7_writeFromJournal_43 h
def fX7_dropEntriesOf_5 (j : Nat) (o1 : Nat) : Nat → Wd → Int32 → Int32 → Int32 → Option (Unit × Wd)
  | 0, _, _, _, _ => none
  | n + 1, w, x2, x3, x4 =>
    if (((w 7 j).1 4) : Int32) ≤ x4 then
      lw (sI w 7 j 4 (x3)) fun w2 =>
      some ((), w2)
    else
      if ((nI 24) : Int32) ≤ x4 then
        lw (sI w 7 j 4 (x3)) fun w4 =>
        some ((), w4)
      else
        if ((nI 24) : Int32) ≤ x4 then
          lw (sI w 7 j 4 (x3)) fun w6 =>
          some ((), w6)
        else
          ck (inb (x4) 24) <|
          ob (fX5_bandHolding o1 w (((w 7 j).2.1 1 (x4 : Int32).toNatClampNeg))) fun r8 w9 =>
          if (r8 : Int32) = x2 then
            lw (x4 + 1) fun x4_11 =>
            fX7_dropEntriesOf_5 j o1 n w9 (x2) (x3) (x4_11)
          else
            ck (inb (x4) 24) <|
            ck (inb (x3) 24) <|
            lw (sA w9 7 j 1 (x3 : Int32).toNatClampNeg (((w9 7 j).2.1 1 (x4 : Int32).toNatClampNeg))) fun w14 =>
            ck (inb (x4) 24) <|
            ck (inb (x3) 24) <|
            lw (sA w14 7 j 2 (x3 : Int32).toNatClampNeg (((w14 7 j).2.1 2 (x4 : Int32).toNatClampNeg))) fun w17 =>
            lw (x3 + 1) fun x3_18 =>
            lw (x4 + 1) fun x4_19 =>
            fX7_dropEntriesOf_5 j o1 n w17 (x2) (x3_18) (x4_19)
def fX7_dropEntriesOf (j : Nat) (o1 : Nat) (w : Wd) (x2 : Int32) : Option (Unit × Wd) :=
  fX7_dropEntriesOf_5 j o1 fuel0 w (x2) (0) (0)
set_option maxRecDepth 100000 in
set_option maxHeartbeats 4000000 in
theorem sX7_dropEntriesOf_5 {K : VC} {al : Al} {r : Unit} {wz : Wd} {j : Nat} {o1 : Nat} (hk : VH K RX7 cX7_dropEntriesOf 2 42) (hR : VR K al none none wz) (hn : kn K = 5) (hN : NX (kG K)) (hj : j < gN (kG K) 7) (ho1 : o1 < gN (kG K) 5) : ∀ (n : Nat) (w : Wd) (x2 : Int32) (x3 : Int32) (x4 : Int32), fX7_dropEntriesOf_5 j o1 n w x2 x3 x4 = some (r, wz) → V K al w 5 [(0, .ref (al 7 j 0)), (1, .ref (al 5 o1 0)), (2, .int x2), (3, .int x3), (4, .int x4)] [] := by
  intro n
  induction n with
  | zero => intro w x2 x3 x4 h; cases h
  | succ n ih =>
    intro w x2 x3 x4 h
    rw [fX7_dropEntriesOf_5.eq_2] at h
    refine r_iload 7 hk dX7_dropEntriesOf_5 rfl 4 rfl ?_
    refine r_aload_n 8 hk dX7_dropEntriesOf_7 rfl 0 rfl rfl ?_
    refine r_get 11 hk dX7_dropEntriesOf_8 rfl ff_RX7_37 (mk_7_0 hj) (gv_7_4 _ _ _) ?_
    refine r_icmp_ge 84 14 hk dX7_dropEntriesOf_11 rfl rfl (fun c1 => ?_) (fun c1 => ?_)
    · have h := if_t c1 h
      refine r_aload_n 85 hk dX7_dropEntriesOf_84 rfl 0 rfl rfl ?_
      refine r_iload_n 86 hk dX7_dropEntriesOf_85 rfl 3 rfl rfl ?_
      obtain ⟨w2, ew2, h⟩ := lw_e h
      refine r_putI 89 w2 hk dX7_dropEntriesOf_86 rfl ff_RX7_37 fi_7_4 (mk_7_0 hj) ew2 ?_
      exact r_vret hk hR dX7_dropEntriesOf_89 h
    · have h := if_f c1 h
      refine r_iload 16 hk dX7_dropEntriesOf_14 rfl 4 rfl ?_
      refine r_aload_n 17 hk dX7_dropEntriesOf_16 rfl 0 rfl rfl ?_
      refine r_get 20 hk dX7_dropEntriesOf_17 rfl ff_RX7_15 (mk_7_0 hj) (gv_7_1 _ _ _) ?_
      refine r_alen 21 hk dX7_dropEntriesOf_20 rfl (mk_7_2 hj) rfl ?_
      refine r_icmp_ge 84 24 hk dX7_dropEntriesOf_21 rfl rfl (fun c3 => ?_) (fun c3 => ?_)
      · have h := if_t c3 h
        refine r_aload_n 85 hk dX7_dropEntriesOf_84 rfl 0 rfl rfl ?_
        refine r_iload_n 86 hk dX7_dropEntriesOf_85 rfl 3 rfl rfl ?_
        obtain ⟨w4, ew4, h⟩ := lw_e h
        refine r_putI 89 w4 hk dX7_dropEntriesOf_86 rfl ff_RX7_37 fi_7_4 (mk_7_0 hj) ew4 ?_
        exact r_vret hk hR dX7_dropEntriesOf_89 h
      · have h := if_f c3 h
        refine r_iload 26 hk dX7_dropEntriesOf_24 rfl 4 rfl ?_
        refine r_aload_n 27 hk dX7_dropEntriesOf_26 rfl 0 rfl rfl ?_
        refine r_get 30 hk dX7_dropEntriesOf_27 rfl ff_RX7_18 (mk_7_0 hj) (gv_7_2 _ _ _) ?_
        refine r_alen 31 hk dX7_dropEntriesOf_30 rfl (mk_7_3 hj) rfl ?_
        refine r_icmp_ge 84 34 hk dX7_dropEntriesOf_31 rfl rfl (fun c5 => ?_) (fun c5 => ?_)
        · have h := if_t c5 h
          refine r_aload_n 85 hk dX7_dropEntriesOf_84 rfl 0 rfl rfl ?_
          refine r_iload_n 86 hk dX7_dropEntriesOf_85 rfl 3 rfl rfl ?_
          obtain ⟨w6, ew6, h⟩ := lw_e h
          refine r_putI 89 w6 hk dX7_dropEntriesOf_86 rfl ff_RX7_37 fi_7_4 (mk_7_0 hj) ew6 ?_
          exact r_vret hk hR dX7_dropEntriesOf_89 h
        · have h := if_f c5 h
          refine r_aload_n 35 hk dX7_dropEntriesOf_34 rfl 1 rfl rfl ?_
          refine r_aload_n 36 hk dX7_dropEntriesOf_35 rfl 0 rfl rfl ?_
          refine r_get 39 hk dX7_dropEntriesOf_36 rfl ff_RX7_15 (mk_7_0 hj) (gv_7_1 _ _ _) ?_
          refine r_iload 41 hk dX7_dropEntriesOf_39 rfl 4 rfl ?_
          obtain ⟨b7, h⟩ := ck_e h
          refine r_iald 42 hk dX7_dropEntriesOf_41 rfl rfl (mk_7_2 hj) rfl b7 ?_
          obtain ⟨r8, w9, ew9, h⟩ := ob_e h
          refine r_cVi 45 (As := [.int (((w 7 j).2.1 1 (x4 : Int32).toNatClampNeg))]) (rest := []) hk (kX5_bandHolding hN ho1 ew9) cf_RX7_81 mi_X5_bandHolding ⟨TX5, 8, rfl⟩ dX7_dropEntriesOf_42 rfl (Nat.le_of_ble_eq_true rfl) (Nat.le_of_ble_eq_true rfl) (mk_5_0 ho1) rfl rfl (Nat.le_of_ble_eq_true rfl) ?_
          refine r_iload_n 46 hk dX7_dropEntriesOf_45 rfl 2 rfl rfl ?_
          refine r_icmp_eq 78 49 hk dX7_dropEntriesOf_46 rfl rfl (fun c10 => ?_) (fun c10 => ?_)
          · have h := if_t c10 h
            obtain ⟨x4_11, ex4_11, h⟩ := lw_e h
            refine r_iinc 81 [(4, .int x4_11), (0, .ref (al 7 j 0)), (1, .ref (al 5 o1 0)), (2, .int x2), (3, .int x3)] hk (j := 4) dX7_dropEntriesOf_78 rfl hn (by decide) rfl ex4_11 rfl ?_
            refine r_goto 5 hk (x := 0) dX7_dropEntriesOf_81 rfl ?_
            refine r_sub [1, 2, 3, 4, 0] rfl ?_
            exact ih _ _ _ _ h
          · have h := if_f c10 h
            refine r_aload_n 50 hk dX7_dropEntriesOf_49 rfl 0 rfl rfl ?_
            refine r_get 53 hk dX7_dropEntriesOf_50 rfl ff_RX7_15 (mk_7_0 hj) (gv_7_1 _ _ _) ?_
            refine r_iload_n 54 hk dX7_dropEntriesOf_53 rfl 3 rfl rfl ?_
            refine r_aload_n 55 hk dX7_dropEntriesOf_54 rfl 0 rfl rfl ?_
            refine r_get 58 hk dX7_dropEntriesOf_55 rfl ff_RX7_15 (mk_7_0 hj) (gv_7_1 _ _ _) ?_
            refine r_iload 60 hk dX7_dropEntriesOf_58 rfl 4 rfl ?_
            obtain ⟨b12, h⟩ := ck_e h
            refine r_iald 61 hk dX7_dropEntriesOf_60 rfl rfl (mk_7_2 hj) rfl b12 ?_
            obtain ⟨b13, h⟩ := ck_e h
            obtain ⟨w14, ew14, h⟩ := lw_e h
            refine r_iast 62 w14 hk dX7_dropEntriesOf_61 rfl rfl (mk_7_2 hj) rfl b13 ew14 ?_
            refine r_aload_n 63 hk dX7_dropEntriesOf_62 rfl 0 rfl rfl ?_
            refine r_get 66 hk dX7_dropEntriesOf_63 rfl ff_RX7_18 (mk_7_0 hj) (gv_7_2 _ _ _) ?_
            refine r_iload_n 67 hk dX7_dropEntriesOf_66 rfl 3 rfl rfl ?_
            refine r_aload_n 68 hk dX7_dropEntriesOf_67 rfl 0 rfl rfl ?_
            refine r_get 71 hk dX7_dropEntriesOf_68 rfl ff_RX7_18 (mk_7_0 hj) (gv_7_2 _ _ _) ?_
            refine r_iload 73 hk dX7_dropEntriesOf_71 rfl 4 rfl ?_
            obtain ⟨b15, h⟩ := ck_e h
            refine r_iald 74 hk dX7_dropEntriesOf_73 rfl rfl (mk_7_3 hj) rfl b15 ?_
            obtain ⟨b16, h⟩ := ck_e h
            obtain ⟨w17, ew17, h⟩ := lw_e h
            refine r_iast 75 w17 hk dX7_dropEntriesOf_74 rfl rfl (mk_7_3 hj) rfl b16 ew17 ?_
            obtain ⟨x3_18, ex3_18, h⟩ := lw_e h
            refine r_iinc 78 [(3, .int x3_18), (0, .ref (al 7 j 0)), (1, .ref (al 5 o1 0)), (2, .int x2), (4, .int x4)] hk (j := 3) dX7_dropEntriesOf_75 rfl hn (by decide) rfl ex3_18 rfl ?_
            obtain ⟨x4_19, ex4_19, h⟩ := lw_e h
            refine r_iinc 81 [(4, .int x4_19), (3, .int x3_18), (0, .ref (al 7 j 0)), (1, .ref (al 5 o1 0)), (2, .int x2)] hk (j := 4) dX7_dropEntriesOf_78 rfl hn (by decide) rfl ex4_19 rfl ?_
            refine r_goto 5 hk (x := 0) dX7_dropEntriesOf_81 rfl ?_
            refine r_sub [2, 3, 4, 1, 0] rfl ?_
            exact ih _ _ _ _ h
set_option maxRecDepth 100000 in
set_option maxHeartbeats 4000000 in
theorem kX7_dropEntriesOf {l : Launch} {G : Gx} {al : Al} {j : Nat} {o1 : Nat} {w : Wd} {x2 : Int32} {r : Unit} {wz : Wd} (hN : NX G) (hj : j < gN G 7) (ho1 : o1 < gN G 5) (h : fX7_dropEntriesOf j o1 w x2 = some (r, wz)) : MC l G yX7_dropEntriesOf cX7_dropEntriesOf 5 none 2 42 al w [.ref (al 7 j 0), .ref (al 5 o1 0), .int x2] none wz := by
  refine mc_of [(0, .ref (al 7 j 0)), (1, .ref (al 5 o1 0)), (2, .int x2)] (by decide) (Nat.le_of_ble_eq_true rfl) rfl ?_
  intro K hk hR hn hl hG
  subst hl; subst hG
  have hk : VH K RX7 cX7_dropEntriesOf 2 42 := hk
  rw [fX7_dropEntriesOf.eq_1] at h
  refine r_iconst 1 hk dX7_dropEntriesOf_0 rfl ci_0 ?_
  refine r_istore_n 2 [(3, .int 0), (0, .ref (al 7 j 0)), (1, .ref (al 5 o1 0)), (2, .int x2)] hk dX7_dropEntriesOf_1 rfl rfl hn (by decide) rfl rfl ?_
  refine r_iconst 3 hk dX7_dropEntriesOf_2 rfl ci_0 ?_
  refine r_istore 5 [(4, .int 0), (3, .int 0), (0, .ref (al 7 j 0)), (1, .ref (al 5 o1 0)), (2, .int x2)] hk dX7_dropEntriesOf_3 rfl hn (by decide) rfl rfl ?_
  refine r_sub [2, 3, 4, 1, 0] rfl ?_
  exact sX7_dropEntriesOf_5 hk hR hn hN hj ho1 _ _ _ _ _ h
def fX7_emptyJournal (j : Nat) (w : Wd) : Option (Unit × Wd) :=
  lw (sI w 7 j 5 (0)) fun w1 =>
  lw (sI w1 7 j 6 ((-1))) fun w2 =>
  lw (sI w2 7 j 7 (0)) fun w3 =>
  some ((), w3)
set_option maxRecDepth 100000 in
set_option maxHeartbeats 4000000 in
theorem kX7_emptyJournal {l : Launch} {G : Gx} {al : Al} {j : Nat} {w : Wd} {r : Unit} {wz : Wd} (hN : NX G) (hj : j < gN G 7) (h : fX7_emptyJournal j w = some (r, wz)) : MC l G yX7_emptyJournal cX7_emptyJournal 1 none 0 0 al w [.ref (al 7 j 0)] none wz := by
  refine mc_of [(0, .ref (al 7 j 0))] (by decide) (Nat.le_of_ble_eq_true rfl) rfl ?_
  intro K hk hR hn hl hG
  subst hl; subst hG
  have hk : VH K RX7 cX7_emptyJournal 0 0 := hk
  rw [fX7_emptyJournal.eq_1] at h
  refine r_aload_n 1 hk dX7_emptyJournal_0 rfl 0 rfl rfl ?_
  refine r_iconst 2 hk dX7_emptyJournal_1 rfl ci_0 ?_
  obtain ⟨w1, ew1, h⟩ := lw_e h
  refine r_putI 5 w1 hk dX7_emptyJournal_2 rfl ff_RX7_59 fi_7_5 (mk_7_0 hj) ew1 ?_
  refine r_aload_n 6 hk dX7_emptyJournal_5 rfl 0 rfl rfl ?_
  refine r_iconst 7 hk dX7_emptyJournal_6 rfl ci_m1 ?_
  obtain ⟨w2, ew2, h⟩ := lw_e h
  refine r_putI 10 w2 hk dX7_emptyJournal_7 rfl ff_RX7_62 fi_7_6 (mk_7_0 hj) ew2 ?_
  refine r_aload_n 11 hk dX7_emptyJournal_10 rfl 0 rfl rfl ?_
  refine r_iconst 12 hk dX7_emptyJournal_11 rfl ci_0 ?_
  obtain ⟨w3, ew3, h⟩ := lw_e h
  refine r_putZ 15 w3 hk dX7_emptyJournal_12 rfl ff_RX7_65 fi_7_7 (by decide) (mk_7_0 hj) ew3 ?_
  exact r_vret hk hR dX7_emptyJournal_15 h
def fX7_doSteps_130 (j : Nat) (o1 : Nat) (w : Wd) (x2 : Int32) (x3 : Int32) : Option (Unit × Wd) :=
    ob (fX5_stepsOf o1 w (x2)) fun r24 w25 =>
    if (x3 : Int32) < r24 then
      some ((), w25)
    else
      ob (fX7_dropEntriesOf j o1 w25 (x2)) fun _ w28 =>
      ob (fX7_emptyJournal j w28 ) fun _ w30 =>
      some ((), w30)
def fX7_doSteps_99 (j : Nat) (o1 : Nat) : Nat → Wd → Int32 → Int32 → Int32 → Int32 → Option (Unit × Wd)
  | 0, _, _, _, _, _ => none
  | n + 1, w, x2, x3, x4, x5 =>
    if (x4 : Int32) ≤ x5 then
      fX7_doSteps_130 j o1 w (x2) (x3)
    else
      if (((x3 - x4) - 1) : Int32) ≤ x5 then
        fX7_doSteps_130 j o1 w (x2) (x3)
      else
        ob (fX7_writeFromJournal j o1 w (x5)) fun _ w22 =>
        lw (x5 + 1) fun x5_23 =>
        fX7_doSteps_99 j o1 n w22 (x2) (x3) (x4) (x5_23)
def fX7_doSteps_81 (j : Nat) (o1 : Nat) (w : Wd) (x2 : Int32) (x3 : Int32) (x4 : Int32) : Option (Unit × Wd) :=
    if (x3 : Int32) ≤ x4 then
      lw (sI w 7 j 7 (0)) fun w17 =>
      fX7_doSteps_99 j o1 fuel0 w17 (x2) (x3) (x4) (0)
    else
      lw (sI w 7 j 7 (1)) fun w18 =>
      fX7_doSteps_99 j o1 fuel0 w18 (x2) (x3) (x4) (0)
def fX7_doSteps_15 (j : Nat) (o1 : Nat) : Nat → Wd → Int32 → Int32 → Int32 → Int32 → Option (Unit × Wd)
  | 0, _, _, _, _, _ => none
  | n + 1, w, x2, x3, x4, x5 =>
    if (x4 : Int32) ≤ x5 then
      fX7_doSteps_81 j o1 w (x2) (x3) (x4)
    else
      if (x3 : Int32) ≤ x5 then
        fX7_doSteps_81 j o1 w (x2) (x3) (x4)
      else
        if ((nI 8) : Int32) ≤ x5 then
          fX7_doSteps_81 j o1 w (x2) (x3) (x4)
        else
          ob (fX5_firstOf o1 w (x2)) fun r7 w8 =>
          ob (fX7_valueOf j w8 ((r7 + x5))) fun r9 w10 =>
          ck (inb (x5) 8) <|
          lw (sA w10 7 j 3 (x5 : Int32).toNatClampNeg (r9)) fun w12 =>
          lw (sI w12 7 j 5 ((x5 + 1))) fun w13 =>
          lw (sI w13 7 j 9 ((((w13 7 j).1 9) + 1))) fun w14 =>
          lw (x5 + 1) fun x5_15 =>
          fX7_doSteps_15 j o1 n w14 (x2) (x3) (x4) (x5_15)
def fX7_doSteps (j : Nat) (o1 : Nat) (w : Wd) (x2 : Int32) (x3 : Int32) : Option (Unit × Wd) :=
  ob (fX5_tracksOf o1 w (x2)) fun r1 w2 =>
  lw (sI w2 7 j 6 (x2)) fun w3 =>
  fX7_doSteps_15 j o1 fuel0 w3 (x2) (x3) (r1) (0)
set_option maxRecDepth 100000 in
set_option maxHeartbeats 4000000 in
theorem sX7_doSteps_130 {K : VC} {al : Al} {r : Unit} {wz : Wd} {j : Nat} {o1 : Nat} (hk : VH K RX7 cX7_doSteps 3 67) (hR : VR K al none none wz) (hn : kn K = 6) (hN : NX (kG K)) (hj : j < gN (kG K) 7) (ho1 : o1 < gN (kG K) 5) (w : Wd) (x2 : Int32) (x3 : Int32) (h : fX7_doSteps_130 j o1 w x2 x3 = some (r, wz)) : V K al w 130 [(0, .ref (al 7 j 0)), (1, .ref (al 5 o1 0)), (2, .int x2), (3, .int x3)] [] := by
  rw [fX7_doSteps_130.eq_1] at h
  refine r_iload_n 131 hk dX7_doSteps_130 rfl 3 rfl rfl ?_
  refine r_aload_n 132 hk dX7_doSteps_131 rfl 1 rfl rfl ?_
  refine r_iload_n 133 hk dX7_doSteps_132 rfl 2 rfl rfl ?_
  obtain ⟨r24, w25, ew25, h⟩ := ob_e h
  refine r_cVi 136 (As := [.int x2]) (rest := [.int x3]) hk (kX5_stepsOf hN ho1 ew25) cf_RX7_117 mi_X5_stepsOf ⟨TX5, 8, rfl⟩ dX7_doSteps_133 rfl (Nat.le_of_ble_eq_true rfl) (Nat.le_of_ble_eq_true rfl) (mk_5_0 ho1) rfl rfl (Nat.le_of_ble_eq_true rfl) ?_
  refine r_icmp_lt 149 139 hk dX7_doSteps_136 rfl rfl (fun c26 => ?_) (fun c26 => ?_)
  · have h := if_t c26 h
    exact r_vret hk hR dX7_doSteps_149 h
  · have h := if_f c26 h
    refine r_aload_n 140 hk dX7_doSteps_139 rfl 0 rfl rfl ?_
    refine r_aload_n 141 hk dX7_doSteps_140 rfl 1 rfl rfl ?_
    refine r_iload_n 142 hk dX7_doSteps_141 rfl 2 rfl rfl ?_
    obtain ⟨r27, w28, ew28, h⟩ := ob_e h
    refine r_cVv 145 (As := [.ref (al 5 o1 0), .int x2]) (rest := []) hk (kX7_dropEntriesOf hN hj ho1 ew28) cf_RX7_131 mi_X7_dropEntriesOf ⟨TX7, 11, rfl⟩ dX7_doSteps_142 rfl (Nat.le_of_ble_eq_true rfl) (Nat.le_of_ble_eq_true rfl) (mk_7_0 hj) rfl rfl (Nat.le_of_ble_eq_true rfl) ?_
    refine r_aload_n 146 hk dX7_doSteps_145 rfl 0 rfl rfl ?_
    obtain ⟨r29, w30, ew30, h⟩ := ob_e h
    refine r_cVv 149 (As := []) (rest := []) hk (kX7_emptyJournal hN hj ew30) cf_RX7_40 mi_X7_emptyJournal ⟨TX7, 11, rfl⟩ dX7_doSteps_146 rfl (Nat.le_of_ble_eq_true rfl) (Nat.le_of_ble_eq_true rfl) (mk_7_0 hj) rfl rfl (Nat.le_of_ble_eq_true rfl) ?_
    exact r_vret hk hR dX7_doSteps_149 h
set_option maxRecDepth 100000 in
set_option maxHeartbeats 4000000 in
theorem sX7_doSteps_99 {K : VC} {al : Al} {r : Unit} {wz : Wd} {j : Nat} {o1 : Nat} (hk : VH K RX7 cX7_doSteps 3 67) (hR : VR K al none none wz) (hn : kn K = 6) (hN : NX (kG K)) (hj : j < gN (kG K) 7) (ho1 : o1 < gN (kG K) 5) : ∀ (n : Nat) (w : Wd) (x2 : Int32) (x3 : Int32) (x4 : Int32) (x5 : Int32), fX7_doSteps_99 j o1 n w x2 x3 x4 x5 = some (r, wz) → V K al w 99 [(0, .ref (al 7 j 0)), (1, .ref (al 5 o1 0)), (2, .int x2), (3, .int x3), (4, .int x4), (5, .int x5)] [] := by
  intro n
  induction n with
  | zero => intro w x2 x3 x4 x5 h; cases h
  | succ n ih =>
    intro w x2 x3 x4 x5 h
    rw [fX7_doSteps_99.eq_2] at h
    refine r_iload 101 hk dX7_doSteps_99 rfl 5 rfl ?_
    refine r_iload 103 hk dX7_doSteps_101 rfl 4 rfl ?_
    refine r_icmp_ge 130 106 hk dX7_doSteps_103 rfl rfl (fun c19 => ?_) (fun c19 => ?_)
    · have h := if_t c19 h
      refine r_sub [0, 1, 2, 3] rfl ?_
      exact sX7_doSteps_130 hk hR hn hN hj ho1 _ _ _ h
    · have h := if_f c19 h
      refine r_iload 108 hk dX7_doSteps_106 rfl 5 rfl ?_
      refine r_iload_n 109 hk dX7_doSteps_108 rfl 3 rfl rfl ?_
      refine r_iload 111 hk dX7_doSteps_109 rfl 4 rfl ?_
      refine r_isub 112 hk dX7_doSteps_111 rfl ?_
      refine r_iconst 113 hk dX7_doSteps_112 rfl ci_1 ?_
      refine r_isub 114 hk dX7_doSteps_113 rfl ?_
      refine r_icmp_ge 130 117 hk dX7_doSteps_114 rfl rfl (fun c20 => ?_) (fun c20 => ?_)
      · have h := if_t c20 h
        refine r_sub [0, 1, 2, 3] rfl ?_
        exact sX7_doSteps_130 hk hR hn hN hj ho1 _ _ _ h
      · have h := if_f c20 h
        refine r_aload_n 118 hk dX7_doSteps_117 rfl 0 rfl rfl ?_
        refine r_aload_n 119 hk dX7_doSteps_118 rfl 1 rfl rfl ?_
        refine r_iload 121 hk dX7_doSteps_119 rfl 5 rfl ?_
        obtain ⟨r21, w22, ew22, h⟩ := ob_e h
        refine r_cVv 124 (As := [.ref (al 5 o1 0), .int x5]) (rest := []) hk (kX7_writeFromJournal hN hj ho1 ew22) cf_RX7_127 mi_X7_writeFromJournal ⟨TX7, 11, rfl⟩ dX7_doSteps_121 rfl (Nat.le_of_ble_eq_true rfl) (Nat.le_of_ble_eq_true rfl) (mk_7_0 hj) rfl rfl (Nat.le_of_ble_eq_true rfl) ?_
        obtain ⟨x5_23, ex5_23, h⟩ := lw_e h
        refine r_iinc 127 [(5, .int x5_23), (0, .ref (al 7 j 0)), (1, .ref (al 5 o1 0)), (2, .int x2), (3, .int x3), (4, .int x4)] hk (j := 5) dX7_doSteps_124 rfl hn (by decide) rfl ex5_23 rfl ?_
        refine r_goto 99 hk (x := 0) dX7_doSteps_127 rfl ?_
        refine r_sub [1, 2, 3, 4, 5, 0] rfl ?_
        exact ih _ _ _ _ _ h
set_option maxRecDepth 100000 in
set_option maxHeartbeats 4000000 in
theorem sX7_doSteps_81 {K : VC} {al : Al} {r : Unit} {wz : Wd} {j : Nat} {o1 : Nat} (hk : VH K RX7 cX7_doSteps 3 67) (hR : VR K al none none wz) (hn : kn K = 6) (hN : NX (kG K)) (hj : j < gN (kG K) 7) (ho1 : o1 < gN (kG K) 5) (w : Wd) (x2 : Int32) (x3 : Int32) (x4 : Int32) (h : fX7_doSteps_81 j o1 w x2 x3 x4 = some (r, wz)) : V K al w 81 [(0, .ref (al 7 j 0)), (1, .ref (al 5 o1 0)), (2, .int x2), (3, .int x3), (4, .int x4)] [] := by
  rw [fX7_doSteps_81.eq_1] at h
  refine r_aload_n 82 hk dX7_doSteps_81 rfl 0 rfl rfl ?_
  refine r_iload_n 83 hk dX7_doSteps_82 rfl 3 rfl rfl ?_
  refine r_iload 85 hk dX7_doSteps_83 rfl 4 rfl ?_
  refine r_icmp_le 92 88 hk dX7_doSteps_85 rfl rfl (fun c16 => ?_) (fun c16 => ?_)
  · have h := if_t c16 h
    refine r_iconst 93 hk dX7_doSteps_92 rfl ci_0 ?_
    obtain ⟨w17, ew17, h⟩ := lw_e h
    refine r_putZ 96 w17 hk dX7_doSteps_93 rfl ff_RX7_65 fi_7_7 (by decide) (mk_7_0 hj) ew17 ?_
    refine r_iconst 97 hk dX7_doSteps_96 rfl ci_0 ?_
    refine r_istore 99 [(5, .int 0), (0, .ref (al 7 j 0)), (1, .ref (al 5 o1 0)), (2, .int x2), (3, .int x3), (4, .int x4)] hk dX7_doSteps_97 rfl hn (by decide) rfl rfl ?_
    refine r_sub [1, 2, 3, 4, 5, 0] rfl ?_
    exact sX7_doSteps_99 hk hR hn hN hj ho1 _ _ _ _ _ _ h
  · have h := if_f c16 h
    refine r_iconst 89 hk dX7_doSteps_88 rfl ci_1 ?_
    refine r_goto 93 hk (x := 0) dX7_doSteps_89 rfl ?_
    obtain ⟨w18, ew18, h⟩ := lw_e h
    refine r_putZ 96 w18 hk dX7_doSteps_93 rfl ff_RX7_65 fi_7_7 (by decide) (mk_7_0 hj) ew18 ?_
    refine r_iconst 97 hk dX7_doSteps_96 rfl ci_0 ?_
    refine r_istore 99 [(5, .int 0), (0, .ref (al 7 j 0)), (1, .ref (al 5 o1 0)), (2, .int x2), (3, .int x3), (4, .int x4)] hk dX7_doSteps_97 rfl hn (by decide) rfl rfl ?_
    refine r_sub [1, 2, 3, 4, 5, 0] rfl ?_
    exact sX7_doSteps_99 hk hR hn hN hj ho1 _ _ _ _ _ _ h
set_option maxRecDepth 100000 in
set_option maxHeartbeats 4000000 in
theorem sX7_doSteps_15 {K : VC} {al : Al} {r : Unit} {wz : Wd} {j : Nat} {o1 : Nat} (hk : VH K RX7 cX7_doSteps 3 67) (hR : VR K al none none wz) (hn : kn K = 6) (hN : NX (kG K)) (hj : j < gN (kG K) 7) (ho1 : o1 < gN (kG K) 5) : ∀ (n : Nat) (w : Wd) (x2 : Int32) (x3 : Int32) (x4 : Int32) (x5 : Int32), fX7_doSteps_15 j o1 n w x2 x3 x4 x5 = some (r, wz) → V K al w 15 [(0, .ref (al 7 j 0)), (1, .ref (al 5 o1 0)), (2, .int x2), (3, .int x3), (4, .int x4), (5, .int x5)] [] := by
  intro n
  induction n with
  | zero => intro w x2 x3 x4 x5 h; cases h
  | succ n ih =>
    intro w x2 x3 x4 x5 h
    rw [fX7_doSteps_15.eq_2] at h
    refine r_iload 17 hk dX7_doSteps_15 rfl 5 rfl ?_
    refine r_iload 19 hk dX7_doSteps_17 rfl 4 rfl ?_
    refine r_icmp_ge 81 22 hk dX7_doSteps_19 rfl rfl (fun c4 => ?_) (fun c4 => ?_)
    · have h := if_t c4 h
      refine r_sub [0, 1, 2, 3, 4] rfl ?_
      exact sX7_doSteps_81 hk hR hn hN hj ho1 _ _ _ _ h
    · have h := if_f c4 h
      refine r_iload 24 hk dX7_doSteps_22 rfl 5 rfl ?_
      refine r_iload_n 25 hk dX7_doSteps_24 rfl 3 rfl rfl ?_
      refine r_icmp_ge 81 28 hk dX7_doSteps_25 rfl rfl (fun c5 => ?_) (fun c5 => ?_)
      · have h := if_t c5 h
        refine r_sub [0, 1, 2, 3, 4] rfl ?_
        exact sX7_doSteps_81 hk hR hn hN hj ho1 _ _ _ _ h
      · have h := if_f c5 h
        refine r_iload 30 hk dX7_doSteps_28 rfl 5 rfl ?_
        refine r_aload_n 31 hk dX7_doSteps_30 rfl 0 rfl rfl ?_
        refine r_get 34 hk dX7_doSteps_31 rfl ff_RX7_21 (mk_7_0 hj) (gv_7_3 _ _ _) ?_
        refine r_alen 35 hk dX7_doSteps_34 rfl (mk_7_4 hj) rfl ?_
        refine r_icmp_ge 81 38 hk dX7_doSteps_35 rfl rfl (fun c6 => ?_) (fun c6 => ?_)
        · have h := if_t c6 h
          refine r_sub [0, 1, 2, 3, 4] rfl ?_
          exact sX7_doSteps_81 hk hR hn hN hj ho1 _ _ _ _ h
        · have h := if_f c6 h
          refine r_aload_n 39 hk dX7_doSteps_38 rfl 0 rfl rfl ?_
          refine r_get 42 hk dX7_doSteps_39 rfl ff_RX7_21 (mk_7_0 hj) (gv_7_3 _ _ _) ?_
          refine r_iload 44 hk dX7_doSteps_42 rfl 5 rfl ?_
          refine r_aload_n 45 hk dX7_doSteps_44 rfl 0 rfl rfl ?_
          refine r_aload_n 46 hk dX7_doSteps_45 rfl 1 rfl rfl ?_
          refine r_iload_n 47 hk dX7_doSteps_46 rfl 2 rfl rfl ?_
          obtain ⟨r7, w8, ew8, h⟩ := ob_e h
          refine r_cVi 50 (As := [.int x2]) (rest := [.ref (al 7 j 0), .int x5, .ref (al 7 j 4)]) hk (kX5_firstOf hN ho1 ew8) cf_RX7_93 mi_X5_firstOf ⟨TX5, 8, rfl⟩ dX7_doSteps_47 rfl (Nat.le_of_ble_eq_true rfl) (Nat.le_of_ble_eq_true rfl) (mk_5_0 ho1) rfl rfl (Nat.le_of_ble_eq_true rfl) ?_
          refine r_iload 52 hk dX7_doSteps_50 rfl 5 rfl ?_
          refine r_iadd 53 hk dX7_doSteps_52 rfl ?_
          obtain ⟨r9, w10, ew10, h⟩ := ob_e h
          refine r_cVi 56 (As := [.int ((r7 + x5))]) (rest := [.int x5, .ref (al 7 j 4)]) hk (kX7_valueOf hN hj ew10) cf_RX7_124 mi_X7_valueOf ⟨TX7, 11, rfl⟩ dX7_doSteps_53 rfl (Nat.le_of_ble_eq_true rfl) (Nat.le_of_ble_eq_true rfl) (mk_7_0 hj) rfl rfl (Nat.le_of_ble_eq_true rfl) ?_
          obtain ⟨b11, h⟩ := ck_e h
          obtain ⟨w12, ew12, h⟩ := lw_e h
          refine r_iast 57 w12 hk dX7_doSteps_56 rfl rfl (mk_7_4 hj) rfl b11 ew12 ?_
          refine r_aload_n 58 hk dX7_doSteps_57 rfl 0 rfl rfl ?_
          refine r_iload 60 hk dX7_doSteps_58 rfl 5 rfl ?_
          refine r_iconst 61 hk dX7_doSteps_60 rfl ci_1 ?_
          refine r_iadd 62 hk dX7_doSteps_61 rfl ?_
          obtain ⟨w13, ew13, h⟩ := lw_e h
          refine r_putI 65 w13 hk dX7_doSteps_62 rfl ff_RX7_59 fi_7_5 (mk_7_0 hj) ew13 ?_
          refine r_aload_n 66 hk dX7_doSteps_65 rfl 0 rfl rfl ?_
          refine r_dup 67 hk dX7_doSteps_66 rfl rfl ?_
          refine r_get 70 hk dX7_doSteps_67 rfl ff_RX7_47 (mk_7_0 hj) (gv_7_9 _ _ _) ?_
          refine r_iconst 71 hk dX7_doSteps_70 rfl ci_1 ?_
          refine r_iadd 72 hk dX7_doSteps_71 rfl ?_
          obtain ⟨w14, ew14, h⟩ := lw_e h
          refine r_putI 75 w14 hk dX7_doSteps_72 rfl ff_RX7_47 fi_7_9 (mk_7_0 hj) ew14 ?_
          obtain ⟨x5_15, ex5_15, h⟩ := lw_e h
          refine r_iinc 78 [(5, .int x5_15), (0, .ref (al 7 j 0)), (1, .ref (al 5 o1 0)), (2, .int x2), (3, .int x3), (4, .int x4)] hk (j := 5) dX7_doSteps_75 rfl hn (by decide) rfl ex5_15 rfl ?_
          refine r_goto 15 hk (x := 0) dX7_doSteps_78 rfl ?_
          refine r_sub [1, 2, 3, 4, 5, 0] rfl ?_
          exact ih _ _ _ _ _ h
set_option maxRecDepth 100000 in
set_option maxHeartbeats 4000000 in
theorem kX7_doSteps {l : Launch} {G : Gx} {al : Al} {j : Nat} {o1 : Nat} {w : Wd} {x2 : Int32} {x3 : Int32} {r : Unit} {wz : Wd} (hN : NX G) (hj : j < gN G 7) (ho1 : o1 < gN G 5) (h : fX7_doSteps j o1 w x2 x3 = some (r, wz)) : MC l G yX7_doSteps cX7_doSteps 6 none 3 67 al w [.ref (al 7 j 0), .ref (al 5 o1 0), .int x2, .int x3] none wz := by
  refine mc_of [(0, .ref (al 7 j 0)), (1, .ref (al 5 o1 0)), (2, .int x2), (3, .int x3)] (by decide) (Nat.le_of_ble_eq_true rfl) rfl ?_
  intro K hk hR hn hl hG
  subst hl; subst hG
  have hk : VH K RX7 cX7_doSteps 3 67 := hk
  rw [fX7_doSteps.eq_1] at h
  refine r_aload_n 1 hk dX7_doSteps_0 rfl 1 rfl rfl ?_
  refine r_iload_n 2 hk dX7_doSteps_1 rfl 2 rfl rfl ?_
  obtain ⟨r1, w2, ew2, h⟩ := ob_e h
  refine r_cVi 5 (As := [.int x2]) (rest := []) hk (kX5_tracksOf hN ho1 ew2) cf_RX7_90 mi_X5_tracksOf ⟨TX5, 8, rfl⟩ dX7_doSteps_2 rfl (Nat.le_of_ble_eq_true rfl) (Nat.le_of_ble_eq_true rfl) (mk_5_0 ho1) rfl rfl (Nat.le_of_ble_eq_true rfl) ?_
  refine r_istore 7 [(4, .int r1), (0, .ref (al 7 j 0)), (1, .ref (al 5 o1 0)), (2, .int x2), (3, .int x3)] hk dX7_doSteps_5 rfl hn (by decide) rfl rfl ?_
  refine r_aload_n 8 hk dX7_doSteps_7 rfl 1 rfl rfl ?_
  refine r_iload_n 9 hk dX7_doSteps_8 rfl 3 rfl rfl ?_
  obtain ⟨w3, ew3, h⟩ := lw_e h
  refine r_putI 12 w3 hk dX7_doSteps_9 rfl ff_RX7_62 fi_7_6 (mk_7_0 hj) ew3 ?_
  refine r_iconst 13 hk dX7_doSteps_12 rfl ci_0 ?_
  refine r_istore 15 [(5, .int 0), (4, .int r1), (0, .ref (al 7 j 0)), (1, .ref (al 5 o1 0)), (2, .int x2), (3, .int x3)] hk dX7_doSteps_13 rfl hn (by decide) rfl rfl ?_
  refine r_sub [2, 3, 4, 5, 1, 0] rfl ?_
  exact sX7_doSteps_15 hk hR hn hN hj ho1 _ _ _ _ _ _ h
def fX7_addEntry_41 (j : Nat) (o1 : Nat) (w : Wd) (x2 : Int32) (x3 : Int32) : Option (Unit × Wd) :=
    if (((w 7 j).1 4) : Int32) < 0 then
      some ((), w)
    else
      if ((nI 24) : Int32) ≤ ((w 7 j).1 4) then
        some ((), w)
      else
        if ((nI 24) : Int32) ≤ ((w 7 j).1 4) then
          some ((), w)
        else
          ck (inb (((w 7 j).1 4)) 24) <|
          lw (sA w 7 j 1 (((w 7 j).1 4) : Int32).toNatClampNeg (x2)) fun w13 =>
          ck (inb (((w13 7 j).1 4)) 24) <|
          lw (sA w13 7 j 2 (((w13 7 j).1 4) : Int32).toNatClampNeg (x3)) fun w15 =>
          lw (sI w15 7 j 4 ((((w15 7 j).1 4) + 1))) fun w16 =>
          lw (sI w16 7 j 9 ((((w16 7 j).1 9) + 1))) fun w17 =>
          some ((), w17)
def fX7_addEntry (j : Nat) (o1 : Nat) (w : Wd) (x2 : Int32) (x3 : Int32) : Option (Unit × Wd) :=
  if (((w 7 j).1 4) : Int32) < ((w 5 o1).1 6) then
    fX7_addEntry_41 j o1 w (x2) (x3)
  else
    ob (fX7_nextBand j o1 w ) fun r2 w3 =>
    ob (fX5_stepsOf o1 w3 (r2)) fun r4 w5 =>
    ob (fX7_doSteps j o1 w5 (r2) (r4)) fun _ w7 =>
    lw (sI w7 7 j 10 ((((w7 7 j).1 10) + 1))) fun w8 =>
    fX7_addEntry_41 j o1 w8 (x2) (x3)
set_option maxRecDepth 100000 in
set_option maxHeartbeats 4000000 in
theorem sX7_addEntry_41 {K : VC} {al : Al} {r : Unit} {wz : Wd} {j : Nat} {o1 : Nat} (hk : VH K RX7 cX7_addEntry 4 92) (hR : VR K al none none wz) (hn : kn K = 5) (hN : NX (kG K)) (hj : j < gN (kG K) 7) (ho1 : o1 < gN (kG K) 5) (w : Wd) (x2 : Int32) (x3 : Int32) (h : fX7_addEntry_41 j o1 w x2 x3 = some (r, wz)) : V K al w 41 [(0, .ref (al 7 j 0)), (2, .int x2), (3, .int x3)] [] := by
  rw [fX7_addEntry_41.eq_1] at h
  refine r_aload_n 42 hk dX7_addEntry_41 rfl 0 rfl rfl ?_
  refine r_get 45 hk dX7_addEntry_42 rfl ff_RX7_37 (mk_7_0 hj) (gv_7_4 _ _ _) ?_
  refine r_if_lt 112 48 hk dX7_addEntry_45 rfl rfl (fun c9 => ?_) (fun c9 => ?_)
  · have h := if_t c9 h
    exact r_vret hk hR dX7_addEntry_112 h
  · have h := if_f c9 h
    refine r_aload_n 49 hk dX7_addEntry_48 rfl 0 rfl rfl ?_
    refine r_get 52 hk dX7_addEntry_49 rfl ff_RX7_37 (mk_7_0 hj) (gv_7_4 _ _ _) ?_
    refine r_aload_n 53 hk dX7_addEntry_52 rfl 0 rfl rfl ?_
    refine r_get 56 hk dX7_addEntry_53 rfl ff_RX7_15 (mk_7_0 hj) (gv_7_1 _ _ _) ?_
    refine r_alen 57 hk dX7_addEntry_56 rfl (mk_7_2 hj) rfl ?_
    refine r_icmp_ge 112 60 hk dX7_addEntry_57 rfl rfl (fun c10 => ?_) (fun c10 => ?_)
    · have h := if_t c10 h
      exact r_vret hk hR dX7_addEntry_112 h
    · have h := if_f c10 h
      refine r_aload_n 61 hk dX7_addEntry_60 rfl 0 rfl rfl ?_
      refine r_get 64 hk dX7_addEntry_61 rfl ff_RX7_37 (mk_7_0 hj) (gv_7_4 _ _ _) ?_
      refine r_aload_n 65 hk dX7_addEntry_64 rfl 0 rfl rfl ?_
      refine r_get 68 hk dX7_addEntry_65 rfl ff_RX7_18 (mk_7_0 hj) (gv_7_2 _ _ _) ?_
      refine r_alen 69 hk dX7_addEntry_68 rfl (mk_7_3 hj) rfl ?_
      refine r_icmp_ge 112 72 hk dX7_addEntry_69 rfl rfl (fun c11 => ?_) (fun c11 => ?_)
      · have h := if_t c11 h
        exact r_vret hk hR dX7_addEntry_112 h
      · have h := if_f c11 h
        refine r_aload_n 73 hk dX7_addEntry_72 rfl 0 rfl rfl ?_
        refine r_get 76 hk dX7_addEntry_73 rfl ff_RX7_15 (mk_7_0 hj) (gv_7_1 _ _ _) ?_
        refine r_aload_n 77 hk dX7_addEntry_76 rfl 0 rfl rfl ?_
        refine r_get 80 hk dX7_addEntry_77 rfl ff_RX7_37 (mk_7_0 hj) (gv_7_4 _ _ _) ?_
        refine r_iload_n 81 hk dX7_addEntry_80 rfl 1 rfl rfl ?_
        obtain ⟨b12, h⟩ := ck_e h
        obtain ⟨w13, ew13, h⟩ := lw_e h
        refine r_iast 82 w13 hk dX7_addEntry_81 rfl rfl (mk_7_2 hj) rfl b12 ew13 ?_
        refine r_aload_n 83 hk dX7_addEntry_82 rfl 0 rfl rfl ?_
        refine r_get 86 hk dX7_addEntry_83 rfl ff_RX7_18 (mk_7_0 hj) (gv_7_2 _ _ _) ?_
        refine r_aload_n 87 hk dX7_addEntry_86 rfl 0 rfl rfl ?_
        refine r_get 90 hk dX7_addEntry_87 rfl ff_RX7_37 (mk_7_0 hj) (gv_7_4 _ _ _) ?_
        refine r_iload_n 91 hk dX7_addEntry_90 rfl 2 rfl rfl ?_
        obtain ⟨b14, h⟩ := ck_e h
        obtain ⟨w15, ew15, h⟩ := lw_e h
        refine r_iast 92 w15 hk dX7_addEntry_91 rfl rfl (mk_7_3 hj) rfl b14 ew15 ?_
        refine r_aload_n 93 hk dX7_addEntry_92 rfl 0 rfl rfl ?_
        refine r_dup 94 hk dX7_addEntry_93 rfl rfl ?_
        refine r_get 97 hk dX7_addEntry_94 rfl ff_RX7_37 (mk_7_0 hj) (gv_7_4 _ _ _) ?_
        refine r_iconst 98 hk dX7_addEntry_97 rfl ci_1 ?_
        refine r_iadd 99 hk dX7_addEntry_98 rfl ?_
        obtain ⟨w16, ew16, h⟩ := lw_e h
        refine r_putI 102 w16 hk dX7_addEntry_99 rfl ff_RX7_37 fi_7_4 (mk_7_0 hj) ew16 ?_
        refine r_aload_n 103 hk dX7_addEntry_102 rfl 0 rfl rfl ?_
        refine r_dup 104 hk dX7_addEntry_103 rfl rfl ?_
        refine r_get 107 hk dX7_addEntry_104 rfl ff_RX7_47 (mk_7_0 hj) (gv_7_9 _ _ _) ?_
        refine r_iconst 108 hk dX7_addEntry_107 rfl ci_1 ?_
        refine r_iadd 109 hk dX7_addEntry_108 rfl ?_
        obtain ⟨w17, ew17, h⟩ := lw_e h
        refine r_putI 112 w17 hk dX7_addEntry_109 rfl ff_RX7_47 fi_7_9 (mk_7_0 hj) ew17 ?_
        exact r_vret hk hR dX7_addEntry_112 h
set_option maxRecDepth 100000 in
set_option maxHeartbeats 4000000 in
theorem kX7_addEntry {l : Launch} {G : Gx} {al : Al} {j : Nat} {o1 : Nat} {w : Wd} {x2 : Int32} {x3 : Int32} {r : Unit} {wz : Wd} (hN : NX G) (hj : j < gN G 7) (ho1 : o1 < gN G 5) (h : fX7_addEntry j o1 w x2 x3 = some (r, wz)) : MC l G yX7_addEntry cX7_addEntry 5 none 4 92 al w [.ref (al 7 j 0), .ref (al 5 o1 0), .int x2, .int x3] none wz := by
  refine mc_of [(0, .ref (al 7 j 0)), (1, .ref (al 5 o1 0)), (2, .int x2), (3, .int x3)] (by decide) (Nat.le_of_ble_eq_true rfl) rfl ?_
  intro K hk hR hn hl hG
  subst hl; subst hG
  have hk : VH K RX7 cX7_addEntry 4 92 := hk
  rw [fX7_addEntry.eq_1] at h
  refine r_aload_n 1 hk dX7_addEntry_0 rfl 0 rfl rfl ?_
  refine r_get 4 hk dX7_addEntry_1 rfl ff_RX7_37 (mk_7_0 hj) (gv_7_4 _ _ _) ?_
  refine r_aload_n 5 hk dX7_addEntry_4 rfl 1 rfl rfl ?_
  refine r_get 8 hk dX7_addEntry_5 rfl ff_RX7_110 (mk_5_0 ho1) (gv_5_6 _ _ _) ?_
  refine r_icmp_lt 41 11 hk dX7_addEntry_8 rfl rfl (fun c1 => ?_) (fun c1 => ?_)
  · have h := if_t c1 h
    refine r_sub [0, 2, 3] rfl ?_
    exact sX7_addEntry_41 hk hR hn hN hj ho1 _ _ _ h
  · have h := if_f c1 h
    refine r_aload_n 12 hk dX7_addEntry_11 rfl 0 rfl rfl ?_
    refine r_aload_n 13 hk dX7_addEntry_12 rfl 1 rfl rfl ?_
    obtain ⟨r2, w3, ew3, h⟩ := ob_e h
    refine r_cVi 16 (As := [.ref (al 5 o1 0)]) (rest := []) hk (kX7_nextBand hN hj ho1 ew3) cf_RX7_113 mi_X7_nextBand ⟨TX7, 11, rfl⟩ dX7_addEntry_13 rfl (Nat.le_of_ble_eq_true rfl) (Nat.le_of_ble_eq_true rfl) (mk_7_0 hj) rfl rfl (Nat.le_of_ble_eq_true rfl) ?_
    refine r_istore 18 [(4, .int r2), (0, .ref (al 7 j 0)), (1, .ref (al 5 o1 0)), (2, .int x2), (3, .int x3)] hk dX7_addEntry_16 rfl hn (by decide) rfl rfl ?_
    refine r_aload_n 19 hk dX7_addEntry_18 rfl 1 rfl rfl ?_
    refine r_aload_n 20 hk dX7_addEntry_19 rfl 2 rfl rfl ?_
    refine r_iload 22 hk dX7_addEntry_20 rfl 0 rfl ?_
    refine r_aload_n 23 hk dX7_addEntry_22 rfl 2 rfl rfl ?_
    refine r_iload 25 hk dX7_addEntry_23 rfl 0 rfl ?_
    obtain ⟨r4, w5, ew5, h⟩ := ob_e h
    refine r_cVi 28 (As := [.int r2]) (rest := [.int r2, .ref (al 5 o1 0), .ref (al 7 j 0)]) hk (kX5_stepsOf hN ho1 ew5) cf_RX7_117 mi_X5_stepsOf ⟨TX5, 8, rfl⟩ dX7_addEntry_25 rfl (Nat.le_of_ble_eq_true rfl) (Nat.le_of_ble_eq_true rfl) (mk_5_0 ho1) rfl rfl (Nat.le_of_ble_eq_true rfl) ?_
    obtain ⟨r6, w7, ew7, h⟩ := ob_e h
    refine r_cVv 31 (As := [.ref (al 5 o1 0), .int r2, .int r4]) (rest := []) hk (kX7_doSteps hN hj ho1 ew7) cf_RX7_120 mi_X7_doSteps ⟨TX7, 11, rfl⟩ dX7_addEntry_28 rfl (Nat.le_of_ble_eq_true rfl) (Nat.le_of_ble_eq_true rfl) (mk_7_0 hj) rfl rfl (Nat.le_of_ble_eq_true rfl) ?_
    refine r_aload_n 32 hk dX7_addEntry_31 rfl 1 rfl rfl ?_
    refine r_dup 33 hk dX7_addEntry_32 rfl rfl ?_
    refine r_get 36 hk dX7_addEntry_33 rfl ff_RX7_50 (mk_7_0 hj) (gv_7_10 _ _ _) ?_
    refine r_iconst 37 hk dX7_addEntry_36 rfl ci_1 ?_
    refine r_iadd 38 hk dX7_addEntry_37 rfl ?_
    obtain ⟨w8, ew8, h⟩ := lw_e h
    refine r_putI 41 w8 hk dX7_addEntry_38 rfl ff_RX7_50 fi_7_10 (mk_7_0 hj) ew8 ?_
    refine r_sub [1, 3, 4] rfl ?_
    exact sX7_addEntry_41 hk hR hn hN hj ho1 _ _ _ h
def fX7_cutPower (j : Nat) (o1 : Nat) (w : Wd) (x2 : Int32) (x3 : Int32) : Option (Unit × Wd) :=
  ob (fX7_doSteps j o1 w (x2) (x3)) fun _ w2 =>
  lw (sI w2 7 j 8 (1)) fun w3 =>
  some ((), w3)
set_option maxRecDepth 100000 in
set_option maxHeartbeats 4000000 in
theorem kX7_cutPower {l : Launch} {G : Gx} {al : Al} {j : Nat} {o1 : Nat} {w : Wd} {x2 : Int32} {x3 : Int32} {r : Unit} {wz : Wd} (hN : NX G) (hj : j < gN G 7) (ho1 : o1 < gN G 5) (h : fX7_cutPower j o1 w x2 x3 = some (r, wz)) : MC l G yX7_cutPower cX7_cutPower 4 none 4 92 al w [.ref (al 7 j 0), .ref (al 5 o1 0), .int x2, .int x3] none wz := by
  refine mc_of [(0, .ref (al 7 j 0)), (1, .ref (al 5 o1 0)), (2, .int x2), (3, .int x3)] (by decide) (Nat.le_of_ble_eq_true rfl) rfl ?_
  intro K hk hR hn hl hG
  subst hl; subst hG
  have hk : VH K RX7 cX7_cutPower 4 92 := hk
  rw [fX7_cutPower.eq_1] at h
  refine r_aload_n 1 hk dX7_cutPower_0 rfl 0 rfl rfl ?_
  refine r_aload_n 2 hk dX7_cutPower_1 rfl 1 rfl rfl ?_
  refine r_iload_n 3 hk dX7_cutPower_2 rfl 2 rfl rfl ?_
  refine r_iload_n 4 hk dX7_cutPower_3 rfl 3 rfl rfl ?_
  obtain ⟨r1, w2, ew2, h⟩ := ob_e h
  refine r_cVv 7 (As := [.ref (al 5 o1 0), .int x2, .int x3]) (rest := []) hk (kX7_doSteps hN hj ho1 ew2) cf_RX7_120 mi_X7_doSteps ⟨TX7, 11, rfl⟩ dX7_cutPower_4 rfl (Nat.le_of_ble_eq_true rfl) (Nat.le_of_ble_eq_true rfl) (mk_7_0 hj) rfl rfl (Nat.le_of_ble_eq_true rfl) ?_
  refine r_aload_n 8 hk dX7_cutPower_7 rfl 0 rfl rfl ?_
  refine r_iconst 9 hk dX7_cutPower_8 rfl ci_1 ?_
  obtain ⟨w3, ew3, h⟩ := lw_e h
  refine r_putZ 12 w3 hk dX7_cutPower_9 rfl ff_RX7_43 fi_7_8 (by decide) (mk_7_0 hj) ew3 ?_
  exact r_vret hk hR dX7_cutPower_12 h
def fX7_comeBack_17 (j : Nat) (o1 : Nat) : Nat → Wd → Int32 → Int32 → Option (Int32 × Wd)
  | 0, _, _, _ => none
  | n + 1, w, x2, x3 =>
    ob (fX5_tracksOf o1 w (x2)) fun r6 w7 =>
    if (r6 : Int32) ≤ x3 then
      ob (fX7_dropEntriesOf j o1 w7 (x2)) fun _ w10 =>
      ob (fX7_emptyJournal j w10 ) fun _ w12 =>
      lw (sI w12 7 j 8 (0)) fun w13 =>
      some (x2, w13)
    else
      ob (fX7_writeFromJournal j o1 w7 (x3)) fun _ w15 =>
      lw (x3 + 1) fun x3_16 =>
      fX7_comeBack_17 j o1 n w15 (x2) (x3_16)
def fX7_comeBack (j : Nat) (o1 : Nat) (w : Wd) : Option (Int32 × Wd) :=
  if (((w 7 j).1 7) : Int32) = 0 then
    ob (fX7_emptyJournal j w ) fun _ w3 =>
    lw (sI w3 7 j 8 (0)) fun w4 =>
    some ((-2), w4)
  else
    lw (((w 7 j).1 6)) fun x2_5 =>
    fX7_comeBack_17 j o1 fuel0 w (x2_5) (0)
set_option maxRecDepth 100000 in
set_option maxHeartbeats 4000000 in
theorem sX7_comeBack_17 {K : VC} {al : Al} {r : Int32} {wz : Wd} {j : Nat} {o1 : Nat} (hk : VH K RX7 cX7_comeBack 3 67) (hR : VR K al (some (.int)) (some (.int r)) wz) (hn : kn K = 4) (hN : NX (kG K)) (hj : j < gN (kG K) 7) (ho1 : o1 < gN (kG K) 5) : ∀ (n : Nat) (w : Wd) (x2 : Int32) (x3 : Int32), fX7_comeBack_17 j o1 n w x2 x3 = some (r, wz) → V K al w 17 [(0, .ref (al 7 j 0)), (1, .ref (al 5 o1 0)), (2, .int x2), (3, .int x3)] [] := by
  intro n
  induction n with
  | zero => intro w x2 x3 h; cases h
  | succ n ih =>
    intro w x2 x3 h
    rw [fX7_comeBack_17.eq_2] at h
    refine r_iload_n 18 hk dX7_comeBack_17 rfl 3 rfl rfl ?_
    refine r_aload_n 19 hk dX7_comeBack_18 rfl 1 rfl rfl ?_
    refine r_iload_n 20 hk dX7_comeBack_19 rfl 2 rfl rfl ?_
    obtain ⟨r6, w7, ew7, h⟩ := ob_e h
    refine r_cVi 23 (As := [.int x2]) (rest := [.int x3]) hk (kX5_tracksOf hN ho1 ew7) cf_RX7_90 mi_X5_tracksOf ⟨TX5, 8, rfl⟩ dX7_comeBack_20 rfl (Nat.le_of_ble_eq_true rfl) (Nat.le_of_ble_eq_true rfl) (mk_5_0 ho1) rfl rfl (Nat.le_of_ble_eq_true rfl) ?_
    refine r_icmp_ge 38 26 hk dX7_comeBack_23 rfl rfl (fun c8 => ?_) (fun c8 => ?_)
    · have h := if_t c8 h
      refine r_aload_n 39 hk dX7_comeBack_38 rfl 0 rfl rfl ?_
      refine r_aload_n 40 hk dX7_comeBack_39 rfl 1 rfl rfl ?_
      refine r_iload_n 41 hk dX7_comeBack_40 rfl 2 rfl rfl ?_
      obtain ⟨r9, w10, ew10, h⟩ := ob_e h
      refine r_cVv 44 (As := [.ref (al 5 o1 0), .int x2]) (rest := []) hk (kX7_dropEntriesOf hN hj ho1 ew10) cf_RX7_131 mi_X7_dropEntriesOf ⟨TX7, 11, rfl⟩ dX7_comeBack_41 rfl (Nat.le_of_ble_eq_true rfl) (Nat.le_of_ble_eq_true rfl) (mk_7_0 hj) rfl rfl (Nat.le_of_ble_eq_true rfl) ?_
      refine r_aload_n 45 hk dX7_comeBack_44 rfl 0 rfl rfl ?_
      obtain ⟨r11, w12, ew12, h⟩ := ob_e h
      refine r_cVv 48 (As := []) (rest := []) hk (kX7_emptyJournal hN hj ew12) cf_RX7_40 mi_X7_emptyJournal ⟨TX7, 11, rfl⟩ dX7_comeBack_45 rfl (Nat.le_of_ble_eq_true rfl) (Nat.le_of_ble_eq_true rfl) (mk_7_0 hj) rfl rfl (Nat.le_of_ble_eq_true rfl) ?_
      refine r_aload_n 49 hk dX7_comeBack_48 rfl 0 rfl rfl ?_
      refine r_iconst 50 hk dX7_comeBack_49 rfl ci_0 ?_
      obtain ⟨w13, ew13, h⟩ := lw_e h
      refine r_putZ 53 w13 hk dX7_comeBack_50 rfl ff_RX7_43 fi_7_8 (by decide) (mk_7_0 hj) ew13 ?_
      refine r_iload_n 54 hk dX7_comeBack_53 rfl 2 rfl rfl ?_
      exact r_iret hk hR dX7_comeBack_54 h
    · have h := if_f c8 h
      refine r_aload_n 27 hk dX7_comeBack_26 rfl 0 rfl rfl ?_
      refine r_aload_n 28 hk dX7_comeBack_27 rfl 1 rfl rfl ?_
      refine r_iload_n 29 hk dX7_comeBack_28 rfl 3 rfl rfl ?_
      obtain ⟨r14, w15, ew15, h⟩ := ob_e h
      refine r_cVv 32 (As := [.ref (al 5 o1 0), .int x3]) (rest := []) hk (kX7_writeFromJournal hN hj ho1 ew15) cf_RX7_127 mi_X7_writeFromJournal ⟨TX7, 11, rfl⟩ dX7_comeBack_29 rfl (Nat.le_of_ble_eq_true rfl) (Nat.le_of_ble_eq_true rfl) (mk_7_0 hj) rfl rfl (Nat.le_of_ble_eq_true rfl) ?_
      obtain ⟨x3_16, ex3_16, h⟩ := lw_e h
      refine r_iinc 35 [(3, .int x3_16), (0, .ref (al 7 j 0)), (1, .ref (al 5 o1 0)), (2, .int x2)] hk (j := 3) dX7_comeBack_32 rfl hn (by decide) rfl ex3_16 rfl ?_
      refine r_goto 17 hk (x := 0) dX7_comeBack_35 rfl ?_
      refine r_sub [1, 2, 3, 0] rfl ?_
      exact ih _ _ _ h
set_option maxRecDepth 100000 in
set_option maxHeartbeats 4000000 in
theorem kX7_comeBack {l : Launch} {G : Gx} {al : Al} {j : Nat} {o1 : Nat} {w : Wd} {r : Int32} {wz : Wd} (hN : NX G) (hj : j < gN G 7) (ho1 : o1 < gN G 5) (h : fX7_comeBack j o1 w = some (r, wz)) : MC l G yX7_comeBack cX7_comeBack 4 (some (.int)) 3 67 al w [.ref (al 7 j 0), .ref (al 5 o1 0)] (some (.int r)) wz := by
  refine mc_of [(0, .ref (al 7 j 0)), (1, .ref (al 5 o1 0))] (by decide) (Nat.le_of_ble_eq_true rfl) rfl ?_
  intro K hk hR hn hl hG
  subst hl; subst hG
  have hk : VH K RX7 cX7_comeBack 3 67 := hk
  rw [fX7_comeBack.eq_1] at h
  refine r_bipush 2 hk dX7_comeBack_0 rfl cb_m2 ?_
  refine r_istore_n 3 [(2, .int (-2)), (0, .ref (al 7 j 0)), (1, .ref (al 5 o1 0))] hk dX7_comeBack_2 rfl rfl hn (by decide) rfl rfl ?_
  refine r_aload_n 4 hk dX7_comeBack_3 rfl 1 rfl rfl ?_
  refine r_get 7 hk dX7_comeBack_4 rfl ff_RX7_65 (mk_7_0 hj) (gv_7_7 _ _ _) ?_
  refine r_if_eq 44 10 hk dX7_comeBack_7 rfl rfl (fun c1 => ?_) (fun c1 => ?_)
  · have h := if_t c1 h
    refine r_aload_n 45 hk dX7_comeBack_44 rfl 1 rfl rfl ?_
    obtain ⟨r2, w3, ew3, h⟩ := ob_e h
    refine r_cVv 48 (As := []) (rest := []) hk (kX7_emptyJournal hN hj ew3) cf_RX7_40 mi_X7_emptyJournal ⟨TX7, 11, rfl⟩ dX7_comeBack_45 rfl (Nat.le_of_ble_eq_true rfl) (Nat.le_of_ble_eq_true rfl) (mk_7_0 hj) rfl rfl (Nat.le_of_ble_eq_true rfl) ?_
    refine r_aload_n 49 hk dX7_comeBack_48 rfl 1 rfl rfl ?_
    refine r_iconst 50 hk dX7_comeBack_49 rfl ci_0 ?_
    obtain ⟨w4, ew4, h⟩ := lw_e h
    refine r_putZ 53 w4 hk dX7_comeBack_50 rfl ff_RX7_43 fi_7_8 (by decide) (mk_7_0 hj) ew4 ?_
    refine r_iload_n 54 hk dX7_comeBack_53 rfl 0 rfl rfl ?_
    exact r_iret hk hR dX7_comeBack_54 h
  · have h := if_f c1 h
    refine r_aload_n 11 hk dX7_comeBack_10 rfl 1 rfl rfl ?_
    refine r_get 14 hk dX7_comeBack_11 rfl ff_RX7_62 (mk_7_0 hj) (gv_7_6 _ _ _) ?_
    obtain ⟨x2_5, ex2_5, h⟩ := lw_e h
    refine r_istore_n 15 [(2, .int x2_5), (0, .ref (al 7 j 0)), (1, .ref (al 5 o1 0))] hk dX7_comeBack_14 rfl rfl hn (by decide) ex2_5 rfl ?_
    refine r_iconst 16 hk dX7_comeBack_15 rfl ci_0 ?_
    refine r_istore_n 17 [(3, .int 0), (2, .int x2_5), (0, .ref (al 7 j 0)), (1, .ref (al 5 o1 0))] hk dX7_comeBack_16 rfl rfl hn (by decide) rfl rfl ?_
    refine r_sub [2, 3, 1, 0] rfl ?_
    exact sX7_comeBack_17 hk hR hn hN hj ho1 _ _ _ _ h
def fX0_takeTurn (o1 : Nat) (o2 : Nat) (w : Wd) : Option (Unit × Wd) :=
  ob (fX0_draw w (((w 5 o1).1 4))) fun r1 w2 =>
  ob (fX0_draw w2 (100)) fun r3 w4 =>
  ob (fX7_addEntry o2 o1 w4 (r1) (r3)) fun _ w6 =>
  ob (fX0_draw w6 (8)) fun r7 w8 =>
  if (r7 : Int32) = 0 then
    ob (fX7_nextBand o2 o1 w8 ) fun r10 w11 =>
    if (r10 : Int32) = (-2) then
      some ((), w11)
    else
      ob (fX5_stepsOf o1 w11 (r10)) fun r13 w14 =>
      ob (fX0_draw w14 ((r13 + 1))) fun r15 w16 =>
      ob (fX7_cutPower o2 o1 w16 (r10) (r15)) fun _ w18 =>
      ob (fX7_comeBack o2 o1 w18 ) fun r19 w20 =>
      some ((), w20)
  else
    some ((), w8)
set_option maxRecDepth 100000 in
set_option maxHeartbeats 4000000 in
theorem kX0_takeTurn {l : Launch} {G : Gx} {al : Al} {o1 : Nat} {o2 : Nat} {w : Wd} {r : Unit} {wz : Wd} (hN : NX G) (ho1 : o1 < gN G 5) (ho2 : o2 < gN G 7) (h : fX0_takeTurn o1 o2 w = some (r, wz)) : MC l G yX0_takeTurn cX0_takeTurn 5 none 5 116 al w [.ref (al 0 0 0), .ref (al 5 o1 0), .ref (al 7 o2 0)] none wz := by
  refine mc_of [(0, .ref (al 0 0 0)), (1, .ref (al 5 o1 0)), (2, .ref (al 7 o2 0))] (by decide) (Nat.le_of_ble_eq_true rfl) rfl ?_
  intro K hk hR hn hl hG
  subst hl; subst hG
  have hk : VH K RX0 cX0_takeTurn 5 116 := hk
  rw [fX0_takeTurn.eq_1] at h
  refine r_aload_n 1 hk dX0_takeTurn_0 rfl 0 rfl rfl ?_
  refine r_aload_n 2 hk dX0_takeTurn_1 rfl 1 rfl rfl ?_
  refine r_get 5 hk dX0_takeTurn_2 rfl ff_RX0_16 (mk_5_0 ho1) (gv_5_4 _ _ _) ?_
  obtain ⟨r1, w2, ew2, h⟩ := ob_e h
  refine r_cVi 8 (As := [.int (((w 5 o1).1 4))]) (rest := []) hk (kX0_draw hN ew2) cf_RX0_21 mi_X0_draw ⟨TX0, 1, rfl⟩ dX0_takeTurn_5 rfl (Nat.le_of_ble_eq_true rfl) (Nat.le_of_ble_eq_true rfl) (mk_0_0 (nx_0 hN (j := 0) (by decide))) rfl rfl (Nat.le_of_ble_eq_true rfl) ?_
  refine r_istore_n 9 [(3, .int r1), (0, .ref (al 0 0 0)), (1, .ref (al 5 o1 0)), (2, .ref (al 7 o2 0))] hk dX0_takeTurn_8 rfl rfl hn (by decide) rfl rfl ?_
  refine r_aload_n 10 hk dX0_takeTurn_9 rfl 3 rfl rfl ?_
  refine r_aload_n 11 hk dX0_takeTurn_10 rfl 2 rfl rfl ?_
  refine r_iload_n 12 hk dX0_takeTurn_11 rfl 0 rfl rfl ?_
  refine r_aload_n 13 hk dX0_takeTurn_12 rfl 1 rfl rfl ?_
  refine r_bipush 15 hk dX0_takeTurn_13 rfl cb_100 ?_
  obtain ⟨r3, w4, ew4, h⟩ := ob_e h
  refine r_cVi 18 (As := [.int 100]) (rest := [.int r1, .ref (al 5 o1 0), .ref (al 7 o2 0)]) hk (kX0_draw hN ew4) cf_RX0_21 mi_X0_draw ⟨TX0, 1, rfl⟩ dX0_takeTurn_15 rfl (Nat.le_of_ble_eq_true rfl) (Nat.le_of_ble_eq_true rfl) (mk_0_0 (nx_0 hN (j := 0) (by decide))) rfl rfl (Nat.le_of_ble_eq_true rfl) ?_
  obtain ⟨r5, w6, ew6, h⟩ := ob_e h
  refine r_cVv 21 (As := [.ref (al 5 o1 0), .int r1, .int r3]) (rest := []) hk (kX7_addEntry hN ho2 ho1 ew6) cf_RX0_25 mi_X7_addEntry ⟨TX7, 11, rfl⟩ dX0_takeTurn_18 rfl (Nat.le_of_ble_eq_true rfl) (Nat.le_of_ble_eq_true rfl) (mk_7_0 ho2) rfl rfl (Nat.le_of_ble_eq_true rfl) ?_
  refine r_aload_n 22 hk dX0_takeTurn_21 rfl 1 rfl rfl ?_
  refine r_bipush 24 hk dX0_takeTurn_22 rfl cb_8 ?_
  obtain ⟨r7, w8, ew8, h⟩ := ob_e h
  refine r_cVi 27 (As := [.int 8]) (rest := []) hk (kX0_draw hN ew8) cf_RX0_21 mi_X0_draw ⟨TX0, 1, rfl⟩ dX0_takeTurn_24 rfl (Nat.le_of_ble_eq_true rfl) (Nat.le_of_ble_eq_true rfl) (mk_0_0 (nx_0 hN (j := 0) (by decide))) rfl rfl (Nat.le_of_ble_eq_true rfl) ?_
  refine r_if_eq 31 30 hk dX0_takeTurn_27 rfl rfl (fun c9 => ?_) (fun c9 => ?_)
  · have h := if_t c9 h
    refine r_aload_n 32 hk dX0_takeTurn_31 rfl 3 rfl rfl ?_
    refine r_aload_n 33 hk dX0_takeTurn_32 rfl 2 rfl rfl ?_
    obtain ⟨r10, w11, ew11, h⟩ := ob_e h
    refine r_cVi 36 (As := [.ref (al 5 o1 0)]) (rest := []) hk (kX7_nextBand hN ho2 ho1 ew11) cf_RX0_31 mi_X7_nextBand ⟨TX7, 11, rfl⟩ dX0_takeTurn_33 rfl (Nat.le_of_ble_eq_true rfl) (Nat.le_of_ble_eq_true rfl) (mk_7_0 ho2) rfl rfl (Nat.le_of_ble_eq_true rfl) ?_
    refine r_istore 38 [(4, .int r10), (3, .int r1), (0, .ref (al 0 0 0)), (1, .ref (al 5 o1 0)), (2, .ref (al 7 o2 0))] hk dX0_takeTurn_36 rfl hn (by decide) rfl rfl ?_
    refine r_iload 40 hk dX0_takeTurn_38 rfl 0 rfl ?_
    refine r_bipush 42 hk dX0_takeTurn_40 rfl cb_m2 ?_
    refine r_icmp_eq 70 45 hk dX0_takeTurn_42 rfl rfl (fun c12 => ?_) (fun c12 => ?_)
    · have h := if_t c12 h
      exact r_vret hk hR dX0_takeTurn_70 h
    · have h := if_f c12 h
      refine r_aload_n 46 hk dX0_takeTurn_45 rfl 4 rfl rfl ?_
      refine r_aload_n 47 hk dX0_takeTurn_46 rfl 3 rfl rfl ?_
      refine r_iload 49 hk dX0_takeTurn_47 rfl 0 rfl ?_
      refine r_aload_n 50 hk dX0_takeTurn_49 rfl 2 rfl rfl ?_
      refine r_aload_n 51 hk dX0_takeTurn_50 rfl 3 rfl rfl ?_
      refine r_iload 53 hk dX0_takeTurn_51 rfl 0 rfl ?_
      obtain ⟨r13, w14, ew14, h⟩ := ob_e h
      refine r_cVi 56 (As := [.int r10]) (rest := [.ref (al 0 0 0), .int r10, .ref (al 5 o1 0), .ref (al 7 o2 0)]) hk (kX5_stepsOf hN ho1 ew14) cf_RX0_35 mi_X5_stepsOf ⟨TX5, 8, rfl⟩ dX0_takeTurn_53 rfl (Nat.le_of_ble_eq_true rfl) (Nat.le_of_ble_eq_true rfl) (mk_5_0 ho1) rfl rfl (Nat.le_of_ble_eq_true rfl) ?_
      refine r_iconst 57 hk dX0_takeTurn_56 rfl ci_1 ?_
      refine r_iadd 58 hk dX0_takeTurn_57 rfl ?_
      obtain ⟨r15, w16, ew16, h⟩ := ob_e h
      refine r_cVi 61 (As := [.int ((r13 + 1))]) (rest := [.int r10, .ref (al 5 o1 0), .ref (al 7 o2 0)]) hk (kX0_draw hN ew16) cf_RX0_21 mi_X0_draw ⟨TX0, 1, rfl⟩ dX0_takeTurn_58 rfl (Nat.le_of_ble_eq_true rfl) (Nat.le_of_ble_eq_true rfl) (mk_0_0 (nx_0 hN (j := 0) (by decide))) rfl rfl (Nat.le_of_ble_eq_true rfl) ?_
      obtain ⟨r17, w18, ew18, h⟩ := ob_e h
      refine r_cVv 64 (As := [.ref (al 5 o1 0), .int r10, .int r15]) (rest := []) hk (kX7_cutPower hN ho2 ho1 ew18) cf_RX0_38 mi_X7_cutPower ⟨TX7, 11, rfl⟩ dX0_takeTurn_61 rfl (Nat.le_of_ble_eq_true rfl) (Nat.le_of_ble_eq_true rfl) (mk_7_0 ho2) rfl rfl (Nat.le_of_ble_eq_true rfl) ?_
      refine r_aload_n 65 hk dX0_takeTurn_64 rfl 4 rfl rfl ?_
      refine r_aload_n 66 hk dX0_takeTurn_65 rfl 3 rfl rfl ?_
      obtain ⟨r19, w20, ew20, h⟩ := ob_e h
      refine r_cVi 69 (As := [.ref (al 5 o1 0)]) (rest := []) hk (kX7_comeBack hN ho2 ho1 ew20) cf_RX0_41 mi_X7_comeBack ⟨TX7, 11, rfl⟩ dX0_takeTurn_66 rfl (Nat.le_of_ble_eq_true rfl) (Nat.le_of_ble_eq_true rfl) (mk_7_0 ho2) rfl rfl (Nat.le_of_ble_eq_true rfl) ?_
      refine r_pop 70 hk dX0_takeTurn_69 rfl rfl ?_
      exact r_vret hk hR dX0_takeTurn_70 h
  · have h := if_f c9 h
    exact r_vret hk hR dX0_takeTurn_30 h
def fX1_addSet (w : Wd) (x1 : Int32) : Option (Unit × Wd) :=
  if (((w 1 0).1 1) : Int32) < 0 then
    some ((), w)
  else
    if ((nI 16) : Int32) ≤ ((w 1 0).1 1) then
      some ((), w)
    else
      ck (inb (((w 1 0).1 1)) 16) <|
      lw (sA w 1 0 0 (((w 1 0).1 1) : Int32).toNatClampNeg (x1)) fun w4 =>
      lw (sI w4 1 0 1 ((((w4 1 0).1 1) + 1))) fun w5 =>
      some ((), w5)
set_option maxRecDepth 100000 in
set_option maxHeartbeats 4000000 in
theorem kX1_addSet {l : Launch} {G : Gx} {al : Al} {w : Wd} {x1 : Int32} {r : Unit} {wz : Wd} (hN : NX G) (h : fX1_addSet w x1 = some (r, wz)) : MC l G yX1_addSet cX1_addSet 2 none 0 0 al w [.ref (al 1 0 0), .int x1] none wz := by
  refine mc_of [(0, .ref (al 1 0 0)), (1, .int x1)] (by decide) (Nat.le_of_ble_eq_true rfl) rfl ?_
  intro K hk hR hn hl hG
  subst hl; subst hG
  have hk : VH K RX1 cX1_addSet 0 0 := hk
  rw [fX1_addSet.eq_1] at h
  refine r_aload_n 1 hk dX1_addSet_0 rfl 0 rfl rfl ?_
  refine r_get 4 hk dX1_addSet_1 rfl ff_RX1_15 (mk_1_0 (nx_1 hN (j := 0) (by decide))) (gv_1_1 _ _ _) ?_
  refine r_if_lt 39 7 hk dX1_addSet_4 rfl rfl (fun c1 => ?_) (fun c1 => ?_)
  · have h := if_t c1 h
    exact r_vret hk hR dX1_addSet_39 h
  · have h := if_f c1 h
    refine r_aload_n 8 hk dX1_addSet_7 rfl 0 rfl rfl ?_
    refine r_get 11 hk dX1_addSet_8 rfl ff_RX1_15 (mk_1_0 (nx_1 hN (j := 0) (by decide))) (gv_1_1 _ _ _) ?_
    refine r_aload_n 12 hk dX1_addSet_11 rfl 0 rfl rfl ?_
    refine r_get 15 hk dX1_addSet_12 rfl ff_RX1_9 (mk_1_0 (nx_1 hN (j := 0) (by decide))) (gv_1_0 _ _ _) ?_
    refine r_alen 16 hk dX1_addSet_15 rfl (mk_1_1 (nx_1 hN (j := 0) (by decide))) rfl ?_
    refine r_icmp_ge 39 19 hk dX1_addSet_16 rfl rfl (fun c2 => ?_) (fun c2 => ?_)
    · have h := if_t c2 h
      exact r_vret hk hR dX1_addSet_39 h
    · have h := if_f c2 h
      refine r_aload_n 20 hk dX1_addSet_19 rfl 0 rfl rfl ?_
      refine r_get 23 hk dX1_addSet_20 rfl ff_RX1_9 (mk_1_0 (nx_1 hN (j := 0) (by decide))) (gv_1_0 _ _ _) ?_
      refine r_aload_n 24 hk dX1_addSet_23 rfl 0 rfl rfl ?_
      refine r_get 27 hk dX1_addSet_24 rfl ff_RX1_15 (mk_1_0 (nx_1 hN (j := 0) (by decide))) (gv_1_1 _ _ _) ?_
      refine r_iload_n 28 hk dX1_addSet_27 rfl 1 rfl rfl ?_
      obtain ⟨b3, h⟩ := ck_e h
      obtain ⟨w4, ew4, h⟩ := lw_e h
      refine r_iast 29 w4 hk dX1_addSet_28 rfl rfl (mk_1_1 (nx_1 hN (j := 0) (by decide))) rfl b3 ew4 ?_
      refine r_aload_n 30 hk dX1_addSet_29 rfl 0 rfl rfl ?_
      refine r_dup 31 hk dX1_addSet_30 rfl rfl ?_
      refine r_get 34 hk dX1_addSet_31 rfl ff_RX1_15 (mk_1_0 (nx_1 hN (j := 0) (by decide))) (gv_1_1 _ _ _) ?_
      refine r_iconst 35 hk dX1_addSet_34 rfl ci_1 ?_
      refine r_iadd 36 hk dX1_addSet_35 rfl ?_
      obtain ⟨w5, ew5, h⟩ := lw_e h
      refine r_putI 39 w5 hk dX1_addSet_36 rfl ff_RX1_15 fi_1_1 (mk_1_0 (nx_1 hN (j := 0) (by decide))) ew5 ?_
      exact r_vret hk hR dX1_addSet_39 h
def fX1_inSome_4  : Nat → Wd → Int32 → Int32 → Option (Int32 × Wd)
  | 0, _, _, _ => none
  | n + 1, w, x1, x2 =>
    if (((w 1 0).1 1) : Int32) ≤ x2 then
      some (x1, w)
    else
      ob (fX9_at 1 0 0 w (x2)) fun r2 w3 =>
      lw ((x1 ||| r2)) fun x1_4 =>
      lw (x2 + 1) fun x2_5 =>
      fX1_inSome_4  n w3 (x1_4) (x2_5)
def fX1_inSome (w : Wd) : Option (Int32 × Wd) :=
  fX1_inSome_4  fuel0 w (0) (0)
set_option maxRecDepth 100000 in
set_option maxHeartbeats 4000000 in
theorem sX1_inSome_4 {K : VC} {al : Al} {r : Int32} {wz : Wd}  (hk : VH K RX1 cX1_inSome 1 21) (hR : VR K al (some (.int)) (some (.int r)) wz) (hn : kn K = 3) (hN : NX (kG K)) : ∀ (n : Nat) (w : Wd) (x1 : Int32) (x2 : Int32), fX1_inSome_4  n w x1 x2 = some (r, wz) → V K al w 4 [(0, .ref (al 1 0 0)), (1, .int x1), (2, .int x2)] [] := by
  intro n
  induction n with
  | zero => intro w x1 x2 h; cases h
  | succ n ih =>
    intro w x1 x2 h
    rw [fX1_inSome_4.eq_2] at h
    refine r_iload_n 5 hk dX1_inSome_4 rfl 2 rfl rfl ?_
    refine r_aload_n 6 hk dX1_inSome_5 rfl 0 rfl rfl ?_
    refine r_get 9 hk dX1_inSome_6 rfl ff_RX1_15 (mk_1_0 (nx_1 hN (j := 0) (by decide))) (gv_1_1 _ _ _) ?_
    refine r_icmp_ge 29 12 hk dX1_inSome_9 rfl rfl (fun c1 => ?_) (fun c1 => ?_)
    · have h := if_t c1 h
      refine r_iload_n 30 hk dX1_inSome_29 rfl 1 rfl rfl ?_
      exact r_iret hk hR dX1_inSome_30 h
    · have h := if_f c1 h
      refine r_iload_n 13 hk dX1_inSome_12 rfl 1 rfl rfl ?_
      refine r_aload_n 14 hk dX1_inSome_13 rfl 0 rfl rfl ?_
      refine r_get 17 hk dX1_inSome_14 rfl ff_RX1_9 (mk_1_0 (nx_1 hN (j := 0) (by decide))) (gv_1_0 _ _ _) ?_
      refine r_iload_n 18 hk dX1_inSome_17 rfl 2 rfl rfl ?_
      obtain ⟨r2, w3, ew3, h⟩ := ob_e h
      refine r_cSi 21 (As := [.ref (al 1 0 1), .int x2]) (rest := [.int x1]) hk (kX9_at hN rfl (mk_1_1 (nx_1 hN (j := 0) (by decide))) ew3) cf_RX1_19 ms_X9_at dX1_inSome_18 rfl (Nat.le_of_ble_eq_true rfl) (Nat.le_of_ble_eq_true rfl) rfl rfl (Nat.le_of_ble_eq_true rfl) ?_
      refine r_ior 22 hk dX1_inSome_21 rfl ?_
      obtain ⟨x1_4, ex1_4, h⟩ := lw_e h
      refine r_istore_n 23 [(1, .int x1_4), (0, .ref (al 1 0 0)), (2, .int x2)] hk dX1_inSome_22 rfl rfl hn (by decide) ex1_4 rfl ?_
      obtain ⟨x2_5, ex2_5, h⟩ := lw_e h
      refine r_iinc 26 [(2, .int x2_5), (1, .int x1_4), (0, .ref (al 1 0 0))] hk (j := 2) dX1_inSome_23 rfl hn (by decide) rfl ex2_5 rfl ?_
      refine r_goto 4 hk (x := 0) dX1_inSome_26 rfl ?_
      refine r_sub [2, 1, 0] rfl ?_
      exact ih _ _ _ h
set_option maxRecDepth 100000 in
set_option maxHeartbeats 4000000 in
theorem kX1_inSome {l : Launch} {G : Gx} {al : Al} {w : Wd} {r : Int32} {wz : Wd} (hN : NX G) (h : fX1_inSome w = some (r, wz)) : MC l G yX1_inSome cX1_inSome 3 (some (.int)) 1 21 al w [.ref (al 1 0 0)] (some (.int r)) wz := by
  refine mc_of [(0, .ref (al 1 0 0))] (by decide) (Nat.le_of_ble_eq_true rfl) rfl ?_
  intro K hk hR hn hl hG
  subst hl; subst hG
  have hk : VH K RX1 cX1_inSome 1 21 := hk
  rw [fX1_inSome.eq_1] at h
  refine r_iconst 1 hk dX1_inSome_0 rfl ci_0 ?_
  refine r_istore_n 2 [(1, .int 0), (0, .ref (al 1 0 0))] hk dX1_inSome_1 rfl rfl hn (by decide) rfl rfl ?_
  refine r_iconst 3 hk dX1_inSome_2 rfl ci_0 ?_
  refine r_istore_n 4 [(2, .int 0), (1, .int 0), (0, .ref (al 1 0 0))] hk dX1_inSome_3 rfl rfl hn (by decide) rfl rfl ?_
  refine r_sub [2, 1, 0] rfl ?_
  exact sX1_inSome_4 hk hR hn hN _ _ _ _ h
def fX1_inAll_16  : Nat → Wd → Int32 → Int32 → Option (Int32 × Wd)
  | 0, _, _, _ => none
  | n + 1, w, x1, x2 =>
    if (((w 1 0).1 1) : Int32) ≤ x2 then
      some (x1, w)
    else
      ob (fX9_at 1 0 0 w (x2)) fun r3 w4 =>
      lw ((x1 &&& r3)) fun x1_5 =>
      lw (x2 + 1) fun x2_6 =>
      fX1_inAll_16  n w4 (x1_5) (x2_6)
def fX1_inAll (w : Wd) : Option (Int32 × Wd) :=
  if (((w 1 0).1 1) : Int32) = 0 then
    fX1_inAll_16  fuel0 w (0) (0)
  else
    fX1_inAll_16  fuel0 w (15) (0)
set_option maxRecDepth 100000 in
set_option maxHeartbeats 4000000 in
theorem sX1_inAll_16 {K : VC} {al : Al} {r : Int32} {wz : Wd}  (hk : VH K RX1 cX1_inAll 1 21) (hR : VR K al (some (.int)) (some (.int r)) wz) (hn : kn K = 3) (hN : NX (kG K)) : ∀ (n : Nat) (w : Wd) (x1 : Int32) (x2 : Int32), fX1_inAll_16  n w x1 x2 = some (r, wz) → V K al w 16 [(0, .ref (al 1 0 0)), (1, .int x1), (2, .int x2)] [] := by
  intro n
  induction n with
  | zero => intro w x1 x2 h; cases h
  | succ n ih =>
    intro w x1 x2 h
    rw [fX1_inAll_16.eq_2] at h
    refine r_iload_n 17 hk dX1_inAll_16 rfl 2 rfl rfl ?_
    refine r_aload_n 18 hk dX1_inAll_17 rfl 0 rfl rfl ?_
    refine r_get 21 hk dX1_inAll_18 rfl ff_RX1_15 (mk_1_0 (nx_1 hN (j := 0) (by decide))) (gv_1_1 _ _ _) ?_
    refine r_icmp_ge 41 24 hk dX1_inAll_21 rfl rfl (fun c2 => ?_) (fun c2 => ?_)
    · have h := if_t c2 h
      refine r_iload_n 42 hk dX1_inAll_41 rfl 1 rfl rfl ?_
      exact r_iret hk hR dX1_inAll_42 h
    · have h := if_f c2 h
      refine r_iload_n 25 hk dX1_inAll_24 rfl 1 rfl rfl ?_
      refine r_aload_n 26 hk dX1_inAll_25 rfl 0 rfl rfl ?_
      refine r_get 29 hk dX1_inAll_26 rfl ff_RX1_9 (mk_1_0 (nx_1 hN (j := 0) (by decide))) (gv_1_0 _ _ _) ?_
      refine r_iload_n 30 hk dX1_inAll_29 rfl 2 rfl rfl ?_
      obtain ⟨r3, w4, ew4, h⟩ := ob_e h
      refine r_cSi 33 (As := [.ref (al 1 0 1), .int x2]) (rest := [.int x1]) hk (kX9_at hN rfl (mk_1_1 (nx_1 hN (j := 0) (by decide))) ew4) cf_RX1_19 ms_X9_at dX1_inAll_30 rfl (Nat.le_of_ble_eq_true rfl) (Nat.le_of_ble_eq_true rfl) rfl rfl (Nat.le_of_ble_eq_true rfl) ?_
      refine r_iand 34 hk dX1_inAll_33 rfl ?_
      obtain ⟨x1_5, ex1_5, h⟩ := lw_e h
      refine r_istore_n 35 [(1, .int x1_5), (0, .ref (al 1 0 0)), (2, .int x2)] hk dX1_inAll_34 rfl rfl hn (by decide) ex1_5 rfl ?_
      obtain ⟨x2_6, ex2_6, h⟩ := lw_e h
      refine r_iinc 38 [(2, .int x2_6), (1, .int x1_5), (0, .ref (al 1 0 0))] hk (j := 2) dX1_inAll_35 rfl hn (by decide) rfl ex2_6 rfl ?_
      refine r_goto 16 hk (x := 0) dX1_inAll_38 rfl ?_
      refine r_sub [2, 1, 0] rfl ?_
      exact ih _ _ _ h
set_option maxRecDepth 100000 in
set_option maxHeartbeats 4000000 in
theorem kX1_inAll {l : Launch} {G : Gx} {al : Al} {w : Wd} {r : Int32} {wz : Wd} (hN : NX G) (h : fX1_inAll w = some (r, wz)) : MC l G yX1_inAll cX1_inAll 3 (some (.int)) 1 21 al w [.ref (al 1 0 0)] (some (.int r)) wz := by
  refine mc_of [(0, .ref (al 1 0 0))] (by decide) (Nat.le_of_ble_eq_true rfl) rfl ?_
  intro K hk hR hn hl hG
  subst hl; subst hG
  have hk : VH K RX1 cX1_inAll 1 21 := hk
  rw [fX1_inAll.eq_1] at h
  refine r_aload_n 1 hk dX1_inAll_0 rfl 0 rfl rfl ?_
  refine r_get 4 hk dX1_inAll_1 rfl ff_RX1_15 (mk_1_0 (nx_1 hN (j := 0) (by decide))) (gv_1_1 _ _ _) ?_
  refine r_if_ne 11 7 hk dX1_inAll_4 rfl rfl (fun c1 => ?_) (fun c1 => ?_)
  · have h := if_f c1 h
    refine r_bipush 13 hk dX1_inAll_11 rfl cb_15 ?_
    refine r_istore_n 14 [(1, .int 15), (0, .ref (al 1 0 0))] hk dX1_inAll_13 rfl rfl hn (by decide) rfl rfl ?_
    refine r_iconst 15 hk dX1_inAll_14 rfl ci_0 ?_
    refine r_istore_n 16 [(2, .int 0), (1, .int 15), (0, .ref (al 1 0 0))] hk dX1_inAll_15 rfl rfl hn (by decide) rfl rfl ?_
    refine r_sub [2, 1, 0] rfl ?_
    exact sX1_inAll_16 hk hR hn hN _ _ _ _ h
  · have h := if_t c1 h
    refine r_iconst 8 hk dX1_inAll_7 rfl ci_0 ?_
    refine r_goto 13 hk (x := 0) dX1_inAll_8 rfl ?_
    refine r_istore_n 14 [(1, .int 0), (0, .ref (al 1 0 0))] hk dX1_inAll_13 rfl rfl hn (by decide) rfl rfl ?_
    refine r_iconst 15 hk dX1_inAll_14 rfl ci_0 ?_
    refine r_istore_n 16 [(2, .int 0), (1, .int 0), (0, .ref (al 1 0 0))] hk dX1_inAll_15 rfl rfl hn (by decide) rfl rfl ?_
    refine r_sub [2, 1, 0] rfl ?_
    exact sX1_inAll_16 hk hR hn hN _ _ _ _ h
def fX1_leftAtMost_4  : Nat → Wd → Int32 → Int32 → Int32 → Option (Int32 × Wd)
  | 0, _, _, _, _ => none
  | n + 1, w, x1, x2, x3 =>
    if (((w 1 0).1 1) : Int32) ≤ x3 then
      some ((if (x2 : Int32) < (((w 1 0).1 1) - x2) then (((w 1 0).1 1) - x2) else x2), w)
    else
      ob (fX9_at 1 0 0 w (x3)) fun r2 w3 =>
      lw ((x2 + ((r2 >>> (x1 &&& 31)) &&& 1))) fun x2_4 =>
      lw (x3 + 1) fun x3_5 =>
      fX1_leftAtMost_4  n w3 (x1) (x2_4) (x3_5)
def fX1_leftAtMost (w : Wd) (x1 : Int32) : Option (Int32 × Wd) :=
  fX1_leftAtMost_4  fuel0 w (x1) (0) (0)
set_option maxRecDepth 100000 in
set_option maxHeartbeats 4000000 in
theorem sX1_leftAtMost_4 {K : VC} {al : Al} {r : Int32} {wz : Wd}  (hk : VH K RX1 cX1_leftAtMost 1 21) (hR : VR K al (some (.int)) (some (.int r)) wz) (hn : kn K = 4) (hN : NX (kG K)) : ∀ (n : Nat) (w : Wd) (x1 : Int32) (x2 : Int32) (x3 : Int32), fX1_leftAtMost_4  n w x1 x2 x3 = some (r, wz) → V K al w 4 [(0, .ref (al 1 0 0)), (1, .int x1), (2, .int x2), (3, .int x3)] [] := by
  intro n
  induction n with
  | zero => intro w x1 x2 x3 h; cases h
  | succ n ih =>
    intro w x1 x2 x3 h
    rw [fX1_leftAtMost_4.eq_2] at h
    refine r_iload_n 5 hk dX1_leftAtMost_4 rfl 3 rfl rfl ?_
    refine r_aload_n 6 hk dX1_leftAtMost_5 rfl 0 rfl rfl ?_
    refine r_get 9 hk dX1_leftAtMost_6 rfl ff_RX1_15 (mk_1_0 (nx_1 hN (j := 0) (by decide))) (gv_1_1 _ _ _) ?_
    refine r_icmp_ge 33 12 hk dX1_leftAtMost_9 rfl rfl (fun c1 => ?_) (fun c1 => ?_)
    · have h := if_t c1 h
      refine r_iload_n 34 hk dX1_leftAtMost_33 rfl 2 rfl rfl ?_
      refine r_aload_n 35 hk dX1_leftAtMost_34 rfl 0 rfl rfl ?_
      refine r_get 38 hk dX1_leftAtMost_35 rfl ff_RX1_15 (mk_1_0 (nx_1 hN (j := 0) (by decide))) (gv_1_1 _ _ _) ?_
      refine r_iload_n 39 hk dX1_leftAtMost_38 rfl 2 rfl rfl ?_
      refine r_isub 40 hk dX1_leftAtMost_39 rfl ?_
      refine r_max 43 hk dX1_leftAtMost_40 rfl km_RX1_23 (Nat.le_of_ble_eq_true rfl) (Nat.le_of_ble_eq_true rfl) ?_
      exact r_iret hk hR dX1_leftAtMost_43 h
    · have h := if_f c1 h
      refine r_iload_n 13 hk dX1_leftAtMost_12 rfl 2 rfl rfl ?_
      refine r_aload_n 14 hk dX1_leftAtMost_13 rfl 0 rfl rfl ?_
      refine r_get 17 hk dX1_leftAtMost_14 rfl ff_RX1_9 (mk_1_0 (nx_1 hN (j := 0) (by decide))) (gv_1_0 _ _ _) ?_
      refine r_iload_n 18 hk dX1_leftAtMost_17 rfl 3 rfl rfl ?_
      obtain ⟨r2, w3, ew3, h⟩ := ob_e h
      refine r_cSi 21 (As := [.ref (al 1 0 1), .int x3]) (rest := [.int x2]) hk (kX9_at hN rfl (mk_1_1 (nx_1 hN (j := 0) (by decide))) ew3) cf_RX1_19 ms_X9_at dX1_leftAtMost_18 rfl (Nat.le_of_ble_eq_true rfl) (Nat.le_of_ble_eq_true rfl) rfl rfl (Nat.le_of_ble_eq_true rfl) ?_
      refine r_iload_n 22 hk dX1_leftAtMost_21 rfl 1 rfl rfl ?_
      refine r_ishr 23 hk dX1_leftAtMost_22 rfl ?_
      refine r_iconst 24 hk dX1_leftAtMost_23 rfl ci_1 ?_
      refine r_iand 25 hk dX1_leftAtMost_24 rfl ?_
      refine r_iadd 26 hk dX1_leftAtMost_25 rfl ?_
      obtain ⟨x2_4, ex2_4, h⟩ := lw_e h
      refine r_istore_n 27 [(2, .int x2_4), (0, .ref (al 1 0 0)), (1, .int x1), (3, .int x3)] hk dX1_leftAtMost_26 rfl rfl hn (by decide) ex2_4 rfl ?_
      obtain ⟨x3_5, ex3_5, h⟩ := lw_e h
      refine r_iinc 30 [(3, .int x3_5), (2, .int x2_4), (0, .ref (al 1 0 0)), (1, .int x1)] hk (j := 3) dX1_leftAtMost_27 rfl hn (by decide) rfl ex3_5 rfl ?_
      refine r_goto 4 hk (x := 0) dX1_leftAtMost_30 rfl ?_
      refine r_sub [2, 3, 1, 0] rfl ?_
      exact ih _ _ _ _ h
set_option maxRecDepth 100000 in
set_option maxHeartbeats 4000000 in
theorem kX1_leftAtMost {l : Launch} {G : Gx} {al : Al} {w : Wd} {x1 : Int32} {r : Int32} {wz : Wd} (hN : NX G) (h : fX1_leftAtMost w x1 = some (r, wz)) : MC l G yX1_leftAtMost cX1_leftAtMost 4 (some (.int)) 1 21 al w [.ref (al 1 0 0), .int x1] (some (.int r)) wz := by
  refine mc_of [(0, .ref (al 1 0 0)), (1, .int x1)] (by decide) (Nat.le_of_ble_eq_true rfl) rfl ?_
  intro K hk hR hn hl hG
  subst hl; subst hG
  have hk : VH K RX1 cX1_leftAtMost 1 21 := hk
  rw [fX1_leftAtMost.eq_1] at h
  refine r_iconst 1 hk dX1_leftAtMost_0 rfl ci_0 ?_
  refine r_istore_n 2 [(2, .int 0), (0, .ref (al 1 0 0)), (1, .int x1)] hk dX1_leftAtMost_1 rfl rfl hn (by decide) rfl rfl ?_
  refine r_iconst 3 hk dX1_leftAtMost_2 rfl ci_0 ?_
  refine r_istore_n 4 [(3, .int 0), (2, .int 0), (0, .ref (al 1 0 0)), (1, .int x1)] hk dX1_leftAtMost_3 rfl rfl hn (by decide) rfl rfl ?_
  refine r_sub [2, 3, 1, 0] rfl ?_
  exact sX1_leftAtMost_4 hk hR hn hN _ _ _ _ _ h
def fX1_bestToTell_13  : Nat → Wd → Int32 → Int32 → Int32 → Int32 → Option (Int32 × Wd)
  | 0, _, _, _, _, _ => none
  | n + 1, w, x1, x2, x3, x4 =>
    if (((w 1 0).1 1) : Int32) ≤ 0 then
      some (x2, w)
    else
      if (x1 : Int32) ≤ x4 then
        some (x2, w)
      else
        ob (fX1_leftAtMost w (x4)) fun r4 w5 =>
        if (x3 : Int32) ≤ r4 then
          lw (x4 + 1) fun x4_7 =>
          fX1_bestToTell_13  n w5 (x1) (x2) (x3) (x4_7)
        else
          lw (x4 + 1) fun x4_8 =>
          fX1_bestToTell_13  n w5 (x1) (x4) (r4) (x4_8)
def fX1_bestToTell (w : Wd) (x1 : Int32) : Option (Int32 × Wd) :=
  lw ((((w 1 0).1 1) + 1)) fun x3_1 =>
  fX1_bestToTell_13  fuel0 w (x1) ((-2)) (x3_1) (0)
set_option maxRecDepth 100000 in
set_option maxHeartbeats 4000000 in
theorem sX1_bestToTell_13 {K : VC} {al : Al} {r : Int32} {wz : Wd}  (hk : VH K RX1 cX1_bestToTell 2 44) (hR : VR K al (some (.int)) (some (.int r)) wz) (hn : kn K = 6) (hN : NX (kG K)) : ∀ (n : Nat) (w : Wd) (x1 : Int32) (x2 : Int32) (x3 : Int32) (x4 : Int32), fX1_bestToTell_13  n w x1 x2 x3 x4 = some (r, wz) → V K al w 13 [(0, .ref (al 1 0 0)), (1, .int x1), (2, .int x2), (3, .int x3), (4, .int x4)] [] := by
  intro n
  induction n with
  | zero => intro w x1 x2 x3 x4 h; cases h
  | succ n ih =>
    intro w x1 x2 x3 x4 h
    rw [fX1_bestToTell_13.eq_2] at h
    refine r_aload_n 14 hk dX1_bestToTell_13 rfl 0 rfl rfl ?_
    refine r_get 17 hk dX1_bestToTell_14 rfl ff_RX1_15 (mk_1_0 (nx_1 hN (j := 0) (by decide))) (gv_1_1 _ _ _) ?_
    refine r_if_le 52 20 hk dX1_bestToTell_17 rfl rfl (fun c2 => ?_) (fun c2 => ?_)
    · have h := if_t c2 h
      refine r_iload_n 53 hk dX1_bestToTell_52 rfl 2 rfl rfl ?_
      exact r_iret hk hR dX1_bestToTell_53 h
    · have h := if_f c2 h
      refine r_iload 22 hk dX1_bestToTell_20 rfl 4 rfl ?_
      refine r_iload_n 23 hk dX1_bestToTell_22 rfl 1 rfl rfl ?_
      refine r_icmp_ge 52 26 hk dX1_bestToTell_23 rfl rfl (fun c3 => ?_) (fun c3 => ?_)
      · have h := if_t c3 h
        refine r_iload_n 53 hk dX1_bestToTell_52 rfl 2 rfl rfl ?_
        exact r_iret hk hR dX1_bestToTell_53 h
      · have h := if_f c3 h
        refine r_aload_n 27 hk dX1_bestToTell_26 rfl 0 rfl rfl ?_
        refine r_iload 29 hk dX1_bestToTell_27 rfl 4 rfl ?_
        obtain ⟨r4, w5, ew5, h⟩ := ob_e h
        refine r_cVi 32 (As := [.int x4]) (rest := []) hk (kX1_leftAtMost hN ew5) cf_RX1_29 mi_X1_leftAtMost ⟨TX1, 2, rfl⟩ dX1_bestToTell_29 rfl (Nat.le_of_ble_eq_true rfl) (Nat.le_of_ble_eq_true rfl) (mk_1_0 (nx_1 hN (j := 0) (by decide))) rfl rfl (Nat.le_of_ble_eq_true rfl) ?_
        refine r_istore 34 [(5, .int r4), (0, .ref (al 1 0 0)), (1, .int x1), (2, .int x2), (3, .int x3), (4, .int x4)] hk dX1_bestToTell_32 rfl hn (by decide) rfl rfl ?_
        refine r_iload 36 hk dX1_bestToTell_34 rfl 0 rfl ?_
        refine r_iload_n 37 hk dX1_bestToTell_36 rfl 4 rfl rfl ?_
        refine r_icmp_ge 46 40 hk dX1_bestToTell_37 rfl rfl (fun c6 => ?_) (fun c6 => ?_)
        · have h := if_t c6 h
          obtain ⟨x4_7, ex4_7, h⟩ := lw_e h
          refine r_iinc 49 [(4, .int x4_7), (5, .int r4), (0, .ref (al 1 0 0)), (1, .int x1), (2, .int x2), (3, .int x3)] hk (j := 5) dX1_bestToTell_46 rfl hn (by decide) rfl ex4_7 rfl ?_
          refine r_goto 13 hk (x := 0) dX1_bestToTell_49 rfl ?_
          refine r_sub [2, 3, 4, 5, 0] rfl ?_
          exact ih _ _ _ _ _ h
        · have h := if_f c6 h
          refine r_iload 42 hk dX1_bestToTell_40 rfl 0 rfl ?_
          refine r_istore_n 43 [(3, .int r4), (5, .int r4), (0, .ref (al 1 0 0)), (1, .int x1), (2, .int x2), (4, .int x4)] hk dX1_bestToTell_42 rfl rfl hn (by decide) rfl rfl ?_
          refine r_iload 45 hk dX1_bestToTell_43 rfl 5 rfl ?_
          refine r_istore_n 46 [(2, .int x4), (3, .int r4), (5, .int r4), (0, .ref (al 1 0 0)), (1, .int x1), (4, .int x4)] hk dX1_bestToTell_45 rfl rfl hn (by decide) rfl rfl ?_
          obtain ⟨x4_8, ex4_8, h⟩ := lw_e h
          refine r_iinc 49 [(4, .int x4_8), (2, .int x4), (3, .int r4), (5, .int r4), (0, .ref (al 1 0 0)), (1, .int x1)] hk (j := 5) dX1_bestToTell_46 rfl hn (by decide) rfl ex4_8 rfl ?_
          refine r_goto 13 hk (x := 0) dX1_bestToTell_49 rfl ?_
          refine r_sub [4, 5, 1, 2, 0] rfl ?_
          exact ih _ _ _ _ _ h
set_option maxRecDepth 100000 in
set_option maxHeartbeats 4000000 in
theorem kX1_bestToTell {l : Launch} {G : Gx} {al : Al} {w : Wd} {x1 : Int32} {r : Int32} {wz : Wd} (hN : NX G) (h : fX1_bestToTell w x1 = some (r, wz)) : MC l G yX1_bestToTell cX1_bestToTell 6 (some (.int)) 2 44 al w [.ref (al 1 0 0), .int x1] (some (.int r)) wz := by
  refine mc_of [(0, .ref (al 1 0 0)), (1, .int x1)] (by decide) (Nat.le_of_ble_eq_true rfl) rfl ?_
  intro K hk hR hn hl hG
  subst hl; subst hG
  have hk : VH K RX1 cX1_bestToTell 2 44 := hk
  rw [fX1_bestToTell.eq_1] at h
  refine r_bipush 2 hk dX1_bestToTell_0 rfl cb_m2 ?_
  refine r_istore_n 3 [(2, .int (-2)), (0, .ref (al 1 0 0)), (1, .int x1)] hk dX1_bestToTell_2 rfl rfl hn (by decide) rfl rfl ?_
  refine r_aload_n 4 hk dX1_bestToTell_3 rfl 1 rfl rfl ?_
  refine r_get 7 hk dX1_bestToTell_4 rfl ff_RX1_15 (mk_1_0 (nx_1 hN (j := 0) (by decide))) (gv_1_1 _ _ _) ?_
  refine r_iconst 8 hk dX1_bestToTell_7 rfl ci_1 ?_
  refine r_iadd 9 hk dX1_bestToTell_8 rfl ?_
  obtain ⟨x3_1, ex3_1, h⟩ := lw_e h
  refine r_istore_n 10 [(3, .int x3_1), (2, .int (-2)), (0, .ref (al 1 0 0)), (1, .int x1)] hk dX1_bestToTell_9 rfl rfl hn (by decide) ex3_1 rfl ?_
  refine r_iconst 11 hk dX1_bestToTell_10 rfl ci_0 ?_
  refine r_istore 13 [(4, .int 0), (3, .int x3_1), (2, .int (-2)), (0, .ref (al 1 0 0)), (1, .int x1)] hk dX1_bestToTell_11 rfl hn (by decide) rfl rfl ?_
  refine r_sub [3, 4, 2, 1, 0] rfl ?_
  exact sX1_bestToTell_13 hk hR hn hN _ _ _ _ _ _ h
def fX2_forget (w : Wd) : Option (Unit × Wd) :=
  lw (sI w 2 0 2 (0)) fun w1 =>
  some ((), w1)
set_option maxRecDepth 100000 in
set_option maxHeartbeats 4000000 in
theorem kX2_forget {l : Launch} {G : Gx} {al : Al} {w : Wd} {r : Unit} {wz : Wd} (hN : NX G) (h : fX2_forget w = some (r, wz)) : MC l G yX2_forget cX2_forget 1 none 0 0 al w [.ref (al 2 0 0)] none wz := by
  refine mc_of [(0, .ref (al 2 0 0))] (by decide) (Nat.le_of_ble_eq_true rfl) rfl ?_
  intro K hk hR hn hl hG
  subst hl; subst hG
  have hk : VH K RX2 cX2_forget 0 0 := hk
  rw [fX2_forget.eq_1] at h
  refine r_aload_n 1 hk dX2_forget_0 rfl 0 rfl rfl ?_
  refine r_iconst 2 hk dX2_forget_1 rfl ci_0 ?_
  obtain ⟨w1, ew1, h⟩ := lw_e h
  refine r_putI 5 w1 hk dX2_forget_2 rfl ff_RX2_20 fi_2_2 (mk_2_0 (nx_2 hN (j := 0) (by decide))) ew1 ?_
  exact r_vret hk hR dX2_forget_5 h
def fX6_copyAt (j : Nat) (w : Wd) (x1 : Int32) : Option (Nat × Wd) :=
  if (x1 : Int32) < 0 then
    some (0, w)
  else
    if ((nI (aln 6 j 0)) : Int32) ≤ x1 then
      some (0, w)
    else
      ck (inb (x1) (aln 6 j 0)) <|
      some ((sbase j + (x1 : Int32).toNatClampNeg) + 1, w)
set_option maxRecDepth 100000 in
set_option maxHeartbeats 4000000 in
theorem kX6_copyAt {l : Launch} {G : Gx} {al : Al} {j : Nat} {w : Wd} {x1 : Int32} {r : Nat} {wz : Wd} (hN : NX G) (hj : j < gN G 6) (h : fX6_copyAt j w x1 = some (r, wz)) : MC l G yX6_copyAt cX6_copyAt 2 (some (.object "ShingledDisk$State")) 0 0 al w [.ref (al 6 j 0), .int x1] (some (pv al 7 r)) wz := by
  refine mc_of [(0, .ref (al 6 j 0)), (1, .int x1)] (by decide) (Nat.le_of_ble_eq_true rfl) rfl ?_
  intro K hk hR hn hl hG
  subst hl; subst hG
  have hk : VH K RX6 cX6_copyAt 0 0 := hk
  rw [fX6_copyAt.eq_1] at h
  refine r_iload_n 1 hk dX6_copyAt_0 rfl 1 rfl rfl ?_
  refine r_if_lt 22 4 hk dX6_copyAt_1 rfl rfl (fun c1 => ?_) (fun c1 => ?_)
  · have h := if_t c1 h
    refine r_null 23 hk dX6_copyAt_22 rfl ?_
    exact r_aret (q := 0) hk hR dX6_copyAt_23 rfl h
  · have h := if_f c1 h
    refine r_iload_n 5 hk dX6_copyAt_4 rfl 1 rfl rfl ?_
    refine r_aload_n 6 hk dX6_copyAt_5 rfl 0 rfl rfl ?_
    refine r_get 9 hk dX6_copyAt_6 rfl ff_RX6_15 (mk_6_0 hj) (gv_6_0 _ _ _) ?_
    refine r_alen 10 hk dX6_copyAt_9 rfl (mk_6_1 hj) rfl ?_
    refine r_icmp_ge 22 13 hk dX6_copyAt_10 rfl rfl (fun c2 => ?_) (fun c2 => ?_)
    · have h := if_t c2 h
      refine r_null 23 hk dX6_copyAt_22 rfl ?_
      exact r_aret (q := 0) hk hR dX6_copyAt_23 rfl h
    · have h := if_f c2 h
      refine r_aload_n 14 hk dX6_copyAt_13 rfl 0 rfl rfl ?_
      refine r_get 17 hk dX6_copyAt_14 rfl ff_RX6_15 (mk_6_0 hj) (gv_6_0 _ _ _) ?_
      refine r_iload_n 18 hk dX6_copyAt_17 rfl 1 rfl rfl ?_
      obtain ⟨b3, h⟩ := ck_e h
      refine r_aald 19 hk dX6_copyAt_18 rfl (mk_6_1 hj) rfl b3 ?_
      refine r_goto 23 hk (x := 0) dX6_copyAt_19 rfl ?_
      exact r_aret (q := (sbase j + (x1 : Int32).toNatClampNeg) + 1) hk hR dX6_copyAt_23 rfl h
def fX7_copyFrom (j : Nat) (o1 : Nat) (w : Wd) : Option (Unit × Wd) :=
  lw (sR w 7 j 0 (va_cpy ((w 7 o1).2.1 0) ((w 7 j).2.1 0) 0 0 48)) fun w1 =>
  lw (sR w1 7 j 1 (va_cpy ((w1 7 o1).2.1 1) ((w1 7 j).2.1 1) 0 0 24)) fun w2 =>
  lw (sR w2 7 j 2 (va_cpy ((w2 7 o1).2.1 2) ((w2 7 j).2.1 2) 0 0 24)) fun w3 =>
  lw (sR w3 7 j 3 (va_cpy ((w3 7 o1).2.1 3) ((w3 7 j).2.1 3) 0 0 8)) fun w4 =>
  lw (sI w4 7 j 4 (((w4 7 o1).1 4))) fun w5 =>
  lw (sI w5 7 j 5 (((w5 7 o1).1 5))) fun w6 =>
  lw (sI w6 7 j 6 (((w6 7 o1).1 6))) fun w7 =>
  ck (isb (((w7 7 o1).1 7))) <|
  lw (sI w7 7 j 7 (((w7 7 o1).1 7))) fun w8 =>
  ck (isb (((w8 7 o1).1 8))) <|
  lw (sI w8 7 j 8 (((w8 7 o1).1 8))) fun w10 =>
  lw (sI w10 7 j 9 (((w10 7 o1).1 9))) fun w12 =>
  lw (sI w12 7 j 10 (((w12 7 o1).1 10))) fun w13 =>
  some ((), w13)
set_option maxRecDepth 100000 in
set_option maxHeartbeats 4000000 in
theorem kX7_copyFrom {l : Launch} {G : Gx} {al : Al} {j : Nat} {o1 : Nat} {w : Wd} {r : Unit} {wz : Wd} (hN : NX G) (hj : j < gN G 7) (ho1 : o1 < gN G 7) (h : fX7_copyFrom j o1 w = some (r, wz)) : MC l G yX7_copyFrom cX7_copyFrom 2 none 1 26 al w [.ref (al 7 j 0), .ref (al 7 o1 0)] none wz := by
  refine mc_of [(0, .ref (al 7 j 0)), (1, .ref (al 7 o1 0))] (by decide) (Nat.le_of_ble_eq_true rfl) rfl ?_
  intro K hk hR hn hl hG
  subst hl; subst hG
  have hk : VH K RX7 cX7_copyFrom 1 26 := hk
  rw [fX7_copyFrom.eq_1] at h
  refine r_aload_n 1 hk dX7_copyFrom_0 rfl 1 rfl rfl ?_
  refine r_get 4 hk dX7_copyFrom_1 rfl ff_RX7_9 (mk_7_0 ho1) (gv_7_0 _ _ _) ?_
  refine r_iconst 5 hk dX7_copyFrom_4 rfl ci_0 ?_
  refine r_aload_n 6 hk dX7_copyFrom_5 rfl 0 rfl rfl ?_
  refine r_get 9 hk dX7_copyFrom_6 rfl ff_RX7_9 (mk_7_0 hj) (gv_7_0 _ _ _) ?_
  refine r_iconst 10 hk dX7_copyFrom_9 rfl ci_0 ?_
  refine r_bipush 12 hk dX7_copyFrom_10 rfl cb_48 ?_
  obtain ⟨w1, ew1, h⟩ := lw_e h
  refine r_copy 15 w1 hk dX7_copyFrom_12 rfl km_RX7_53 rfl rfl (mk_7_1 ho1) (mk_7_1 hj) (n := 48) rfl (by decide) rfl rfl (Nat.le_of_ble_eq_true rfl) (Nat.le_of_ble_eq_true rfl) ew1 ?_
  refine r_aload_n 16 hk dX7_copyFrom_15 rfl 1 rfl rfl ?_
  refine r_get 19 hk dX7_copyFrom_16 rfl ff_RX7_15 (mk_7_0 ho1) (gv_7_1 _ _ _) ?_
  refine r_iconst 20 hk dX7_copyFrom_19 rfl ci_0 ?_
  refine r_aload_n 21 hk dX7_copyFrom_20 rfl 0 rfl rfl ?_
  refine r_get 24 hk dX7_copyFrom_21 rfl ff_RX7_15 (mk_7_0 hj) (gv_7_1 _ _ _) ?_
  refine r_iconst 25 hk dX7_copyFrom_24 rfl ci_0 ?_
  refine r_bipush 27 hk dX7_copyFrom_25 rfl cb_24 ?_
  obtain ⟨w2, ew2, h⟩ := lw_e h
  refine r_copy 30 w2 hk dX7_copyFrom_27 rfl km_RX7_53 rfl rfl (mk_7_2 ho1) (mk_7_2 hj) (n := 24) rfl (by decide) rfl rfl (Nat.le_of_ble_eq_true rfl) (Nat.le_of_ble_eq_true rfl) ew2 ?_
  refine r_aload_n 31 hk dX7_copyFrom_30 rfl 1 rfl rfl ?_
  refine r_get 34 hk dX7_copyFrom_31 rfl ff_RX7_18 (mk_7_0 ho1) (gv_7_2 _ _ _) ?_
  refine r_iconst 35 hk dX7_copyFrom_34 rfl ci_0 ?_
  refine r_aload_n 36 hk dX7_copyFrom_35 rfl 0 rfl rfl ?_
  refine r_get 39 hk dX7_copyFrom_36 rfl ff_RX7_18 (mk_7_0 hj) (gv_7_2 _ _ _) ?_
  refine r_iconst 40 hk dX7_copyFrom_39 rfl ci_0 ?_
  refine r_bipush 42 hk dX7_copyFrom_40 rfl cb_24 ?_
  obtain ⟨w3, ew3, h⟩ := lw_e h
  refine r_copy 45 w3 hk dX7_copyFrom_42 rfl km_RX7_53 rfl rfl (mk_7_3 ho1) (mk_7_3 hj) (n := 24) rfl (by decide) rfl rfl (Nat.le_of_ble_eq_true rfl) (Nat.le_of_ble_eq_true rfl) ew3 ?_
  refine r_aload_n 46 hk dX7_copyFrom_45 rfl 1 rfl rfl ?_
  refine r_get 49 hk dX7_copyFrom_46 rfl ff_RX7_21 (mk_7_0 ho1) (gv_7_3 _ _ _) ?_
  refine r_iconst 50 hk dX7_copyFrom_49 rfl ci_0 ?_
  refine r_aload_n 51 hk dX7_copyFrom_50 rfl 0 rfl rfl ?_
  refine r_get 54 hk dX7_copyFrom_51 rfl ff_RX7_21 (mk_7_0 hj) (gv_7_3 _ _ _) ?_
  refine r_iconst 55 hk dX7_copyFrom_54 rfl ci_0 ?_
  refine r_bipush 57 hk dX7_copyFrom_55 rfl cb_8 ?_
  obtain ⟨w4, ew4, h⟩ := lw_e h
  refine r_copy 60 w4 hk dX7_copyFrom_57 rfl km_RX7_53 rfl rfl (mk_7_4 ho1) (mk_7_4 hj) (n := 8) rfl (by decide) rfl rfl (Nat.le_of_ble_eq_true rfl) (Nat.le_of_ble_eq_true rfl) ew4 ?_
  refine r_aload_n 61 hk dX7_copyFrom_60 rfl 0 rfl rfl ?_
  refine r_aload_n 62 hk dX7_copyFrom_61 rfl 1 rfl rfl ?_
  refine r_get 65 hk dX7_copyFrom_62 rfl ff_RX7_37 (mk_7_0 ho1) (gv_7_4 _ _ _) ?_
  obtain ⟨w5, ew5, h⟩ := lw_e h
  refine r_putI 68 w5 hk dX7_copyFrom_65 rfl ff_RX7_37 fi_7_4 (mk_7_0 hj) ew5 ?_
  refine r_aload_n 69 hk dX7_copyFrom_68 rfl 0 rfl rfl ?_
  refine r_aload_n 70 hk dX7_copyFrom_69 rfl 1 rfl rfl ?_
  refine r_get 73 hk dX7_copyFrom_70 rfl ff_RX7_59 (mk_7_0 ho1) (gv_7_5 _ _ _) ?_
  obtain ⟨w6, ew6, h⟩ := lw_e h
  refine r_putI 76 w6 hk dX7_copyFrom_73 rfl ff_RX7_59 fi_7_5 (mk_7_0 hj) ew6 ?_
  refine r_aload_n 77 hk dX7_copyFrom_76 rfl 0 rfl rfl ?_
  refine r_aload_n 78 hk dX7_copyFrom_77 rfl 1 rfl rfl ?_
  refine r_get 81 hk dX7_copyFrom_78 rfl ff_RX7_62 (mk_7_0 ho1) (gv_7_6 _ _ _) ?_
  obtain ⟨w7, ew7, h⟩ := lw_e h
  refine r_putI 84 w7 hk dX7_copyFrom_81 rfl ff_RX7_62 fi_7_6 (mk_7_0 hj) ew7 ?_
  refine r_aload_n 85 hk dX7_copyFrom_84 rfl 0 rfl rfl ?_
  refine r_aload_n 86 hk dX7_copyFrom_85 rfl 1 rfl rfl ?_
  refine r_get 89 hk dX7_copyFrom_86 rfl ff_RX7_65 (mk_7_0 ho1) (gv_7_7 _ _ _) ?_
  obtain ⟨b9, h⟩ := ck_e h
  obtain ⟨w8, ew8, h⟩ := lw_e h
  refine r_putZ 92 w8 hk dX7_copyFrom_89 rfl ff_RX7_65 fi_7_7 b9 (mk_7_0 hj) ew8 ?_
  refine r_aload_n 93 hk dX7_copyFrom_92 rfl 0 rfl rfl ?_
  refine r_aload_n 94 hk dX7_copyFrom_93 rfl 1 rfl rfl ?_
  refine r_get 97 hk dX7_copyFrom_94 rfl ff_RX7_43 (mk_7_0 ho1) (gv_7_8 _ _ _) ?_
  obtain ⟨b11, h⟩ := ck_e h
  obtain ⟨w10, ew10, h⟩ := lw_e h
  refine r_putZ 100 w10 hk dX7_copyFrom_97 rfl ff_RX7_43 fi_7_8 b11 (mk_7_0 hj) ew10 ?_
  refine r_aload_n 101 hk dX7_copyFrom_100 rfl 0 rfl rfl ?_
  refine r_aload_n 102 hk dX7_copyFrom_101 rfl 1 rfl rfl ?_
  refine r_get 105 hk dX7_copyFrom_102 rfl ff_RX7_47 (mk_7_0 ho1) (gv_7_9 _ _ _) ?_
  obtain ⟨w12, ew12, h⟩ := lw_e h
  refine r_putI 108 w12 hk dX7_copyFrom_105 rfl ff_RX7_47 fi_7_9 (mk_7_0 hj) ew12 ?_
  refine r_aload_n 109 hk dX7_copyFrom_108 rfl 0 rfl rfl ?_
  refine r_aload_n 110 hk dX7_copyFrom_109 rfl 1 rfl rfl ?_
  refine r_get 113 hk dX7_copyFrom_110 rfl ff_RX7_50 (mk_7_0 ho1) (gv_7_10 _ _ _) ?_
  obtain ⟨w13, ew13, h⟩ := lw_e h
  refine r_putI 116 w13 hk dX7_copyFrom_113 rfl ff_RX7_50 fi_7_10 (mk_7_0 hj) ew13 ?_
  exact r_vret hk hR dX7_copyFrom_116 h
def fX6_layIn (j : Nat) (o2 : Nat) (w : Wd) (x1 : Int32) : Option (Unit × Wd) :=
  ob (fX6_copyAt j w (x1)) fun r1 w2 =>
  if r1 = 0 then
    some ((), w2)
  else
    ckp r1 21 fun q4 =>
    ob (fX7_copyFrom q4 o2 w2 ) fun _ w6 =>
    some ((), w6)
set_option maxRecDepth 100000 in
set_option maxHeartbeats 4000000 in
theorem kX6_layIn {l : Launch} {G : Gx} {al : Al} {j : Nat} {o2 : Nat} {w : Wd} {x1 : Int32} {r : Unit} {wz : Wd} (hN : NX G) (hj : j < gN G 6) (ho2 : o2 < gN G 7) (h : fX6_layIn j o2 w x1 = some (r, wz)) : MC l G yX6_layIn cX6_layIn 4 none 2 47 al w [.ref (al 6 j 0), .int x1, .ref (al 7 o2 0)] none wz := by
  refine mc_of [(0, .ref (al 6 j 0)), (1, .int x1), (2, .ref (al 7 o2 0))] (by decide) (Nat.le_of_ble_eq_true rfl) rfl ?_
  intro K hk hR hn hl hG
  subst hl; subst hG
  have hk : VH K RX6 cX6_layIn 2 47 := hk
  rw [fX6_layIn.eq_1] at h
  refine r_aload_n 1 hk dX6_layIn_0 rfl 0 rfl rfl ?_
  refine r_iload_n 2 hk dX6_layIn_1 rfl 1 rfl rfl ?_
  obtain ⟨r1, w2, ew2, h⟩ := ob_e h
  refine r_cVp 5 (As := [.int x1]) (rest := []) hk (kX6_copyAt hN hj ew2) cf_RX6_22 mi_X6_copyAt ⟨TX6, 1, rfl⟩ dX6_layIn_2 rfl (Nat.le_of_ble_eq_true rfl) (Nat.le_of_ble_eq_true rfl) (mk_6_0 hj) rfl rfl (Nat.le_of_ble_eq_true rfl) ?_
  by_cases c3 : r1 = 0
  · have h := if_t c3 h
    refine r_pv0 c3 ?_
    refine r_astore_nN 6 [(3, .null), (0, .ref (al 6 j 0)), (1, .int x1), (2, .ref (al 7 o2 0))] hk dX6_layIn_5 rfl rfl hn (by decide) rfl ?_
    refine r_aload_nN 7 hk dX6_layIn_6 rfl 0 rfl rfl ?_
    refine r_ifnull1 15 hk (x := 0) dX6_layIn_7 rfl ?_
    exact r_vret hk hR dX6_layIn_15 h
  · have h := if_f c3 h
    obtain ⟨q4, eq4, lq4, h⟩ := ckp_e h
    refine r_pv1 eq4 ?_
    refine r_astore_n 6 [(3, .ref (al 7 q4 0)), (0, .ref (al 6 j 0)), (1, .int x1), (2, .ref (al 7 o2 0))] hk dX6_layIn_5 rfl rfl hn (by decide) rfl rfl ?_
    refine r_aload_n 7 hk dX6_layIn_6 rfl 0 rfl rfl ?_
    refine r_ifnull0 10 hk dX6_layIn_7 rfl ?_
    refine r_aload_n 11 hk dX6_layIn_10 rfl 0 rfl rfl ?_
    refine r_aload_n 12 hk dX6_layIn_11 rfl 3 rfl rfl ?_
    obtain ⟨r5, w6, ew6, h⟩ := ob_e h
    refine r_cVv 15 (As := [.ref (al 7 o2 0)]) (rest := []) hk (kX7_copyFrom hN (nx_7 hN lq4) ho2 ew6) cf_RX6_26 mi_X7_copyFrom ⟨TX7, 11, rfl⟩ dX6_layIn_12 rfl (Nat.le_of_ble_eq_true rfl) (Nat.le_of_ble_eq_true rfl) (mk_7_0 (nx_7 hN lq4)) rfl rfl (Nat.le_of_ble_eq_true rfl) ?_
    exact r_vret hk hR dX6_layIn_15 h
def fX2_keep (o1 : Nat) (w : Wd) : Option (Unit × Wd) :=
  ob (fX6_layIn 0 o1 w (((w 2 0).1 1))) fun _ w2 =>
  if (16 : Int32) = 0 then none else
  lw (sI w2 2 0 1 (((((w2 2 0).1 1) + 1) - (((w2 2 0).1 1) + 1) / 16 * 16))) fun w4 =>
  lw (sI w4 2 0 2 ((if (16 : Int32) < (((w4 2 0).1 2) + 1) then 16 else (((w4 2 0).1 2) + 1)))) fun w5 =>
  some ((), w5)
set_option maxRecDepth 100000 in
set_option maxHeartbeats 4000000 in
theorem kX2_keep {l : Launch} {G : Gx} {al : Al} {o1 : Nat} {w : Wd} {r : Unit} {wz : Wd} (hN : NX G) (ho1 : o1 < gN G 7) (h : fX2_keep o1 w = some (r, wz)) : MC l G yX2_keep cX2_keep 2 none 3 70 al w [.ref (al 2 0 0), .ref (al 7 o1 0)] none wz := by
  refine mc_of [(0, .ref (al 2 0 0)), (1, .ref (al 7 o1 0))] (by decide) (Nat.le_of_ble_eq_true rfl) rfl ?_
  intro K hk hR hn hl hG
  subst hl; subst hG
  have hk : VH K RX2 cX2_keep 3 70 := hk
  rw [fX2_keep.eq_1] at h
  refine r_aload_n 1 hk dX2_keep_0 rfl 0 rfl rfl ?_
  refine r_get 4 hk dX2_keep_1 rfl ff_RX2_14 (mk_2_0 (nx_2 hN (j := 0) (by decide))) (gv_2_0 _ _ _) ?_
  refine r_aload_n 5 hk dX2_keep_4 rfl 0 rfl rfl ?_
  refine r_get 8 hk dX2_keep_5 rfl ff_RX2_24 (mk_2_0 (nx_2 hN (j := 0) (by decide))) (gv_2_1 _ _ _) ?_
  refine r_aload_n 9 hk dX2_keep_8 rfl 1 rfl rfl ?_
  obtain ⟨r1, w2, ew2, h⟩ := ob_e h
  refine r_cVv 12 (As := [.int (((w 2 0).1 1)), .ref (al 7 o1 0)]) (rest := []) hk (kX6_layIn hN (nx_6 hN (j := 0) (by decide)) ho1 ew2) cf_RX2_27 mi_X6_layIn ⟨TX6, 1, rfl⟩ dX2_keep_9 rfl (Nat.le_of_ble_eq_true rfl) (Nat.le_of_ble_eq_true rfl) (mk_6_0 (nx_6 hN (j := 0) (by decide))) rfl rfl (Nat.le_of_ble_eq_true rfl) ?_
  refine r_aload_n 13 hk dX2_keep_12 rfl 0 rfl rfl ?_
  refine r_aload_n 14 hk dX2_keep_13 rfl 0 rfl rfl ?_
  refine r_get 17 hk dX2_keep_14 rfl ff_RX2_24 (mk_2_0 (nx_2 hN (j := 0) (by decide))) (gv_2_1 _ _ _) ?_
  refine r_iconst 18 hk dX2_keep_17 rfl ci_1 ?_
  refine r_iadd 19 hk dX2_keep_18 rfl ?_
  refine r_bipush 21 hk dX2_keep_19 rfl cb_16 ?_
  by_cases z3 : (16 : Int32) = 0
  · have h := if_t z3 h; cases h
  have h := if_f z3 h
  refine r_irem 22 hk dX2_keep_21 rfl z3 ?_
  obtain ⟨w4, ew4, h⟩ := lw_e h
  refine r_putI 25 w4 hk dX2_keep_22 rfl ff_RX2_24 fi_2_1 (mk_2_0 (nx_2 hN (j := 0) (by decide))) ew4 ?_
  refine r_aload_n 26 hk dX2_keep_25 rfl 0 rfl rfl ?_
  refine r_aload_n 27 hk dX2_keep_26 rfl 0 rfl rfl ?_
  refine r_get 30 hk dX2_keep_27 rfl ff_RX2_20 (mk_2_0 (nx_2 hN (j := 0) (by decide))) (gv_2_2 _ _ _) ?_
  refine r_iconst 31 hk dX2_keep_30 rfl ci_1 ?_
  refine r_iadd 32 hk dX2_keep_31 rfl ?_
  refine r_bipush 34 hk dX2_keep_32 rfl cb_16 ?_
  refine r_min 37 hk dX2_keep_34 rfl km_RX2_31 (Nat.le_of_ble_eq_true rfl) (Nat.le_of_ble_eq_true rfl) ?_
  obtain ⟨w5, ew5, h⟩ := lw_e h
  refine r_putI 40 w5 hk dX2_keep_37 rfl ff_RX2_20 fi_2_2 (mk_2_0 (nx_2 hN (j := 0) (by decide))) ew5 ?_
  exact r_vret hk hR dX2_keep_40 h
def fX6_takeOut (j : Nat) (o2 : Nat) (w : Wd) (x1 : Int32) : Option (Unit × Wd) :=
  ob (fX6_copyAt j w (x1)) fun r1 w2 =>
  if r1 = 0 then
    some ((), w2)
  else
    ckp r1 21 fun q4 =>
    ob (fX7_copyFrom o2 q4 w2 ) fun _ w6 =>
    some ((), w6)
set_option maxRecDepth 100000 in
set_option maxHeartbeats 4000000 in
theorem kX6_takeOut {l : Launch} {G : Gx} {al : Al} {j : Nat} {o2 : Nat} {w : Wd} {x1 : Int32} {r : Unit} {wz : Wd} (hN : NX G) (hj : j < gN G 6) (ho2 : o2 < gN G 7) (h : fX6_takeOut j o2 w x1 = some (r, wz)) : MC l G yX6_takeOut cX6_takeOut 4 none 2 47 al w [.ref (al 6 j 0), .int x1, .ref (al 7 o2 0)] none wz := by
  refine mc_of [(0, .ref (al 6 j 0)), (1, .int x1), (2, .ref (al 7 o2 0))] (by decide) (Nat.le_of_ble_eq_true rfl) rfl ?_
  intro K hk hR hn hl hG
  subst hl; subst hG
  have hk : VH K RX6 cX6_takeOut 2 47 := hk
  rw [fX6_takeOut.eq_1] at h
  refine r_aload_n 1 hk dX6_takeOut_0 rfl 0 rfl rfl ?_
  refine r_iload_n 2 hk dX6_takeOut_1 rfl 1 rfl rfl ?_
  obtain ⟨r1, w2, ew2, h⟩ := ob_e h
  refine r_cVp 5 (As := [.int x1]) (rest := []) hk (kX6_copyAt hN hj ew2) cf_RX6_22 mi_X6_copyAt ⟨TX6, 1, rfl⟩ dX6_takeOut_2 rfl (Nat.le_of_ble_eq_true rfl) (Nat.le_of_ble_eq_true rfl) (mk_6_0 hj) rfl rfl (Nat.le_of_ble_eq_true rfl) ?_
  by_cases c3 : r1 = 0
  · have h := if_t c3 h
    refine r_pv0 c3 ?_
    refine r_astore_nN 6 [(3, .null), (0, .ref (al 6 j 0)), (1, .int x1), (2, .ref (al 7 o2 0))] hk dX6_takeOut_5 rfl rfl hn (by decide) rfl ?_
    refine r_aload_nN 7 hk dX6_takeOut_6 rfl 0 rfl rfl ?_
    refine r_ifnull1 15 hk (x := 0) dX6_takeOut_7 rfl ?_
    exact r_vret hk hR dX6_takeOut_15 h
  · have h := if_f c3 h
    obtain ⟨q4, eq4, lq4, h⟩ := ckp_e h
    refine r_pv1 eq4 ?_
    refine r_astore_n 6 [(3, .ref (al 7 q4 0)), (0, .ref (al 6 j 0)), (1, .int x1), (2, .ref (al 7 o2 0))] hk dX6_takeOut_5 rfl rfl hn (by decide) rfl rfl ?_
    refine r_aload_n 7 hk dX6_takeOut_6 rfl 0 rfl rfl ?_
    refine r_ifnull0 10 hk dX6_takeOut_7 rfl ?_
    refine r_aload_n 11 hk dX6_takeOut_10 rfl 3 rfl rfl ?_
    refine r_aload_n 12 hk dX6_takeOut_11 rfl 0 rfl rfl ?_
    obtain ⟨r5, w6, ew6, h⟩ := ob_e h
    refine r_cVv 15 (As := [.ref (al 7 q4 0)]) (rest := []) hk (kX7_copyFrom hN ho2 (nx_7 hN lq4) ew6) cf_RX6_26 mi_X7_copyFrom ⟨TX7, 11, rfl⟩ dX6_takeOut_12 rfl (Nat.le_of_ble_eq_true rfl) (Nat.le_of_ble_eq_true rfl) (mk_7_0 ho2) rfl rfl (Nat.le_of_ble_eq_true rfl) ?_
    exact r_vret hk hR dX6_takeOut_15 h
def fX2_takeBack (o1 : Nat) (w : Wd) : Option (Unit × Wd) :=
  if (16 : Int32) = 0 then none else
  lw (sI w 2 0 1 ((((((w 2 0).1 1) + 16) - 1) - ((((w 2 0).1 1) + 16) - 1) / 16 * 16))) fun w2 =>
  ob (fX6_takeOut 0 o1 w2 (((w2 2 0).1 1))) fun _ w4 =>
  lw (sI w4 2 0 2 ((((w4 2 0).1 2) - 1))) fun w5 =>
  some ((), w5)
set_option maxRecDepth 100000 in
set_option maxHeartbeats 4000000 in
theorem kX2_takeBack {l : Launch} {G : Gx} {al : Al} {o1 : Nat} {w : Wd} {r : Unit} {wz : Wd} (hN : NX G) (ho1 : o1 < gN G 7) (h : fX2_takeBack o1 w = some (r, wz)) : MC l G yX2_takeBack cX2_takeBack 2 none 3 70 al w [.ref (al 2 0 0), .ref (al 7 o1 0)] none wz := by
  refine mc_of [(0, .ref (al 2 0 0)), (1, .ref (al 7 o1 0))] (by decide) (Nat.le_of_ble_eq_true rfl) rfl ?_
  intro K hk hR hn hl hG
  subst hl; subst hG
  have hk : VH K RX2 cX2_takeBack 3 70 := hk
  rw [fX2_takeBack.eq_1] at h
  refine r_aload_n 1 hk dX2_takeBack_0 rfl 0 rfl rfl ?_
  refine r_aload_n 2 hk dX2_takeBack_1 rfl 0 rfl rfl ?_
  refine r_get 5 hk dX2_takeBack_2 rfl ff_RX2_24 (mk_2_0 (nx_2 hN (j := 0) (by decide))) (gv_2_1 _ _ _) ?_
  refine r_bipush 7 hk dX2_takeBack_5 rfl cb_16 ?_
  refine r_iadd 8 hk dX2_takeBack_7 rfl ?_
  refine r_iconst 9 hk dX2_takeBack_8 rfl ci_1 ?_
  refine r_isub 10 hk dX2_takeBack_9 rfl ?_
  refine r_bipush 12 hk dX2_takeBack_10 rfl cb_16 ?_
  by_cases z1 : (16 : Int32) = 0
  · have h := if_t z1 h; cases h
  have h := if_f z1 h
  refine r_irem 13 hk dX2_takeBack_12 rfl z1 ?_
  obtain ⟨w2, ew2, h⟩ := lw_e h
  refine r_putI 16 w2 hk dX2_takeBack_13 rfl ff_RX2_24 fi_2_1 (mk_2_0 (nx_2 hN (j := 0) (by decide))) ew2 ?_
  refine r_aload_n 17 hk dX2_takeBack_16 rfl 0 rfl rfl ?_
  refine r_get 20 hk dX2_takeBack_17 rfl ff_RX2_14 (mk_2_0 (nx_2 hN (j := 0) (by decide))) (gv_2_0 _ _ _) ?_
  refine r_aload_n 21 hk dX2_takeBack_20 rfl 0 rfl rfl ?_
  refine r_get 24 hk dX2_takeBack_21 rfl ff_RX2_24 (mk_2_0 (nx_2 hN (j := 0) (by decide))) (gv_2_1 _ _ _) ?_
  refine r_aload_n 25 hk dX2_takeBack_24 rfl 1 rfl rfl ?_
  obtain ⟨r3, w4, ew4, h⟩ := ob_e h
  refine r_cVv 28 (As := [.int (((w2 2 0).1 1)), .ref (al 7 o1 0)]) (rest := []) hk (kX6_takeOut hN (nx_6 hN (j := 0) (by decide)) ho1 ew4) cf_RX2_37 mi_X6_takeOut ⟨TX6, 1, rfl⟩ dX2_takeBack_25 rfl (Nat.le_of_ble_eq_true rfl) (Nat.le_of_ble_eq_true rfl) (mk_6_0 (nx_6 hN (j := 0) (by decide))) rfl rfl (Nat.le_of_ble_eq_true rfl) ?_
  refine r_aload_n 29 hk dX2_takeBack_28 rfl 0 rfl rfl ?_
  refine r_dup 30 hk dX2_takeBack_29 rfl rfl ?_
  refine r_get 33 hk dX2_takeBack_30 rfl ff_RX2_20 (mk_2_0 (nx_2 hN (j := 0) (by decide))) (gv_2_2 _ _ _) ?_
  refine r_iconst 34 hk dX2_takeBack_33 rfl ci_1 ?_
  refine r_isub 35 hk dX2_takeBack_34 rfl ?_
  obtain ⟨w5, ew5, h⟩ := lw_e h
  refine r_putI 38 w5 hk dX2_takeBack_35 rfl ff_RX2_20 fi_2_2 (mk_2_0 (nx_2 hN (j := 0) (by decide))) ew5 ?_
  exact r_vret hk hR dX2_takeBack_38 h
def fX3_hasRoom (j : Nat) (w : Wd) : Option (Int32 × Wd) :=
  if (((w 3 j).1 2) : Int32) < 0 then
    some (0, w)
  else
    if ((nI (aln 3 j 0)) : Int32) ≤ ((w 3 j).1 2) then
      some (0, w)
    else
      if ((nI (aln 3 j 1)) : Int32) ≤ ((w 3 j).1 2) then
        some (0, w)
      else
        some (1, w)
set_option maxRecDepth 100000 in
set_option maxHeartbeats 4000000 in
theorem kX3_hasRoom {l : Launch} {G : Gx} {al : Al} {j : Nat} {w : Wd} {r : Int32} {wz : Wd} (hN : NX G) (hj : j < gN G 3) (h : fX3_hasRoom j w = some (r, wz)) : MC l G yX3_hasRoom cX3_hasRoom 1 (some (.boolean)) 0 0 al w [.ref (al 3 j 0)] (some (.int r)) wz := by
  refine mc_of [(0, .ref (al 3 j 0))] (by decide) (Nat.le_of_ble_eq_true rfl) rfl ?_
  intro K hk hR hn hl hG
  subst hl; subst hG
  have hk : VH K RX3 cX3_hasRoom 0 0 := hk
  rw [fX3_hasRoom.eq_1] at h
  refine r_aload_n 1 hk dX3_hasRoom_0 rfl 0 rfl rfl ?_
  refine r_get 4 hk dX3_hasRoom_1 rfl ff_RX3_22 (mk_3_0 hj) (gv_3_2 _ _ _) ?_
  refine r_if_lt 35 7 hk dX3_hasRoom_4 rfl rfl (fun c1 => ?_) (fun c1 => ?_)
  · have h := if_t c1 h
    refine r_iconst 36 hk dX3_hasRoom_35 rfl ci_0 ?_
    exact r_zret hk hR dX3_hasRoom_36 (by decide) h
  · have h := if_f c1 h
    refine r_aload_n 8 hk dX3_hasRoom_7 rfl 0 rfl rfl ?_
    refine r_get 11 hk dX3_hasRoom_8 rfl ff_RX3_22 (mk_3_0 hj) (gv_3_2 _ _ _) ?_
    refine r_aload_n 12 hk dX3_hasRoom_11 rfl 0 rfl rfl ?_
    refine r_get 15 hk dX3_hasRoom_12 rfl ff_RX3_13 (mk_3_0 hj) (gv_3_0 _ _ _) ?_
    refine r_alen 16 hk dX3_hasRoom_15 rfl (mk_3_1 hj) rfl ?_
    refine r_icmp_ge 35 19 hk dX3_hasRoom_16 rfl rfl (fun c2 => ?_) (fun c2 => ?_)
    · have h := if_t c2 h
      refine r_iconst 36 hk dX3_hasRoom_35 rfl ci_0 ?_
      exact r_zret hk hR dX3_hasRoom_36 (by decide) h
    · have h := if_f c2 h
      refine r_aload_n 20 hk dX3_hasRoom_19 rfl 0 rfl rfl ?_
      refine r_get 23 hk dX3_hasRoom_20 rfl ff_RX3_22 (mk_3_0 hj) (gv_3_2 _ _ _) ?_
      refine r_aload_n 24 hk dX3_hasRoom_23 rfl 0 rfl rfl ?_
      refine r_get 27 hk dX3_hasRoom_24 rfl ff_RX3_19 (mk_3_0 hj) (gv_3_1 _ _ _) ?_
      refine r_alen 28 hk dX3_hasRoom_27 rfl (mk_3_2 hj) rfl ?_
      refine r_icmp_ge 35 31 hk dX3_hasRoom_28 rfl rfl (fun c3 => ?_) (fun c3 => ?_)
      · have h := if_t c3 h
        refine r_iconst 36 hk dX3_hasRoom_35 rfl ci_0 ?_
        exact r_zret hk hR dX3_hasRoom_36 (by decide) h
      · have h := if_f c3 h
        refine r_iconst 32 hk dX3_hasRoom_31 rfl ci_1 ?_
        refine r_goto 36 hk (x := 0) dX3_hasRoom_32 rfl ?_
        exact r_zret hk hR dX3_hasRoom_36 (by decide) h
def fX3_addPair (j : Nat) (w : Wd) (x1 : Int32) (x2 : Int32) : Option (Unit × Wd) :=
  ob (fX3_hasRoom j w ) fun r1 w2 =>
  if (r1 : Int32) = 0 then
    some ((), w2)
  else
    ck (inb (((w2 3 j).1 2)) (aln 3 j 0)) <|
    lw (sA w2 3 j 0 (((w2 3 j).1 2) : Int32).toNatClampNeg (x1)) fun w5 =>
    ck (inb (((w5 3 j).1 2)) (aln 3 j 1)) <|
    lw (sA w5 3 j 1 (((w5 3 j).1 2) : Int32).toNatClampNeg (x2)) fun w7 =>
    lw (sI w7 3 j 2 ((((w7 3 j).1 2) + 1))) fun w8 =>
    some ((), w8)
set_option maxRecDepth 100000 in
set_option maxHeartbeats 4000000 in
theorem kX3_addPair {l : Launch} {G : Gx} {al : Al} {j : Nat} {w : Wd} {x1 : Int32} {x2 : Int32} {r : Unit} {wz : Wd} (hN : NX G) (hj : j < gN G 3) (h : fX3_addPair j w x1 x2 = some (r, wz)) : MC l G yX3_addPair cX3_addPair 3 none 1 20 al w [.ref (al 3 j 0), .int x1, .int x2] none wz := by
  refine mc_of [(0, .ref (al 3 j 0)), (1, .int x1), (2, .int x2)] (by decide) (Nat.le_of_ble_eq_true rfl) rfl ?_
  intro K hk hR hn hl hG
  subst hl; subst hG
  have hk : VH K RX3 cX3_addPair 1 20 := hk
  rw [fX3_addPair.eq_1] at h
  refine r_aload_n 1 hk dX3_addPair_0 rfl 0 rfl rfl ?_
  obtain ⟨r1, w2, ew2, h⟩ := ob_e h
  refine r_cVi 4 (As := []) (rest := []) hk (kX3_hasRoom hN hj ew2) cf_RX3_26 mi_X3_hasRoom ⟨TX3, 3, rfl⟩ dX3_addPair_1 rfl (Nat.le_of_ble_eq_true rfl) (Nat.le_of_ble_eq_true rfl) (mk_3_0 hj) rfl rfl (Nat.le_of_ble_eq_true rfl) ?_
  refine r_if_eq 37 7 hk dX3_addPair_4 rfl rfl (fun c3 => ?_) (fun c3 => ?_)
  · have h := if_t c3 h
    exact r_vret hk hR dX3_addPair_37 h
  · have h := if_f c3 h
    refine r_aload_n 8 hk dX3_addPair_7 rfl 0 rfl rfl ?_
    refine r_get 11 hk dX3_addPair_8 rfl ff_RX3_13 (mk_3_0 hj) (gv_3_0 _ _ _) ?_
    refine r_aload_n 12 hk dX3_addPair_11 rfl 0 rfl rfl ?_
    refine r_get 15 hk dX3_addPair_12 rfl ff_RX3_22 (mk_3_0 hj) (gv_3_2 _ _ _) ?_
    refine r_iload_n 16 hk dX3_addPair_15 rfl 1 rfl rfl ?_
    obtain ⟨b4, h⟩ := ck_e h
    obtain ⟨w5, ew5, h⟩ := lw_e h
    refine r_iast 17 w5 hk dX3_addPair_16 rfl rfl (mk_3_1 hj) rfl b4 ew5 ?_
    refine r_aload_n 18 hk dX3_addPair_17 rfl 0 rfl rfl ?_
    refine r_get 21 hk dX3_addPair_18 rfl ff_RX3_19 (mk_3_0 hj) (gv_3_1 _ _ _) ?_
    refine r_aload_n 22 hk dX3_addPair_21 rfl 0 rfl rfl ?_
    refine r_get 25 hk dX3_addPair_22 rfl ff_RX3_22 (mk_3_0 hj) (gv_3_2 _ _ _) ?_
    refine r_iload_n 26 hk dX3_addPair_25 rfl 2 rfl rfl ?_
    obtain ⟨b6, h⟩ := ck_e h
    obtain ⟨w7, ew7, h⟩ := lw_e h
    refine r_iast 27 w7 hk dX3_addPair_26 rfl rfl (mk_3_2 hj) rfl b6 ew7 ?_
    refine r_aload_n 28 hk dX3_addPair_27 rfl 0 rfl rfl ?_
    refine r_dup 29 hk dX3_addPair_28 rfl rfl ?_
    refine r_get 32 hk dX3_addPair_29 rfl ff_RX3_22 (mk_3_0 hj) (gv_3_2 _ _ _) ?_
    refine r_iconst 33 hk dX3_addPair_32 rfl ci_1 ?_
    refine r_iadd 34 hk dX3_addPair_33 rfl ?_
    obtain ⟨w8, ew8, h⟩ := lw_e h
    refine r_putI 37 w8 hk dX3_addPair_34 rfl ff_RX3_22 fi_3_2 (mk_3_0 hj) ew8 ?_
    exact r_vret hk hR dX3_addPair_37 h
def fX3_firstOf (j : Nat) (w : Wd) (x1 : Int32) : Option (Int32 × Wd) :=
  ob (fX9_at 3 j 0 w (x1)) fun r1 w2 =>
  some (r1, w2)
set_option maxRecDepth 100000 in
set_option maxHeartbeats 4000000 in
theorem kX3_firstOf {l : Launch} {G : Gx} {al : Al} {j : Nat} {w : Wd} {x1 : Int32} {r : Int32} {wz : Wd} (hN : NX G) (hj : j < gN G 3) (h : fX3_firstOf j w x1 = some (r, wz)) : MC l G yX3_firstOf cX3_firstOf 2 (some (.int)) 1 21 al w [.ref (al 3 j 0), .int x1] (some (.int r)) wz := by
  refine mc_of [(0, .ref (al 3 j 0)), (1, .int x1)] (by decide) (Nat.le_of_ble_eq_true rfl) rfl ?_
  intro K hk hR hn hl hG
  subst hl; subst hG
  have hk : VH K RX3 cX3_firstOf 1 21 := hk
  rw [fX3_firstOf.eq_1] at h
  refine r_aload_n 1 hk dX3_firstOf_0 rfl 0 rfl rfl ?_
  refine r_get 4 hk dX3_firstOf_1 rfl ff_RX3_13 (mk_3_0 hj) (gv_3_0 _ _ _) ?_
  refine r_iload_n 5 hk dX3_firstOf_4 rfl 1 rfl rfl ?_
  obtain ⟨r1, w2, ew2, h⟩ := ob_e h
  refine r_cSi 8 (As := [.ref (al 3 j 1), .int x1]) (rest := []) hk (kX9_at hN rfl (mk_3_1 hj) ew2) cf_RX3_30 ms_X9_at dX3_firstOf_5 rfl (Nat.le_of_ble_eq_true rfl) (Nat.le_of_ble_eq_true rfl) rfl rfl (Nat.le_of_ble_eq_true rfl) ?_
  exact r_iret hk hR dX3_firstOf_8 h
def fX3_secondOf (j : Nat) (w : Wd) (x1 : Int32) : Option (Int32 × Wd) :=
  ob (fX9_at 3 j 1 w (x1)) fun r1 w2 =>
  some (r1, w2)
set_option maxRecDepth 100000 in
set_option maxHeartbeats 4000000 in
theorem kX3_secondOf {l : Launch} {G : Gx} {al : Al} {j : Nat} {w : Wd} {x1 : Int32} {r : Int32} {wz : Wd} (hN : NX G) (hj : j < gN G 3) (h : fX3_secondOf j w x1 = some (r, wz)) : MC l G yX3_secondOf cX3_secondOf 2 (some (.int)) 1 21 al w [.ref (al 3 j 0), .int x1] (some (.int r)) wz := by
  refine mc_of [(0, .ref (al 3 j 0)), (1, .int x1)] (by decide) (Nat.le_of_ble_eq_true rfl) rfl ?_
  intro K hk hR hn hl hG
  subst hl; subst hG
  have hk : VH K RX3 cX3_secondOf 1 21 := hk
  rw [fX3_secondOf.eq_1] at h
  refine r_aload_n 1 hk dX3_secondOf_0 rfl 0 rfl rfl ?_
  refine r_get 4 hk dX3_secondOf_1 rfl ff_RX3_19 (mk_3_0 hj) (gv_3_1 _ _ _) ?_
  refine r_iload_n 5 hk dX3_secondOf_4 rfl 1 rfl rfl ?_
  obtain ⟨r1, w2, ew2, h⟩ := ob_e h
  refine r_cSi 8 (As := [.ref (al 3 j 2), .int x1]) (rest := []) hk (kX9_at hN rfl (mk_3_2 hj) ew2) cf_RX3_30 ms_X9_at dX3_secondOf_5 rfl (Nat.le_of_ble_eq_true rfl) (Nat.le_of_ble_eq_true rfl) rfl rfl (Nat.le_of_ble_eq_true rfl) ?_
  exact r_iret hk hR dX3_secondOf_8 h
def fX3_hasFirst_2 (j : Nat) : Nat → Wd → Int32 → Int32 → Option (Int32 × Wd)
  | 0, _, _, _ => none
  | n + 1, w, x1, x2 =>
    if (((w 3 j).1 2) : Int32) ≤ x2 then
      some (0, w)
    else
      if ((nI (aln 3 j 0)) : Int32) ≤ x2 then
        some (0, w)
      else
        ck (inb (x2) (aln 3 j 0)) <|
        if (((w 3 j).2.1 0 (x2 : Int32).toNatClampNeg) : Int32) = x1 then
          some (1, w)
        else
          lw (x2 + 1) fun x2_5 =>
          fX3_hasFirst_2 j n w (x1) (x2_5)
def fX3_hasFirst (j : Nat) (w : Wd) (x1 : Int32) : Option (Int32 × Wd) :=
  fX3_hasFirst_2 j fuel0 w (x1) (0)
set_option maxRecDepth 100000 in
set_option maxHeartbeats 4000000 in
theorem sX3_hasFirst_2 {K : VC} {al : Al} {r : Int32} {wz : Wd} {j : Nat} (hk : VH K RX3 cX3_hasFirst 0 0) (hR : VR K al (some (.boolean)) (some (.int r)) wz) (hn : kn K = 3) (hN : NX (kG K)) (hj : j < gN (kG K) 3) : ∀ (n : Nat) (w : Wd) (x1 : Int32) (x2 : Int32), fX3_hasFirst_2 j n w x1 x2 = some (r, wz) → V K al w 2 [(0, .ref (al 3 j 0)), (1, .int x1), (2, .int x2)] [] := by
  intro n
  induction n with
  | zero => intro w x1 x2 h; cases h
  | succ n ih =>
    intro w x1 x2 h
    rw [fX3_hasFirst_2.eq_2] at h
    refine r_iload_n 3 hk dX3_hasFirst_2 rfl 2 rfl rfl ?_
    refine r_aload_n 4 hk dX3_hasFirst_3 rfl 0 rfl rfl ?_
    refine r_get 7 hk dX3_hasFirst_4 rfl ff_RX3_22 (mk_3_0 hj) (gv_3_2 _ _ _) ?_
    refine r_icmp_ge 37 10 hk dX3_hasFirst_7 rfl rfl (fun c1 => ?_) (fun c1 => ?_)
    · have h := if_t c1 h
      refine r_iconst 38 hk dX3_hasFirst_37 rfl ci_0 ?_
      exact r_zret hk hR dX3_hasFirst_38 (by decide) h
    · have h := if_f c1 h
      refine r_iload_n 11 hk dX3_hasFirst_10 rfl 2 rfl rfl ?_
      refine r_aload_n 12 hk dX3_hasFirst_11 rfl 0 rfl rfl ?_
      refine r_get 15 hk dX3_hasFirst_12 rfl ff_RX3_13 (mk_3_0 hj) (gv_3_0 _ _ _) ?_
      refine r_alen 16 hk dX3_hasFirst_15 rfl (mk_3_1 hj) rfl ?_
      refine r_icmp_ge 37 19 hk dX3_hasFirst_16 rfl rfl (fun c2 => ?_) (fun c2 => ?_)
      · have h := if_t c2 h
        refine r_iconst 38 hk dX3_hasFirst_37 rfl ci_0 ?_
        exact r_zret hk hR dX3_hasFirst_38 (by decide) h
      · have h := if_f c2 h
        refine r_aload_n 20 hk dX3_hasFirst_19 rfl 0 rfl rfl ?_
        refine r_get 23 hk dX3_hasFirst_20 rfl ff_RX3_13 (mk_3_0 hj) (gv_3_0 _ _ _) ?_
        refine r_iload_n 24 hk dX3_hasFirst_23 rfl 2 rfl rfl ?_
        obtain ⟨b3, h⟩ := ck_e h
        refine r_iald 25 hk dX3_hasFirst_24 rfl rfl (mk_3_1 hj) rfl b3 ?_
        refine r_iload_n 26 hk dX3_hasFirst_25 rfl 1 rfl rfl ?_
        refine r_icmp_ne 31 29 hk dX3_hasFirst_26 rfl rfl (fun c4 => ?_) (fun c4 => ?_)
        · have h := if_f c4 h
          obtain ⟨x2_5, ex2_5, h⟩ := lw_e h
          refine r_iinc 34 [(2, .int x2_5), (0, .ref (al 3 j 0)), (1, .int x1)] hk (j := 2) dX3_hasFirst_31 rfl hn (by decide) rfl ex2_5 rfl ?_
          refine r_goto 2 hk (x := 0) dX3_hasFirst_34 rfl ?_
          refine r_sub [1, 2, 0] rfl ?_
          exact ih _ _ _ h
        · have h := if_t c4 h
          refine r_iconst 30 hk dX3_hasFirst_29 rfl ci_1 ?_
          exact r_zret hk hR dX3_hasFirst_30 (by decide) h
set_option maxRecDepth 100000 in
set_option maxHeartbeats 4000000 in
theorem kX3_hasFirst {l : Launch} {G : Gx} {al : Al} {j : Nat} {w : Wd} {x1 : Int32} {r : Int32} {wz : Wd} (hN : NX G) (hj : j < gN G 3) (h : fX3_hasFirst j w x1 = some (r, wz)) : MC l G yX3_hasFirst cX3_hasFirst 3 (some (.boolean)) 0 0 al w [.ref (al 3 j 0), .int x1] (some (.int r)) wz := by
  refine mc_of [(0, .ref (al 3 j 0)), (1, .int x1)] (by decide) (Nat.le_of_ble_eq_true rfl) rfl ?_
  intro K hk hR hn hl hG
  subst hl; subst hG
  have hk : VH K RX3 cX3_hasFirst 0 0 := hk
  rw [fX3_hasFirst.eq_1] at h
  refine r_iconst 1 hk dX3_hasFirst_0 rfl ci_0 ?_
  refine r_istore_n 2 [(2, .int 0), (0, .ref (al 3 j 0)), (1, .int x1)] hk dX3_hasFirst_1 rfl rfl hn (by decide) rfl rfl ?_
  refine r_sub [1, 2, 0] rfl ?_
  exact sX3_hasFirst_2 hk hR hn hN hj _ _ _ _ h
def fX5_empty (j : Nat) (w : Wd) : Option (Unit × Wd) :=
  lw (sI w 5 j 3 (0)) fun w1 =>
  lw (sI w1 5 j 4 (0)) fun w2 =>
  lw (sI w2 5 j 5 (0)) fun w3 =>
  lw (sI w3 5 j 6 (0)) fun w4 =>
  lw (sI w4 5 j 7 (0)) fun w5 =>
  some ((), w5)
set_option maxRecDepth 100000 in
set_option maxHeartbeats 4000000 in
theorem kX5_empty {l : Launch} {G : Gx} {al : Al} {j : Nat} {w : Wd} {r : Unit} {wz : Wd} (hN : NX G) (hj : j < gN G 5) (h : fX5_empty j w = some (r, wz)) : MC l G yX5_empty cX5_empty 1 none 0 0 al w [.ref (al 5 j 0)] none wz := by
  refine mc_of [(0, .ref (al 5 j 0))] (by decide) (Nat.le_of_ble_eq_true rfl) rfl ?_
  intro K hk hR hn hl hG
  subst hl; subst hG
  have hk : VH K RX5 cX5_empty 0 0 := hk
  rw [fX5_empty.eq_1] at h
  refine r_aload_n 1 hk dX5_empty_0 rfl 0 rfl rfl ?_
  refine r_iconst 2 hk dX5_empty_1 rfl ci_0 ?_
  obtain ⟨w1, ew1, h⟩ := lw_e h
  refine r_putI 5 w1 hk dX5_empty_2 rfl ff_RX5_21 fi_5_3 (mk_5_0 hj) ew1 ?_
  refine r_aload_n 6 hk dX5_empty_5 rfl 0 rfl rfl ?_
  refine r_iconst 7 hk dX5_empty_6 rfl ci_0 ?_
  obtain ⟨w2, ew2, h⟩ := lw_e h
  refine r_putI 10 w2 hk dX5_empty_7 rfl ff_RX5_25 fi_5_4 (mk_5_0 hj) ew2 ?_
  refine r_aload_n 11 hk dX5_empty_10 rfl 0 rfl rfl ?_
  refine r_iconst 12 hk dX5_empty_11 rfl ci_0 ?_
  obtain ⟨w3, ew3, h⟩ := lw_e h
  refine r_putI 15 w3 hk dX5_empty_12 rfl ff_RX5_28 fi_5_5 (mk_5_0 hj) ew3 ?_
  refine r_aload_n 16 hk dX5_empty_15 rfl 0 rfl rfl ?_
  refine r_iconst 17 hk dX5_empty_16 rfl ci_0 ?_
  obtain ⟨w4, ew4, h⟩ := lw_e h
  refine r_putI 20 w4 hk dX5_empty_17 rfl ff_RX5_31 fi_5_6 (mk_5_0 hj) ew4 ?_
  refine r_aload_n 21 hk dX5_empty_20 rfl 0 rfl rfl ?_
  refine r_iconst 22 hk dX5_empty_21 rfl ci_0 ?_
  obtain ⟨w5, ew5, h⟩ := lw_e h
  refine r_putZ 25 w5 hk dX5_empty_22 rfl ff_RX5_34 fi_5_7 (by decide) (mk_5_0 hj) ew5 ?_
  exact r_vret hk hR dX5_empty_25 h
def fX8_empty (j : Nat) (w : Wd) : Option (Unit × Wd) :=
  ob (fX5_empty j w ) fun _ w2 =>
  lw (sI w2 3 (4 * j) 2 (0)) fun w3 =>
  lw (sI w3 3 (4 * j + 1) 2 (0)) fun w4 =>
  lw (sI w4 3 (4 * j + 2) 2 (0)) fun w5 =>
  lw (sI w5 3 (4 * j + 3) 2 (0)) fun w6 =>
  some ((), w6)
set_option maxRecDepth 100000 in
set_option maxHeartbeats 4000000 in
theorem kX8_empty {l : Launch} {G : Gx} {al : Al} {j : Nat} {w : Wd} {r : Unit} {wz : Wd} (hN : NX G) (hj : j < gN G 8) (h : fX8_empty j w = some (r, wz)) : MC l G yX8_empty cX8_empty 1 none 1 20 al w [.ref (al 8 j 0)] none wz := by
  refine mc_of [(0, .ref (al 8 j 0))] (by decide) (Nat.le_of_ble_eq_true rfl) rfl ?_
  intro K hk hR hn hl hG
  subst hl; subst hG
  have hk : VH K RX8 cX8_empty 1 20 := hk
  rw [fX8_empty.eq_1] at h
  refine r_aload_n 1 hk dX8_empty_0 rfl 0 rfl rfl ?_
  refine r_get 4 hk dX8_empty_1 rfl ff_RX8_12 (mk_8_0 hj) (gv_8_0 _ _ _) ?_
  obtain ⟨r1, w2, ew2, h⟩ := ob_e h
  refine r_cVv 7 (As := []) (rest := []) hk (kX5_empty hN (nx_sh hN hj) ew2) cf_RX8_36 mi_X5_empty ⟨TX5, 8, rfl⟩ dX8_empty_4 rfl (Nat.le_of_ble_eq_true rfl) (Nat.le_of_ble_eq_true rfl) (mk_5_0 (nx_sh hN hj)) rfl rfl (Nat.le_of_ble_eq_true rfl) ?_
  refine r_aload_n 8 hk dX8_empty_7 rfl 0 rfl rfl ?_
  refine r_get 11 hk dX8_empty_8 rfl ff_RX8_23 (mk_8_0 hj) (gv_8_1 _ _ _) ?_
  refine r_iconst 12 hk dX8_empty_11 rfl ci_0 ?_
  obtain ⟨w3, ew3, h⟩ := lw_e h
  refine r_putI 15 w3 hk dX8_empty_12 rfl ff_RX8_39 fi_3_2 (mk_3_0 (nx_pr0 hN hj)) ew3 ?_
  refine r_aload_n 16 hk dX8_empty_15 rfl 0 rfl rfl ?_
  refine r_get 19 hk dX8_empty_16 rfl ff_RX8_27 (mk_8_0 hj) (gv_8_2 _ _ _) ?_
  refine r_iconst 20 hk dX8_empty_19 rfl ci_0 ?_
  obtain ⟨w4, ew4, h⟩ := lw_e h
  refine r_putI 23 w4 hk dX8_empty_20 rfl ff_RX8_39 fi_3_2 (mk_3_0 (nx_pr1 hN hj)) ew4 ?_
  refine r_aload_n 24 hk dX8_empty_23 rfl 0 rfl rfl ?_
  refine r_get 27 hk dX8_empty_24 rfl ff_RX8_30 (mk_8_0 hj) (gv_8_3 _ _ _) ?_
  refine r_iconst 28 hk dX8_empty_27 rfl ci_0 ?_
  obtain ⟨w5, ew5, h⟩ := lw_e h
  refine r_putI 31 w5 hk dX8_empty_28 rfl ff_RX8_39 fi_3_2 (mk_3_0 (nx_pr2 hN hj)) ew5 ?_
  refine r_aload_n 32 hk dX8_empty_31 rfl 0 rfl rfl ?_
  refine r_get 35 hk dX8_empty_32 rfl ff_RX8_33 (mk_8_0 hj) (gv_8_4 _ _ _) ?_
  refine r_iconst 36 hk dX8_empty_35 rfl ci_0 ?_
  obtain ⟨w6, ew6, h⟩ := lw_e h
  refine r_putI 39 w6 hk dX8_empty_36 rfl ff_RX8_39 fi_3_2 (mk_3_0 (nx_pr3 hN hj)) ew6 ?_
  exact r_vret hk hR dX8_empty_39 h
def fX4_byteAt (w : Wd) (x1 : Int32) : Option (Int32 × Wd) :=
  if (x1 : Int32) < 0 then
    some (0, w)
  else
    if (((w 4 0).1 1) : Int32) ≤ x1 then
      some (0, w)
    else
      if ((nI 700) : Int32) ≤ x1 then
        some (0, w)
      else
        ck (inb (x1) 700) <|
        some (((w 9 0).2.1 0 (x1 : Int32).toNatClampNeg), w)
set_option maxRecDepth 100000 in
set_option maxHeartbeats 4000000 in
theorem kX4_byteAt {l : Launch} {G : Gx} {al : Al} {w : Wd} {x1 : Int32} {r : Int32} {wz : Wd} (hN : NX G) (h : fX4_byteAt w x1 = some (r, wz)) : MC l G yX4_byteAt cX4_byteAt 2 (some (.int)) 0 0 al w [.ref (al 4 0 0), .int x1] (some (.int r)) wz := by
  refine mc_of [(0, .ref (al 4 0 0)), (1, .int x1)] (by decide) (Nat.le_of_ble_eq_true rfl) rfl ?_
  intro K hk hR hn hl hG
  subst hl; subst hG
  have hk : VH K RX4 cX4_byteAt 0 0 := hk
  rw [fX4_byteAt.eq_1] at h
  refine r_iload_n 1 hk dX4_byteAt_0 rfl 1 rfl rfl ?_
  refine r_if_lt 30 4 hk dX4_byteAt_1 rfl rfl (fun c1 => ?_) (fun c1 => ?_)
  · have h := if_t c1 h
    refine r_iconst 31 hk dX4_byteAt_30 rfl ci_0 ?_
    exact r_iret hk hR dX4_byteAt_31 h
  · have h := if_f c1 h
    refine r_iload_n 5 hk dX4_byteAt_4 rfl 1 rfl rfl ?_
    refine r_aload_n 6 hk dX4_byteAt_5 rfl 0 rfl rfl ?_
    refine r_get 9 hk dX4_byteAt_6 rfl ff_RX4_25 (mk_4_0 (nx_4 hN (j := 0) (by decide))) (gv_4_1 _ _ _) ?_
    refine r_icmp_ge 30 12 hk dX4_byteAt_9 rfl rfl (fun c2 => ?_) (fun c2 => ?_)
    · have h := if_t c2 h
      refine r_iconst 31 hk dX4_byteAt_30 rfl ci_0 ?_
      exact r_iret hk hR dX4_byteAt_31 h
    · have h := if_f c2 h
      refine r_iload_n 13 hk dX4_byteAt_12 rfl 1 rfl rfl ?_
      refine r_aload_n 14 hk dX4_byteAt_13 rfl 0 rfl rfl ?_
      refine r_get 17 hk dX4_byteAt_14 rfl ff_RX4_9 (mk_4_0 (nx_4 hN (j := 0) (by decide))) (gv_4_0 _ _ _) ?_
      refine r_alen 18 hk dX4_byteAt_17 rfl (mk_9_1 (nx_9 hN (j := 0) (by decide))) rfl ?_
      refine r_icmp_ge 30 21 hk dX4_byteAt_18 rfl rfl (fun c3 => ?_) (fun c3 => ?_)
      · have h := if_t c3 h
        refine r_iconst 31 hk dX4_byteAt_30 rfl ci_0 ?_
        exact r_iret hk hR dX4_byteAt_31 h
      · have h := if_f c3 h
        refine r_aload_n 22 hk dX4_byteAt_21 rfl 0 rfl rfl ?_
        refine r_get 25 hk dX4_byteAt_22 rfl ff_RX4_9 (mk_4_0 (nx_4 hN (j := 0) (by decide))) (gv_4_0 _ _ _) ?_
        refine r_iload_n 26 hk dX4_byteAt_25 rfl 1 rfl rfl ?_
        obtain ⟨b4, h⟩ := ck_e h
        refine r_bald 27 hk dX4_byteAt_26 rfl rfl (mk_9_1 (nx_9 hN (j := 0) (by decide))) rfl b4 ?_
        refine r_goto 31 hk (x := 0) dX4_byteAt_27 rfl ?_
        exact r_iret hk hR dX4_byteAt_31 h
