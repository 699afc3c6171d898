def fX7_extentLength_4 (j : Nat) : Nat → Wd → Int32 → Int32 → Int32 → Option (Int32 × Wd)
  | 0, _, _, _, _ => none
  | n + 1, w, x1, x2, x3 =>
    if (x2 : Int32) ≤ x3 then
      some ((x3 - x1), w)
    else
      ob (fX7_livePlaceOf j w (x3)) fun r3 w4 =>
      if (r3 : Int32) < 0 then
        some ((x3 - x1), w4)
      else
        ob (fX7_beginsExtent j w4 (x3)) fun r6 w7 =>
        if (r6 : Int32) = 0 then
          lw (x3 + 1) fun x3_9 =>
          fX7_extentLength_4 j n w7 (x1) (x2) (x3_9)
        else
          some ((x3 - x1), w7)
def fX7_extentLength (j : Nat) (w : Wd) (x1 : Int32) (x2 : Int32) : Option (Int32 × Wd) :=
  lw ((x1 + 1)) fun x3_1 =>
  fX7_extentLength_4 j fuel0 w (x1) (x2) (x3_1)
set_option maxRecDepth 100000 in
set_option maxHeartbeats 4000000 in
theorem sX7_extentLength_4 {K : VC} {al : Al} {r : Int32} {wz : Wd} {j : Nat} (hk : VH K RX7 cX7_extentLength 3 65) (hR : VR K al (some (.int)) (some (.int r)) wz) (hn : kn K = 4) (hN : NX (kG K)) (hj : j < gN (kG K) 7) : ∀ (n : Nat) (w : Wd) (x1 : Int32) (x2 : Int32) (x3 : Int32), fX7_extentLength_4 j n w x1 x2 x3 = some (r, wz) → V K al w 4 [(0, .ref (al 7 j 0)), (1, .int x1), (2, .int x2), (3, .int x3)] [] := by
  intro n
  induction n with
  | zero => intro w x1 x2 x3 h; cases h
  | succ n ih =>
    intro w x1 x2 x3 h
    rw [fX7_extentLength_4.eq_2] at h
    refine r_iload_n 5 hk dX7_extentLength_4 rfl 3 rfl rfl ?_
    refine r_iload_n 6 hk dX7_extentLength_5 rfl 2 rfl rfl ?_
    refine r_icmp_ge 31 9 hk dX7_extentLength_6 rfl rfl (fun c2 => ?_) (fun c2 => ?_)
    · have h := if_t c2 h
      refine r_iload_n 32 hk dX7_extentLength_31 rfl 3 rfl rfl ?_
      refine r_iload_n 33 hk dX7_extentLength_32 rfl 1 rfl rfl ?_
      refine r_isub 34 hk dX7_extentLength_33 rfl ?_
      exact r_iret hk hR dX7_extentLength_34 h
    · have h := if_f c2 h
      refine r_aload_n 10 hk dX7_extentLength_9 rfl 0 rfl rfl ?_
      refine r_iload_n 11 hk dX7_extentLength_10 rfl 3 rfl rfl ?_
      obtain ⟨r3, w4, ew4, h⟩ := ob_e h
      refine r_cVi 14 (As := [.int x3]) (rest := []) hk (kX7_livePlaceOf hN hj ew4) cf_RX7_78 mi_X7_livePlaceOf ⟨TX7, 11, rfl⟩ dX7_extentLength_11 rfl (Nat.le_of_ble_eq_true rfl) (Nat.le_of_ble_eq_true rfl) (mk_7_0 hj) rfl rfl (Nat.le_of_ble_eq_true rfl) ?_
      refine r_if_lt 31 17 hk dX7_extentLength_14 rfl rfl (fun c5 => ?_) (fun c5 => ?_)
      · have h := if_t c5 h
        refine r_iload_n 32 hk dX7_extentLength_31 rfl 3 rfl rfl ?_
        refine r_iload_n 33 hk dX7_extentLength_32 rfl 1 rfl rfl ?_
        refine r_isub 34 hk dX7_extentLength_33 rfl ?_
        exact r_iret hk hR dX7_extentLength_34 h
      · have h := if_f c5 h
        refine r_aload_n 18 hk dX7_extentLength_17 rfl 0 rfl rfl ?_
        refine r_iload_n 19 hk dX7_extentLength_18 rfl 3 rfl rfl ?_
        obtain ⟨r6, w7, ew7, h⟩ := ob_e h
        refine r_cVi 22 (As := [.int x3]) (rest := []) hk (kX7_beginsExtent hN hj ew7) cf_RX7_101 mi_X7_beginsExtent ⟨TX7, 11, rfl⟩ dX7_extentLength_19 rfl (Nat.le_of_ble_eq_true rfl) (Nat.le_of_ble_eq_true rfl) (mk_7_0 hj) rfl rfl (Nat.le_of_ble_eq_true rfl) ?_
        refine r_if_ne 31 25 hk dX7_extentLength_22 rfl rfl (fun c8 => ?_) (fun c8 => ?_)
        · have h := if_f c8 h
          refine r_iload_n 32 hk dX7_extentLength_31 rfl 3 rfl rfl ?_
          refine r_iload_n 33 hk dX7_extentLength_32 rfl 1 rfl rfl ?_
          refine r_isub 34 hk dX7_extentLength_33 rfl ?_
          exact r_iret hk hR dX7_extentLength_34 h
        · have h := if_t c8 h
          obtain ⟨x3_9, ex3_9, h⟩ := lw_e h
          refine r_iinc 28 [(3, .int x3_9), (0, .ref (al 7 j 0)), (1, .int x1), (2, .int x2)] hk (j := 3) dX7_extentLength_25 rfl hn (by decide) rfl ex3_9 rfl ?_
          refine r_goto 4 hk (x := 0) dX7_extentLength_28 rfl ?_
          refine r_sub [1, 2, 3, 0] rfl ?_
          exact ih _ _ _ _ h
set_option maxRecDepth 100000 in
set_option maxHeartbeats 4000000 in
theorem kX7_extentLength {l : Launch} {G : Gx} {al : Al} {j : Nat} {w : Wd} {x1 : Int32} {x2 : Int32} {r : Int32} {wz : Wd} (hN : NX G) (hj : j < gN G 7) (h : fX7_extentLength j w x1 x2 = some (r, wz)) : MC l G yX7_extentLength cX7_extentLength 4 (some (.int)) 3 65 al w [.ref (al 7 j 0), .int x1, .int x2] (some (.int r)) wz := by
  refine mc_of [(0, .ref (al 7 j 0)), (1, .int x1), (2, .int x2)] (by decide) (Nat.le_of_ble_eq_true rfl) rfl ?_
  intro K hk hR hn hl hG
  subst hl; subst hG
  have hk : VH K RX7 cX7_extentLength 3 65 := hk
  rw [fX7_extentLength.eq_1] at h
  refine r_iload_n 1 hk dX7_extentLength_0 rfl 1 rfl rfl ?_
  refine r_iconst 2 hk dX7_extentLength_1 rfl ci_1 ?_
  refine r_iadd 3 hk dX7_extentLength_2 rfl ?_
  obtain ⟨x3_1, ex3_1, h⟩ := lw_e h
  refine r_istore_n 4 [(3, .int x3_1), (0, .ref (al 7 j 0)), (1, .int x1), (2, .int x2)] hk dX7_extentLength_3 rfl rfl hn (by decide) ex3_1 rfl ?_
  refine r_sub [1, 2, 3, 0] rfl ?_
  exact sX7_extentLength_4 hk hR hn hN hj _ _ _ _ _ h
def fX8_valueWritten_2 (j : Nat) : Nat → Wd → Int32 → Int32 → Int32 → Option (Int32 × Wd)
  | 0, _, _, _, _ => none
  | n + 1, w, x1, x2, x3 =>
    if (((w 3 (4 * j + 2)).1 2) : Int32) ≤ x3 then
      ob (fX3_secondOf (4 * j + 1) w (x1)) fun r2 w3 =>
      some (r2, w3)
    else
      if (((x2 >>> (x3 &&& 31)) &&& 1) : Int32) = 1 then
        ob (fX3_firstOf (4 * j + 2) w (x3)) fun r6 w7 =>
        if (r6 : Int32) = x1 then
          ob (fX3_secondOf (4 * j + 2) w7 (x3)) fun r10 w11 =>
          some (r10, w11)
        else
          lw (x3 + 1) fun x3_9 =>
          fX8_valueWritten_2 j n w7 (x1) (x2) (x3_9)
      else
        lw (x3 + 1) fun x3_5 =>
        fX8_valueWritten_2 j n w (x1) (x2) (x3_5)
def fX8_valueWritten (j : Nat) (w : Wd) (x1 : Int32) (x2 : Int32) : Option (Int32 × Wd) :=
  fX8_valueWritten_2 j fuel0 w (x1) (x2) (0)
set_option maxRecDepth 100000 in
set_option maxHeartbeats 4000000 in
theorem sX8_valueWritten_2 {K : VC} {al : Al} {r : Int32} {wz : Wd} {j : Nat} (hk : VH K RX8 cX8_valueWritten 2 42) (hR : VR K al (some (.int)) (some (.int r)) wz) (hn : kn K = 4) (hN : NX (kG K)) (hj : j < gN (kG K) 8) : ∀ (n : Nat) (w : Wd) (x1 : Int32) (x2 : Int32) (x3 : Int32), fX8_valueWritten_2 j n w x1 x2 x3 = some (r, wz) → V K al w 2 [(0, .ref (al 8 j 0)), (1, .int x1), (2, .int x2), (3, .int x3)] [] := by
  intro n
  induction n with
  | zero => intro w x1 x2 x3 h; cases h
  | succ n ih =>
    intro w x1 x2 x3 h
    rw [fX8_valueWritten_2.eq_2] at h
    refine r_iload_n 3 hk dX8_valueWritten_2 rfl 3 rfl rfl ?_
    refine r_aload_n 4 hk dX8_valueWritten_3 rfl 0 rfl rfl ?_
    refine r_get 7 hk dX8_valueWritten_4 rfl ff_RX8_30 (mk_8_0 hj) (gv_8_3 _ _ _) ?_
    refine r_get 10 hk dX8_valueWritten_7 rfl ff_RX8_39 (mk_3_0 (nx_pr2 hN hj)) (gv_3_2 _ _ _) ?_
    refine r_icmp_ge 49 13 hk dX8_valueWritten_10 rfl rfl (fun c1 => ?_) (fun c1 => ?_)
    · have h := if_t c1 h
      refine r_aload_n 50 hk dX8_valueWritten_49 rfl 0 rfl rfl ?_
      refine r_get 53 hk dX8_valueWritten_50 rfl ff_RX8_27 (mk_8_0 hj) (gv_8_2 _ _ _) ?_
      refine r_iload_n 54 hk dX8_valueWritten_53 rfl 1 rfl rfl ?_
      obtain ⟨r2, w3, ew3, h⟩ := ob_e h
      refine r_cVi 57 (As := [.int x1]) (rest := []) hk (kX3_secondOf hN (nx_pr1 hN hj) ew3) cf_RX8_47 mi_X3_secondOf ⟨TX3, 3, rfl⟩ dX8_valueWritten_54 rfl (Nat.le_of_ble_eq_true rfl) (Nat.le_of_ble_eq_true rfl) (mk_3_0 (nx_pr1 hN hj)) rfl rfl (Nat.le_of_ble_eq_true rfl) ?_
      exact r_iret hk hR dX8_valueWritten_57 h
    · have h := if_f c1 h
      refine r_iload_n 14 hk dX8_valueWritten_13 rfl 2 rfl rfl ?_
      refine r_iload_n 15 hk dX8_valueWritten_14 rfl 3 rfl rfl ?_
      refine r_ishr 16 hk dX8_valueWritten_15 rfl ?_
      refine r_iconst 17 hk dX8_valueWritten_16 rfl ci_1 ?_
      refine r_iand 18 hk dX8_valueWritten_17 rfl ?_
      refine r_iconst 19 hk dX8_valueWritten_18 rfl ci_1 ?_
      refine r_icmp_ne 43 22 hk dX8_valueWritten_19 rfl rfl (fun c4 => ?_) (fun c4 => ?_)
      · have h := if_f c4 h
        obtain ⟨x3_5, ex3_5, h⟩ := lw_e h
        refine r_iinc 46 [(3, .int x3_5), (0, .ref (al 8 j 0)), (1, .int x1), (2, .int x2)] hk (j := 3) dX8_valueWritten_43 rfl hn (by decide) rfl ex3_5 rfl ?_
        refine r_goto 2 hk (x := 0) dX8_valueWritten_46 rfl ?_
        refine r_sub [1, 2, 3, 0] rfl ?_
        exact ih _ _ _ _ h
      · have h := if_t c4 h
        refine r_aload_n 23 hk dX8_valueWritten_22 rfl 0 rfl rfl ?_
        refine r_get 26 hk dX8_valueWritten_23 rfl ff_RX8_30 (mk_8_0 hj) (gv_8_3 _ _ _) ?_
        refine r_iload_n 27 hk dX8_valueWritten_26 rfl 3 rfl rfl ?_
        obtain ⟨r6, w7, ew7, h⟩ := ob_e h
        refine r_cVi 30 (As := [.int x3]) (rest := []) hk (kX3_firstOf hN (nx_pr2 hN hj) ew7) cf_RX8_43 mi_X3_firstOf ⟨TX3, 3, rfl⟩ dX8_valueWritten_27 rfl (Nat.le_of_ble_eq_true rfl) (Nat.le_of_ble_eq_true rfl) (mk_3_0 (nx_pr2 hN hj)) rfl rfl (Nat.le_of_ble_eq_true rfl) ?_
        refine r_iload_n 31 hk dX8_valueWritten_30 rfl 1 rfl rfl ?_
        refine r_icmp_ne 43 34 hk dX8_valueWritten_31 rfl rfl (fun c8 => ?_) (fun c8 => ?_)
        · have h := if_f c8 h
          obtain ⟨x3_9, ex3_9, h⟩ := lw_e h
          refine r_iinc 46 [(3, .int x3_9), (0, .ref (al 8 j 0)), (1, .int x1), (2, .int x2)] hk (j := 3) dX8_valueWritten_43 rfl hn (by decide) rfl ex3_9 rfl ?_
          refine r_goto 2 hk (x := 0) dX8_valueWritten_46 rfl ?_
          refine r_sub [1, 2, 3, 0] rfl ?_
          exact ih _ _ _ _ h
        · have h := if_t c8 h
          refine r_aload_n 35 hk dX8_valueWritten_34 rfl 0 rfl rfl ?_
          refine r_get 38 hk dX8_valueWritten_35 rfl ff_RX8_30 (mk_8_0 hj) (gv_8_3 _ _ _) ?_
          refine r_iload_n 39 hk dX8_valueWritten_38 rfl 3 rfl rfl ?_
          obtain ⟨r10, w11, ew11, h⟩ := ob_e h
          refine r_cVi 42 (As := [.int x3]) (rest := []) hk (kX3_secondOf hN (nx_pr2 hN hj) ew11) cf_RX8_47 mi_X3_secondOf ⟨TX3, 3, rfl⟩ dX8_valueWritten_39 rfl (Nat.le_of_ble_eq_true rfl) (Nat.le_of_ble_eq_true rfl) (mk_3_0 (nx_pr2 hN hj)) rfl rfl (Nat.le_of_ble_eq_true rfl) ?_
          exact r_iret hk hR dX8_valueWritten_42 h
set_option maxRecDepth 100000 in
set_option maxHeartbeats 4000000 in
theorem kX8_valueWritten {l : Launch} {G : Gx} {al : Al} {j : Nat} {w : Wd} {x1 : Int32} {x2 : Int32} {r : Int32} {wz : Wd} (hN : NX G) (hj : j < gN G 8) (h : fX8_valueWritten j w x1 x2 = some (r, wz)) : MC l G yX8_valueWritten cX8_valueWritten 4 (some (.int)) 2 42 al w [.ref (al 8 j 0), .int x1, .int x2] (some (.int r)) wz := by
  refine mc_of [(0, .ref (al 8 j 0)), (1, .int x1), (2, .int x2)] (by decide) (Nat.le_of_ble_eq_true rfl) rfl ?_
  intro K hk hR hn hl hG
  subst hl; subst hG
  have hk : VH K RX8 cX8_valueWritten 2 42 := hk
  rw [fX8_valueWritten.eq_1] at h
  refine r_iconst 1 hk dX8_valueWritten_0 rfl ci_0 ?_
  refine r_istore_n 2 [(3, .int 0), (0, .ref (al 8 j 0)), (1, .int x1), (2, .int x2)] hk dX8_valueWritten_1 rfl rfl hn (by decide) rfl rfl ?_
  refine r_sub [1, 2, 3, 0] rfl ?_
  exact sX8_valueWritten_2 hk hR hn hN hj _ _ _ _ _ h
def fX9_feedNumber_3  : Nat → Wd → Int32 → Int32 → Option (Unit × Wd)
  | 0, _, _, _ => none
  | n + 1, w, x1, x2 =>
    if (x2 : Int32) < 0 then
      some ((), w)
    else
      if (((w 9 0).1 1) : Int32) < 0 then
        lw (x2 + (-8)) fun x2_3 =>
        fX9_feedNumber_3  n w (x1) (x2_3)
      else
        if ((nI 700) : Int32) ≤ ((w 9 0).1 1) then
          lw (x2 + (-8)) fun x2_5 =>
          fX9_feedNumber_3  n w (x1) (x2_5)
        else
          ck (inb (((w 9 0).1 1)) 700) <|
          lw (sA w 9 0 0 (((w 9 0).1 1) : Int32).toNatClampNeg (((((x1 >>> (x2 &&& 31)) : Int32).toInt8.toInt32) : Int32).toInt8.toInt32)) fun w7 =>
          lw (sI w7 9 0 1 ((((w7 9 0).1 1) + 1))) fun w8 =>
          lw (x2 + (-8)) fun x2_9 =>
          fX9_feedNumber_3  n w8 (x1) (x2_9)
def fX9_feedNumber (w : Wd) (x1 : Int32) : Option (Unit × Wd) :=
  fX9_feedNumber_3  fuel0 w (x1) (24)
set_option maxRecDepth 100000 in
set_option maxHeartbeats 4000000 in
theorem sX9_feedNumber_3 {K : VC} {al : Al} {r : Unit} {wz : Wd}  (hk : VH K RX9 cX9_feedNumber 0 0) (hR : VR K al none none wz) (hn : kn K = 3) (hN : NX (kG K)) : ∀ (n : Nat) (w : Wd) (x1 : Int32) (x2 : Int32), fX9_feedNumber_3  n w x1 x2 = some (r, wz) → V K al w 3 [(0, .ref (al 9 0 0)), (1, .int x1), (2, .int x2)] [] := by
  intro n
  induction n with
  | zero => intro w x1 x2 h; cases h
  | succ n ih =>
    intro w x1 x2 h
    rw [fX9_feedNumber_3.eq_2] at h
    refine r_iload_n 4 hk dX9_feedNumber_3 rfl 2 rfl rfl ?_
    refine r_if_lt 55 7 hk dX9_feedNumber_4 rfl rfl (fun c1 => ?_) (fun c1 => ?_)
    · have h := if_t c1 h
      exact r_vret hk hR dX9_feedNumber_55 h
    · have h := if_f c1 h
      refine r_aload_n 8 hk dX9_feedNumber_7 rfl 0 rfl rfl ?_
      refine r_get 11 hk dX9_feedNumber_8 rfl ff_RX9_79 (mk_9_0 (nx_9 hN (j := 0) (by decide))) (gv_9_1 _ _ _) ?_
      refine r_if_lt 49 14 hk dX9_feedNumber_11 rfl rfl (fun c2 => ?_) (fun c2 => ?_)
      · have h := if_t c2 h
        obtain ⟨x2_3, ex2_3, h⟩ := lw_e h
        refine r_iinc 52 [(2, .int x2_3), (0, .ref (al 9 0 0)), (1, .int x1)] hk (j := 2) dX9_feedNumber_49 rfl hn (by decide) rfl ex2_3 rfl ?_
        refine r_goto 3 hk (x := 0) dX9_feedNumber_52 rfl ?_
        refine r_sub [1, 2, 0] rfl ?_
        exact ih _ _ _ h
      · have h := if_f c2 h
        refine r_aload_n 15 hk dX9_feedNumber_14 rfl 0 rfl rfl ?_
        refine r_get 18 hk dX9_feedNumber_15 rfl ff_RX9_79 (mk_9_0 (nx_9 hN (j := 0) (by decide))) (gv_9_1 _ _ _) ?_
        refine r_aload_n 19 hk dX9_feedNumber_18 rfl 0 rfl rfl ?_
        refine r_get 22 hk dX9_feedNumber_19 rfl ff_RX9_9 (mk_9_0 (nx_9 hN (j := 0) (by decide))) (gv_9_0 _ _ _) ?_
        refine r_alen 23 hk dX9_feedNumber_22 rfl (mk_9_1 (nx_9 hN (j := 0) (by decide))) rfl ?_
        refine r_icmp_ge 49 26 hk dX9_feedNumber_23 rfl rfl (fun c4 => ?_) (fun c4 => ?_)
        · have h := if_t c4 h
          obtain ⟨x2_5, ex2_5, h⟩ := lw_e h
          refine r_iinc 52 [(2, .int x2_5), (0, .ref (al 9 0 0)), (1, .int x1)] hk (j := 2) dX9_feedNumber_49 rfl hn (by decide) rfl ex2_5 rfl ?_
          refine r_goto 3 hk (x := 0) dX9_feedNumber_52 rfl ?_
          refine r_sub [1, 2, 0] rfl ?_
          exact ih _ _ _ h
        · have h := if_f c4 h
          refine r_aload_n 27 hk dX9_feedNumber_26 rfl 0 rfl rfl ?_
          refine r_get 30 hk dX9_feedNumber_27 rfl ff_RX9_9 (mk_9_0 (nx_9 hN (j := 0) (by decide))) (gv_9_0 _ _ _) ?_
          refine r_aload_n 31 hk dX9_feedNumber_30 rfl 0 rfl rfl ?_
          refine r_get 34 hk dX9_feedNumber_31 rfl ff_RX9_79 (mk_9_0 (nx_9 hN (j := 0) (by decide))) (gv_9_1 _ _ _) ?_
          refine r_iload_n 35 hk dX9_feedNumber_34 rfl 1 rfl rfl ?_
          refine r_iload_n 36 hk dX9_feedNumber_35 rfl 2 rfl rfl ?_
          refine r_ishr 37 hk dX9_feedNumber_36 rfl ?_
          refine r_i2b 38 hk dX9_feedNumber_37 rfl ?_
          obtain ⟨b6, h⟩ := ck_e h
          obtain ⟨w7, ew7, h⟩ := lw_e h
          refine r_bast 39 w7 hk dX9_feedNumber_38 rfl rfl (mk_9_1 (nx_9 hN (j := 0) (by decide))) rfl b6 ew7 ?_
          refine r_aload_n 40 hk dX9_feedNumber_39 rfl 0 rfl rfl ?_
          refine r_dup 41 hk dX9_feedNumber_40 rfl rfl ?_
          refine r_get 44 hk dX9_feedNumber_41 rfl ff_RX9_79 (mk_9_0 (nx_9 hN (j := 0) (by decide))) (gv_9_1 _ _ _) ?_
          refine r_iconst 45 hk dX9_feedNumber_44 rfl ci_1 ?_
          refine r_iadd 46 hk dX9_feedNumber_45 rfl ?_
          obtain ⟨w8, ew8, h⟩ := lw_e h
          refine r_putI 49 w8 hk dX9_feedNumber_46 rfl ff_RX9_79 fi_9_1 (mk_9_0 (nx_9 hN (j := 0) (by decide))) ew8 ?_
          obtain ⟨x2_9, ex2_9, h⟩ := lw_e h
          refine r_iinc 52 [(2, .int x2_9), (0, .ref (al 9 0 0)), (1, .int x1)] hk (j := 2) dX9_feedNumber_49 rfl hn (by decide) rfl ex2_9 rfl ?_
          refine r_goto 3 hk (x := 0) dX9_feedNumber_52 rfl ?_
          refine r_sub [1, 2, 0] rfl ?_
          exact ih _ _ _ h
set_option maxRecDepth 100000 in
set_option maxHeartbeats 4000000 in
theorem kX9_feedNumber {l : Launch} {G : Gx} {al : Al} {w : Wd} {x1 : Int32} {r : Unit} {wz : Wd} (hN : NX G) (h : fX9_feedNumber w x1 = some (r, wz)) : MC l G yX9_feedNumber cX9_feedNumber 3 none 0 0 al w [.ref (al 9 0 0), .int x1] none wz := by
  refine mc_of [(0, .ref (al 9 0 0)), (1, .int x1)] (by decide) (Nat.le_of_ble_eq_true rfl) rfl ?_
  intro K hk hR hn hl hG
  subst hl; subst hG
  have hk : VH K RX9 cX9_feedNumber 0 0 := hk
  rw [fX9_feedNumber.eq_1] at h
  refine r_bipush 2 hk dX9_feedNumber_0 rfl cb_24 ?_
  refine r_istore_n 3 [(2, .int 24), (0, .ref (al 9 0 0)), (1, .int x1)] hk dX9_feedNumber_2 rfl rfl hn (by decide) rfl rfl ?_
  refine r_sub [1, 2, 0] rfl ?_
  exact sX9_feedNumber_3 hk hR hn hN _ _ _ _ h
def fX9_feed (w : Wd) (x1 : Int32) (x2 : Int32) (x3 : Int32) (x4 : Int32) (x5 : Int32) : Option (Int32 × Wd) :=
  if (((w 9 0).1 1) : Int32) ≤ 680 then
    ob (fX9_feedNumber w (x1)) fun _ w3 =>
    ob (fX9_feedNumber w3 (x2)) fun _ w5 =>
    ob (fX9_feedNumber w5 (x3)) fun _ w7 =>
    ob (fX9_feedNumber w7 (x4)) fun _ w9 =>
    ob (fX9_feedNumber w9 (x5)) fun _ w11 =>
    some (((w11 9 0).1 1), w11)
  else
    some ((-1), w)
set_option maxRecDepth 100000 in
set_option maxHeartbeats 4000000 in
theorem kX9_feed {l : Launch} {G : Gx} {al : Al} {w : Wd} {x1 : Int32} {x2 : Int32} {x3 : Int32} {x4 : Int32} {x5 : Int32} {r : Int32} {wz : Wd} (hN : NX G) (h : fX9_feed w x1 x2 x3 x4 x5 = some (r, wz)) : MC l G yX9_feed cX9_feed 6 (some (.int)) 1 22 al w [.ref (al 9 0 0), .int x1, .int x2, .int x3, .int x4, .int x5] (some (.int r)) wz := by
  refine mc_of [(0, .ref (al 9 0 0)), (1, .int x1), (2, .int x2), (3, .int x3), (4, .int x4), (5, .int x5)] (by decide) (Nat.le_of_ble_eq_true rfl) rfl ?_
  intro K hk hR hn hl hG
  subst hl; subst hG
  have hk : VH K RX9 cX9_feed 1 22 := hk
  rw [fX9_feed.eq_1] at h
  refine r_aload_n 1 hk dX9_feed_0 rfl 0 rfl rfl ?_
  refine r_get 4 hk dX9_feed_1 rfl ff_RX9_79 (mk_9_0 (nx_9 hN (j := 0) (by decide))) (gv_9_1 _ _ _) ?_
  refine r_sipush 7 hk dX9_feed_4 rfl cs_680 ?_
  refine r_icmp_le 12 10 hk dX9_feed_7 rfl rfl (fun c1 => ?_) (fun c1 => ?_)
  · have h := if_t c1 h
    refine r_aload_n 13 hk dX9_feed_12 rfl 0 rfl rfl ?_
    refine r_iload_n 14 hk dX9_feed_13 rfl 1 rfl rfl ?_
    obtain ⟨r2, w3, ew3, h⟩ := ob_e h
    refine r_cVv 17 (As := [.int x1]) (rest := []) hk (kX9_feedNumber hN ew3) cf_RX9_83 mi_X9_feedNumber ⟨TX9, 16, rfl⟩ dX9_feed_14 rfl (Nat.le_of_ble_eq_true rfl) (Nat.le_of_ble_eq_true rfl) (mk_9_0 (nx_9 hN (j := 0) (by decide))) rfl rfl (Nat.le_of_ble_eq_true rfl) ?_
    refine r_aload_n 18 hk dX9_feed_17 rfl 0 rfl rfl ?_
    refine r_iload_n 19 hk dX9_feed_18 rfl 2 rfl rfl ?_
    obtain ⟨r4, w5, ew5, h⟩ := ob_e h
    refine r_cVv 22 (As := [.int x2]) (rest := []) hk (kX9_feedNumber hN ew5) cf_RX9_83 mi_X9_feedNumber ⟨TX9, 16, rfl⟩ dX9_feed_19 rfl (Nat.le_of_ble_eq_true rfl) (Nat.le_of_ble_eq_true rfl) (mk_9_0 (nx_9 hN (j := 0) (by decide))) rfl rfl (Nat.le_of_ble_eq_true rfl) ?_
    refine r_aload_n 23 hk dX9_feed_22 rfl 0 rfl rfl ?_
    refine r_iload_n 24 hk dX9_feed_23 rfl 3 rfl rfl ?_
    obtain ⟨r6, w7, ew7, h⟩ := ob_e h
    refine r_cVv 27 (As := [.int x3]) (rest := []) hk (kX9_feedNumber hN ew7) cf_RX9_83 mi_X9_feedNumber ⟨TX9, 16, rfl⟩ dX9_feed_24 rfl (Nat.le_of_ble_eq_true rfl) (Nat.le_of_ble_eq_true rfl) (mk_9_0 (nx_9 hN (j := 0) (by decide))) rfl rfl (Nat.le_of_ble_eq_true rfl) ?_
    refine r_aload_n 28 hk dX9_feed_27 rfl 0 rfl rfl ?_
    refine r_iload 30 hk dX9_feed_28 rfl 4 rfl ?_
    obtain ⟨r8, w9, ew9, h⟩ := ob_e h
    refine r_cVv 33 (As := [.int x4]) (rest := []) hk (kX9_feedNumber hN ew9) cf_RX9_83 mi_X9_feedNumber ⟨TX9, 16, rfl⟩ dX9_feed_30 rfl (Nat.le_of_ble_eq_true rfl) (Nat.le_of_ble_eq_true rfl) (mk_9_0 (nx_9 hN (j := 0) (by decide))) rfl rfl (Nat.le_of_ble_eq_true rfl) ?_
    refine r_aload_n 34 hk dX9_feed_33 rfl 0 rfl rfl ?_
    refine r_iload 36 hk dX9_feed_34 rfl 5 rfl ?_
    obtain ⟨r10, w11, ew11, h⟩ := ob_e h
    refine r_cVv 39 (As := [.int x5]) (rest := []) hk (kX9_feedNumber hN ew11) cf_RX9_83 mi_X9_feedNumber ⟨TX9, 16, rfl⟩ dX9_feed_36 rfl (Nat.le_of_ble_eq_true rfl) (Nat.le_of_ble_eq_true rfl) (mk_9_0 (nx_9 hN (j := 0) (by decide))) rfl rfl (Nat.le_of_ble_eq_true rfl) ?_
    refine r_aload_n 40 hk dX9_feed_39 rfl 0 rfl rfl ?_
    refine r_get 43 hk dX9_feed_40 rfl ff_RX9_79 (mk_9_0 (nx_9 hN (j := 0) (by decide))) (gv_9_1 _ _ _) ?_
    exact r_iret hk hR dX9_feed_43 h
  · have h := if_f c1 h
    refine r_iconst 11 hk dX9_feed_10 rfl ci_m1 ?_
    exact r_iret hk hR dX9_feed_11 h
def fX9_refuse (w : Wd) (x1 : Int32) : Option (Int32 × Wd) :=
  lw (sI w 9 0 13 (x1)) fun w1 =>
  some ((-1), w1)
set_option maxRecDepth 100000 in
set_option maxHeartbeats 4000000 in
theorem kX9_refuse {l : Launch} {G : Gx} {al : Al} {w : Wd} {x1 : Int32} {r : Int32} {wz : Wd} (hN : NX G) (h : fX9_refuse w x1 = some (r, wz)) : MC l G yX9_refuse cX9_refuse 2 (some (.int)) 0 0 al w [.ref (al 9 0 0), .int x1] (some (.int r)) wz := by
  refine mc_of [(0, .ref (al 9 0 0)), (1, .int x1)] (by decide) (Nat.le_of_ble_eq_true rfl) rfl ?_
  intro K hk hR hn hl hG
  subst hl; subst hG
  have hk : VH K RX9 cX9_refuse 0 0 := hk
  rw [fX9_refuse.eq_1] at h
  refine r_aload_n 1 hk dX9_refuse_0 rfl 0 rfl rfl ?_
  refine r_iload_n 2 hk dX9_refuse_1 rfl 1 rfl rfl ?_
  obtain ⟨w1, ew1, h⟩ := lw_e h
  refine r_putI 5 w1 hk dX9_refuse_2 rfl ff_RX9_152 fi_9_13 (mk_9_0 (nx_9 hN (j := 0) (by decide))) ew1 ?_
  refine r_iconst 6 hk dX9_refuse_5 rfl ci_m1 ?_
  exact r_iret hk hR dX9_refuse_6 h
def fX9_runOn_16 (o1 : Nat) : Nat → Wd → Int32 → Int32 → Option (Unit × Wd)
  | 0, _, _, _ => none
  | n + 1, w, x2, x3 =>
    ckp ((w 9 0).2.2.1 2) 2 fun q4 =>
    if (((w 3 (4 * q4 + 1)).1 2) : Int32) ≤ x3 then
      some ((), w)
    else
      ckp ((w 9 0).2.2.1 2) 2 fun q6 =>
      ob (fX3_firstOf (4 * q6 + 1) w (x3)) fun r7 w8 =>
      ckp ((w8 9 0).2.2.1 2) 2 fun q9 =>
      ob (fX8_valueWritten q9 w8 (x3) (x2)) fun r10 w11 =>
      ob (fX7_addEntry 1 o1 w11 (r7) (r10)) fun _ w13 =>
      lw (x3 + 1) fun x3_14 =>
      fX9_runOn_16 o1 n w13 (x2) (x3_14)
def fX9_runOn (o1 : Nat) (w : Wd) (x2 : Int32) : Option (Unit × Wd) :=
  ckp ((w 9 0).2.2.1 2) 2 fun q1 =>
  ob (fX7_begin 1 (4 * q1) w ) fun _ w3 =>
  fX9_runOn_16 o1 fuel0 w3 (x2) (0)
set_option maxRecDepth 100000 in
set_option maxHeartbeats 4000000 in
theorem sX9_runOn_16 {K : VC} {al : Al} {r : Unit} {wz : Wd} {o1 : Nat} (hk : VH K RX9 cX9_runOn 5 116) (hR : VR K al none none wz) (hn : kn K = 4) (hN : NX (kG K)) (ho1 : o1 < gN (kG K) 5) : ∀ (n : Nat) (w : Wd) (x2 : Int32) (x3 : Int32), fX9_runOn_16 o1 n w x2 x3 = some (r, wz) → V K al w 16 [(0, .ref (al 9 0 0)), (1, .ref (al 5 o1 0)), (2, .int x2), (3, .int x3)] [] := by
  intro n
  induction n with
  | zero => intro w x2 x3 h; cases h
  | succ n ih =>
    intro w x2 x3 h
    rw [fX9_runOn_16.eq_2] at h
    refine r_iload_n 17 hk dX9_runOn_16 rfl 3 rfl rfl ?_
    refine r_aload_n 18 hk dX9_runOn_17 rfl 0 rfl rfl ?_
    refine r_get 21 hk dX9_runOn_18 rfl ff_RX9_16 (mk_9_0 (nx_9 hN (j := 0) (by decide))) (gv_9_2 _ _ _) ?_
    obtain ⟨q4, eq4, lq4, h⟩ := ckp_e h
    refine r_pv1 eq4 ?_
    refine r_get 24 hk dX9_runOn_21 rfl ff_RX9_274 (mk_8_0 (nx_8 hN lq4)) (gv_8_2 _ _ _) ?_
    refine r_get 27 hk dX9_runOn_24 rfl ff_RX9_138 (mk_3_0 (nx_pr1 hN (nx_8 hN lq4))) (gv_3_2 _ _ _) ?_
    refine r_icmp_ge 64 30 hk dX9_runOn_27 rfl rfl (fun c5 => ?_) (fun c5 => ?_)
    · have h := if_t c5 h
      exact r_vret hk hR dX9_runOn_64 h
    · have h := if_f c5 h
      refine r_aload_n 31 hk dX9_runOn_30 rfl 0 rfl rfl ?_
      refine r_get 34 hk dX9_runOn_31 rfl ff_RX9_46 (mk_9_0 (nx_9 hN (j := 0) (by decide))) (gv_9_7 _ _ _) ?_
      refine r_aload_n 35 hk dX9_runOn_34 rfl 1 rfl rfl ?_
      refine r_aload_n 36 hk dX9_runOn_35 rfl 0 rfl rfl ?_
      refine r_get 39 hk dX9_runOn_36 rfl ff_RX9_16 (mk_9_0 (nx_9 hN (j := 0) (by decide))) (gv_9_2 _ _ _) ?_
      obtain ⟨q6, eq6, lq6, h⟩ := ckp_e h
      refine r_pv1 eq6 ?_
      refine r_get 42 hk dX9_runOn_39 rfl ff_RX9_274 (mk_8_0 (nx_8 hN lq6)) (gv_8_2 _ _ _) ?_
      refine r_iload_n 43 hk dX9_runOn_42 rfl 3 rfl rfl ?_
      obtain ⟨r7, w8, ew8, h⟩ := ob_e h
      refine r_cVi 46 (As := [.int x3]) (rest := [.ref (al 5 o1 0), .ref (al 7 1 0)]) hk (kX3_firstOf hN (nx_pr1 hN (nx_8 hN lq6)) ew8) cf_RX9_292 mi_X3_firstOf ⟨TX3, 3, rfl⟩ dX9_runOn_43 rfl (Nat.le_of_ble_eq_true rfl) (Nat.le_of_ble_eq_true rfl) (mk_3_0 (nx_pr1 hN (nx_8 hN lq6))) rfl rfl (Nat.le_of_ble_eq_true rfl) ?_
      refine r_aload_n 47 hk dX9_runOn_46 rfl 0 rfl rfl ?_
      refine r_get 50 hk dX9_runOn_47 rfl ff_RX9_16 (mk_9_0 (nx_9 hN (j := 0) (by decide))) (gv_9_2 _ _ _) ?_
      obtain ⟨q9, eq9, lq9, h⟩ := ckp_e h
      refine r_pv1 eq9 ?_
      refine r_iload_n 51 hk dX9_runOn_50 rfl 3 rfl rfl ?_
      refine r_iload_n 52 hk dX9_runOn_51 rfl 2 rfl rfl ?_
      obtain ⟨r10, w11, ew11, h⟩ := ob_e h
      refine r_cVi 55 (As := [.int x3, .int x2]) (rest := [.int r7, .ref (al 5 o1 0), .ref (al 7 1 0)]) hk (kX8_valueWritten hN (nx_8 hN lq9) ew11) cf_RX9_293 mi_X8_valueWritten ⟨TX8, 5, rfl⟩ dX9_runOn_52 rfl (Nat.le_of_ble_eq_true rfl) (Nat.le_of_ble_eq_true rfl) (mk_8_0 (nx_8 hN lq9)) rfl rfl (Nat.le_of_ble_eq_true rfl) ?_
      obtain ⟨r12, w13, ew13, h⟩ := ob_e h
      refine r_cVv 58 (As := [.ref (al 5 o1 0), .int r7, .int r10]) (rest := []) hk (kX7_addEntry hN (nx_7 hN (j := 1) (by decide)) ho1 ew13) cf_RX9_296 mi_X7_addEntry ⟨TX7, 11, rfl⟩ dX9_runOn_55 rfl (Nat.le_of_ble_eq_true rfl) (Nat.le_of_ble_eq_true rfl) (mk_7_0 (nx_7 hN (j := 1) (by decide))) rfl rfl (Nat.le_of_ble_eq_true rfl) ?_
      obtain ⟨x3_14, ex3_14, h⟩ := lw_e h
      refine r_iinc 61 [(3, .int x3_14), (0, .ref (al 9 0 0)), (1, .ref (al 5 o1 0)), (2, .int x2)] hk (j := 3) dX9_runOn_58 rfl hn (by decide) rfl ex3_14 rfl ?_
      refine r_goto 16 hk (x := 0) dX9_runOn_61 rfl ?_
      refine r_sub [1, 2, 3, 0] rfl ?_
      exact ih _ _ _ h
set_option maxRecDepth 100000 in
set_option maxHeartbeats 4000000 in
theorem kX9_runOn {l : Launch} {G : Gx} {al : Al} {o1 : Nat} {w : Wd} {x2 : Int32} {r : Unit} {wz : Wd} (hN : NX G) (ho1 : o1 < gN G 5) (h : fX9_runOn o1 w x2 = some (r, wz)) : MC l G yX9_runOn cX9_runOn 4 none 5 116 al w [.ref (al 9 0 0), .ref (al 5 o1 0), .int x2] none wz := by
  refine mc_of [(0, .ref (al 9 0 0)), (1, .ref (al 5 o1 0)), (2, .int x2)] (by decide) (Nat.le_of_ble_eq_true rfl) rfl ?_
  intro K hk hR hn hl hG
  subst hl; subst hG
  have hk : VH K RX9 cX9_runOn 5 116 := hk
  rw [fX9_runOn.eq_1] at h
  refine r_aload_n 1 hk dX9_runOn_0 rfl 0 rfl rfl ?_
  refine r_get 4 hk dX9_runOn_1 rfl ff_RX9_46 (mk_9_0 (nx_9 hN (j := 0) (by decide))) (gv_9_7 _ _ _) ?_
  refine r_aload_n 5 hk dX9_runOn_4 rfl 0 rfl rfl ?_
  refine r_get 8 hk dX9_runOn_5 rfl ff_RX9_16 (mk_9_0 (nx_9 hN (j := 0) (by decide))) (gv_9_2 _ _ _) ?_
  obtain ⟨q1, eq1, lq1, h⟩ := ckp_e h
  refine r_pv1 eq1 ?_
  refine r_get 11 hk dX9_runOn_8 rfl ff_RX9_118 (mk_8_0 (nx_8 hN lq1)) (gv_8_1 _ _ _) ?_
  obtain ⟨r2, w3, ew3, h⟩ := ob_e h
  refine r_cVv 14 (As := [.ref (al 3 (4 * q1) 0)]) (rest := []) hk (kX7_begin hN (nx_7 hN (j := 1) (by decide)) (nx_pr0 hN (nx_8 hN lq1)) ew3) cf_RX9_122 mi_X7_begin ⟨TX7, 11, rfl⟩ dX9_runOn_11 rfl (Nat.le_of_ble_eq_true rfl) (Nat.le_of_ble_eq_true rfl) (mk_7_0 (nx_7 hN (j := 1) (by decide))) rfl rfl (Nat.le_of_ble_eq_true rfl) ?_
  refine r_iconst 15 hk dX9_runOn_14 rfl ci_0 ?_
  refine r_istore_n 16 [(3, .int 0), (0, .ref (al 9 0 0)), (1, .ref (al 5 o1 0)), (2, .int x2)] hk dX9_runOn_15 rfl rfl hn (by decide) rfl rfl ?_
  refine r_sub [1, 2, 3, 0] rfl ?_
  exact sX9_runOn_16 hk hR hn hN ho1 _ _ _ _ h
def fX9_firstReadOtherwise_2  : Nat → Wd → Int32 → Option (Int32 × Wd)
  | 0, _, _ => none
  | n + 1, w, x1 =>
    ckp ((w 9 0).2.2.1 2) 2 fun q1 =>
    if (((w 3 (4 * q1 + 3)).1 2) : Int32) ≤ x1 then
      some ((-2), w)
    else
      ckp ((w 9 0).2.2.1 2) 2 fun q3 =>
      ob (fX3_firstOf (4 * q3 + 3) w (x1)) fun r4 w5 =>
      ob (fX7_valueOf 1 w5 (r4)) fun r6 w7 =>
      ckp ((w7 9 0).2.2.1 2) 2 fun q8 =>
      ob (fX3_secondOf (4 * q8 + 3) w7 (x1)) fun r9 w10 =>
      if (r6 : Int32) = r9 then
        lw (x1 + 1) fun x1_12 =>
        fX9_firstReadOtherwise_2  n w10 (x1_12)
      else
        some (x1, w10)
def fX9_firstReadOtherwise (w : Wd) : Option (Int32 × Wd) :=
  fX9_firstReadOtherwise_2  fuel0 w (0)
set_option maxRecDepth 100000 in
set_option maxHeartbeats 4000000 in
theorem sX9_firstReadOtherwise_2 {K : VC} {al : Al} {r : Int32} {wz : Wd}  (hk : VH K RX9 cX9_firstReadOtherwise 3 65) (hR : VR K al (some (.int)) (some (.int r)) wz) (hn : kn K = 2) (hN : NX (kG K)) : ∀ (n : Nat) (w : Wd) (x1 : Int32), fX9_firstReadOtherwise_2  n w x1 = some (r, wz) → V K al w 2 [(0, .ref (al 9 0 0)), (1, .int x1)] [] := by
  intro n
  induction n with
  | zero => intro w x1 h; cases h
  | succ n ih =>
    intro w x1 h
    rw [fX9_firstReadOtherwise_2.eq_2] at h
    refine r_iload_n 3 hk dX9_firstReadOtherwise_2 rfl 1 rfl rfl ?_
    refine r_aload_n 4 hk dX9_firstReadOtherwise_3 rfl 0 rfl rfl ?_
    refine r_get 7 hk dX9_firstReadOtherwise_4 rfl ff_RX9_16 (mk_9_0 (nx_9 hN (j := 0) (by decide))) (gv_9_2 _ _ _) ?_
    obtain ⟨q1, eq1, lq1, h⟩ := ckp_e h
    refine r_pv1 eq1 ?_
    refine r_get 10 hk dX9_firstReadOtherwise_7 rfl ff_RX9_314 (mk_8_0 (nx_8 hN lq1)) (gv_8_4 _ _ _) ?_
    refine r_get 13 hk dX9_firstReadOtherwise_10 rfl ff_RX9_138 (mk_3_0 (nx_pr3 hN (nx_8 hN lq1))) (gv_3_2 _ _ _) ?_
    refine r_icmp_ge 56 16 hk dX9_firstReadOtherwise_13 rfl rfl (fun c2 => ?_) (fun c2 => ?_)
    · have h := if_t c2 h
      refine r_bipush 58 hk dX9_firstReadOtherwise_56 rfl cb_m2 ?_
      exact r_iret hk hR dX9_firstReadOtherwise_58 h
    · have h := if_f c2 h
      refine r_aload_n 17 hk dX9_firstReadOtherwise_16 rfl 0 rfl rfl ?_
      refine r_get 20 hk dX9_firstReadOtherwise_17 rfl ff_RX9_46 (mk_9_0 (nx_9 hN (j := 0) (by decide))) (gv_9_7 _ _ _) ?_
      refine r_aload_n 21 hk dX9_firstReadOtherwise_20 rfl 0 rfl rfl ?_
      refine r_get 24 hk dX9_firstReadOtherwise_21 rfl ff_RX9_16 (mk_9_0 (nx_9 hN (j := 0) (by decide))) (gv_9_2 _ _ _) ?_
      obtain ⟨q3, eq3, lq3, h⟩ := ckp_e h
      refine r_pv1 eq3 ?_
      refine r_get 27 hk dX9_firstReadOtherwise_24 rfl ff_RX9_314 (mk_8_0 (nx_8 hN lq3)) (gv_8_4 _ _ _) ?_
      refine r_iload_n 28 hk dX9_firstReadOtherwise_27 rfl 1 rfl rfl ?_
      obtain ⟨r4, w5, ew5, h⟩ := ob_e h
      refine r_cVi 31 (As := [.int x1]) (rest := [.ref (al 7 1 0)]) hk (kX3_firstOf hN (nx_pr3 hN (nx_8 hN lq3)) ew5) cf_RX9_292 mi_X3_firstOf ⟨TX3, 3, rfl⟩ dX9_firstReadOtherwise_28 rfl (Nat.le_of_ble_eq_true rfl) (Nat.le_of_ble_eq_true rfl) (mk_3_0 (nx_pr3 hN (nx_8 hN lq3))) rfl rfl (Nat.le_of_ble_eq_true rfl) ?_
      obtain ⟨r6, w7, ew7, h⟩ := ob_e h
      refine r_cVi 34 (As := [.int r4]) (rest := []) hk (kX7_valueOf hN (nx_7 hN (j := 1) (by decide)) ew7) cf_RX9_166 mi_X7_valueOf ⟨TX7, 11, rfl⟩ dX9_firstReadOtherwise_31 rfl (Nat.le_of_ble_eq_true rfl) (Nat.le_of_ble_eq_true rfl) (mk_7_0 (nx_7 hN (j := 1) (by decide))) rfl rfl (Nat.le_of_ble_eq_true rfl) ?_
      refine r_aload_n 35 hk dX9_firstReadOtherwise_34 rfl 0 rfl rfl ?_
      refine r_get 38 hk dX9_firstReadOtherwise_35 rfl ff_RX9_16 (mk_9_0 (nx_9 hN (j := 0) (by decide))) (gv_9_2 _ _ _) ?_
      obtain ⟨q8, eq8, lq8, h⟩ := ckp_e h
      refine r_pv1 eq8 ?_
      refine r_get 41 hk dX9_firstReadOtherwise_38 rfl ff_RX9_314 (mk_8_0 (nx_8 hN lq8)) (gv_8_4 _ _ _) ?_
      refine r_iload_n 42 hk dX9_firstReadOtherwise_41 rfl 1 rfl rfl ?_
      obtain ⟨r9, w10, ew10, h⟩ := ob_e h
      refine r_cVi 45 (As := [.int x1]) (rest := [.int r6]) hk (kX3_secondOf hN (nx_pr3 hN (nx_8 hN lq8)) ew10) cf_RX9_317 mi_X3_secondOf ⟨TX3, 3, rfl⟩ dX9_firstReadOtherwise_42 rfl (Nat.le_of_ble_eq_true rfl) (Nat.le_of_ble_eq_true rfl) (mk_3_0 (nx_pr3 hN (nx_8 hN lq8))) rfl rfl (Nat.le_of_ble_eq_true rfl) ?_
      refine r_icmp_eq 50 48 hk dX9_firstReadOtherwise_45 rfl rfl (fun c11 => ?_) (fun c11 => ?_)
      · have h := if_t c11 h
        obtain ⟨x1_12, ex1_12, h⟩ := lw_e h
        refine r_iinc 53 [(1, .int x1_12), (0, .ref (al 9 0 0))] hk (j := 1) dX9_firstReadOtherwise_50 rfl hn (by decide) rfl ex1_12 rfl ?_
        refine r_goto 2 hk (x := 0) dX9_firstReadOtherwise_53 rfl ?_
        refine r_sub [1, 0] rfl ?_
        exact ih _ _ h
      · have h := if_f c11 h
        refine r_iload_n 49 hk dX9_firstReadOtherwise_48 rfl 1 rfl rfl ?_
        exact r_iret hk hR dX9_firstReadOtherwise_49 h
set_option maxRecDepth 100000 in
set_option maxHeartbeats 4000000 in
theorem kX9_firstReadOtherwise {l : Launch} {G : Gx} {al : Al} {w : Wd} {r : Int32} {wz : Wd} (hN : NX G) (h : fX9_firstReadOtherwise w = some (r, wz)) : MC l G yX9_firstReadOtherwise cX9_firstReadOtherwise 2 (some (.int)) 3 65 al w [.ref (al 9 0 0)] (some (.int r)) wz := by
  refine mc_of [(0, .ref (al 9 0 0))] (by decide) (Nat.le_of_ble_eq_true rfl) rfl ?_
  intro K hk hR hn hl hG
  subst hl; subst hG
  have hk : VH K RX9 cX9_firstReadOtherwise 3 65 := hk
  rw [fX9_firstReadOtherwise.eq_1] at h
  refine r_iconst 1 hk dX9_firstReadOtherwise_0 rfl ci_0 ?_
  refine r_istore_n 2 [(1, .int 0), (0, .ref (al 9 0 0))] hk dX9_firstReadOtherwise_1 rfl rfl hn (by decide) rfl rfl ?_
  refine r_sub [1, 0] rfl ?_
  exact sX9_firstReadOtherwise_2 hk hR hn hN _ _ _ h
def fX9_beginAnew_36  : Nat → Wd → Int32 → Option (Unit × Wd)
  | 0, _, _ => none
  | n + 1, w, x1 =>
    if (16 : Int32) ≤ x1 then
      some ((), w)
    else
      ckp ((w 9 0).2.2.1 2) 2 fun q9 =>
      if ((1 <<< (((w 3 (4 * q9 + 2)).1 2) &&& 31)) : Int32) ≤ x1 then
        some ((), w)
      else
        ckp ((w 9 0).2.2.1 2) 2 fun q11 =>
        ob (fX9_runOn q11 w (x1)) fun _ w13 =>
        ob (fX9_firstReadOtherwise w13 ) fun r14 w15 =>
        if (r14 : Int32) = (-2) then
          ob (fX1_addSet w15 (x1)) fun _ w19 =>
          lw (x1 + 1) fun x1_20 =>
          fX9_beginAnew_36  n w19 (x1_20)
        else
          lw (x1 + 1) fun x1_17 =>
          fX9_beginAnew_36  n w15 (x1_17)
def fX9_beginAnew (w : Wd) : Option (Unit × Wd) :=
  ckp ((w 9 0).2.2.1 2) 2 fun q1 =>
  ob (fX7_begin 0 (4 * q1) w ) fun _ w3 =>
  ob (fX2_forget w3 ) fun _ w5 =>
  lw (sI w5 9 0 12 (0)) fun w6 =>
  lw (sI w6 1 0 1 (0)) fun w7 =>
  fX9_beginAnew_36  fuel0 w7 (0)
set_option maxRecDepth 100000 in
set_option maxHeartbeats 4000000 in
theorem sX9_beginAnew_36 {K : VC} {al : Al} {r : Unit} {wz : Wd}  (hk : VH K RX9 cX9_beginAnew 6 139) (hR : VR K al none none wz) (hn : kn K = 2) (hN : NX (kG K)) : ∀ (n : Nat) (w : Wd) (x1 : Int32), fX9_beginAnew_36  n w x1 = some (r, wz) → V K al w 36 [(0, .ref (al 9 0 0)), (1, .int x1)] [] := by
  intro n
  induction n with
  | zero => intro w x1 h; cases h
  | succ n ih =>
    intro w x1 h
    rw [fX9_beginAnew_36.eq_2] at h
    refine r_iload_n 37 hk dX9_beginAnew_36 rfl 1 rfl rfl ?_
    refine r_bipush 39 hk dX9_beginAnew_37 rfl cb_16 ?_
    refine r_icmp_ge 93 42 hk dX9_beginAnew_39 rfl rfl (fun c8 => ?_) (fun c8 => ?_)
    · have h := if_t c8 h
      exact r_vret hk hR dX9_beginAnew_93 h
    · have h := if_f c8 h
      refine r_iload_n 43 hk dX9_beginAnew_42 rfl 1 rfl rfl ?_
      refine r_iconst 44 hk dX9_beginAnew_43 rfl ci_1 ?_
      refine r_aload_n 45 hk dX9_beginAnew_44 rfl 0 rfl rfl ?_
      refine r_get 48 hk dX9_beginAnew_45 rfl ff_RX9_16 (mk_9_0 (nx_9 hN (j := 0) (by decide))) (gv_9_2 _ _ _) ?_
      obtain ⟨q9, eq9, lq9, h⟩ := ckp_e h
      refine r_pv1 eq9 ?_
      refine r_get 51 hk dX9_beginAnew_48 rfl ff_RX9_135 (mk_8_0 (nx_8 hN lq9)) (gv_8_3 _ _ _) ?_
      refine r_get 54 hk dX9_beginAnew_51 rfl ff_RX9_138 (mk_3_0 (nx_pr2 hN (nx_8 hN lq9))) (gv_3_2 _ _ _) ?_
      refine r_ishl 55 hk dX9_beginAnew_54 rfl ?_
      refine r_icmp_ge 93 58 hk dX9_beginAnew_55 rfl rfl (fun c10 => ?_) (fun c10 => ?_)
      · have h := if_t c10 h
        exact r_vret hk hR dX9_beginAnew_93 h
      · have h := if_f c10 h
        refine r_aload_n 59 hk dX9_beginAnew_58 rfl 0 rfl rfl ?_
        refine r_aload_n 60 hk dX9_beginAnew_59 rfl 0 rfl rfl ?_
        refine r_get 63 hk dX9_beginAnew_60 rfl ff_RX9_16 (mk_9_0 (nx_9 hN (j := 0) (by decide))) (gv_9_2 _ _ _) ?_
        obtain ⟨q11, eq11, lq11, h⟩ := ckp_e h
        refine r_pv1 eq11 ?_
        refine r_get 66 hk dX9_beginAnew_63 rfl ff_RX9_109 (mk_8_0 (nx_8 hN lq11)) (gv_8_0 _ _ _) ?_
        refine r_iload_n 67 hk dX9_beginAnew_66 rfl 1 rfl rfl ?_
        obtain ⟨r12, w13, ew13, h⟩ := ob_e h
        refine r_cVv 70 (As := [.ref (al 5 q11 0), .int x1]) (rest := []) hk (kX9_runOn hN (nx_sh hN (nx_8 hN lq11)) ew13) cf_RX9_141 mi_X9_runOn ⟨TX9, 16, rfl⟩ dX9_beginAnew_67 rfl (Nat.le_of_ble_eq_true rfl) (Nat.le_of_ble_eq_true rfl) (mk_9_0 (nx_9 hN (j := 0) (by decide))) rfl rfl (Nat.le_of_ble_eq_true rfl) ?_
        refine r_aload_n 71 hk dX9_beginAnew_70 rfl 0 rfl rfl ?_
        obtain ⟨r14, w15, ew15, h⟩ := ob_e h
        refine r_cVi 74 (As := []) (rest := []) hk (kX9_firstReadOtherwise hN ew15) cf_RX9_145 mi_X9_firstReadOtherwise ⟨TX9, 16, rfl⟩ dX9_beginAnew_71 rfl (Nat.le_of_ble_eq_true rfl) (Nat.le_of_ble_eq_true rfl) (mk_9_0 (nx_9 hN (j := 0) (by decide))) rfl rfl (Nat.le_of_ble_eq_true rfl) ?_
        refine r_bipush 76 hk dX9_beginAnew_74 rfl cb_m2 ?_
        refine r_icmp_ne 87 79 hk dX9_beginAnew_76 rfl rfl (fun c16 => ?_) (fun c16 => ?_)
        · have h := if_f c16 h
          obtain ⟨x1_17, ex1_17, h⟩ := lw_e h
          refine r_iinc 90 [(1, .int x1_17), (0, .ref (al 9 0 0))] hk (j := 1) dX9_beginAnew_87 rfl hn (by decide) rfl ex1_17 rfl ?_
          refine r_goto 36 hk (x := 0) dX9_beginAnew_90 rfl ?_
          refine r_sub [1, 0] rfl ?_
          exact ih _ _ h
        · have h := if_t c16 h
          refine r_aload_n 80 hk dX9_beginAnew_79 rfl 0 rfl rfl ?_
          refine r_get 83 hk dX9_beginAnew_80 rfl ff_RX9_35 (mk_9_0 (nx_9 hN (j := 0) (by decide))) (gv_9_5 _ _ _) ?_
          refine r_iload_n 84 hk dX9_beginAnew_83 rfl 1 rfl rfl ?_
          obtain ⟨r18, w19, ew19, h⟩ := ob_e h
          refine r_cVv 87 (As := [.int x1]) (rest := []) hk (kX1_addSet hN ew19) cf_RX9_149 mi_X1_addSet ⟨TX1, 2, rfl⟩ dX9_beginAnew_84 rfl (Nat.le_of_ble_eq_true rfl) (Nat.le_of_ble_eq_true rfl) (mk_1_0 (nx_1 hN (j := 0) (by decide))) rfl rfl (Nat.le_of_ble_eq_true rfl) ?_
          obtain ⟨x1_20, ex1_20, h⟩ := lw_e h
          refine r_iinc 90 [(1, .int x1_20), (0, .ref (al 9 0 0))] hk (j := 1) dX9_beginAnew_87 rfl hn (by decide) rfl ex1_20 rfl ?_
          refine r_goto 36 hk (x := 0) dX9_beginAnew_90 rfl ?_
          refine r_sub [1, 0] rfl ?_
          exact ih _ _ h
set_option maxRecDepth 100000 in
set_option maxHeartbeats 4000000 in
theorem kX9_beginAnew {l : Launch} {G : Gx} {al : Al} {w : Wd} {r : Unit} {wz : Wd} (hN : NX G) (h : fX9_beginAnew w = some (r, wz)) : MC l G yX9_beginAnew cX9_beginAnew 2 none 6 139 al w [.ref (al 9 0 0)] none wz := by
  refine mc_of [(0, .ref (al 9 0 0))] (by decide) (Nat.le_of_ble_eq_true rfl) rfl ?_
  intro K hk hR hn hl hG
  subst hl; subst hG
  have hk : VH K RX9 cX9_beginAnew 6 139 := hk
  rw [fX9_beginAnew.eq_1] at h
  refine r_aload_n 1 hk dX9_beginAnew_0 rfl 0 rfl rfl ?_
  refine r_get 4 hk dX9_beginAnew_1 rfl ff_RX9_42 (mk_9_0 (nx_9 hN (j := 0) (by decide))) (gv_9_6 _ _ _) ?_
  refine r_aload_n 5 hk dX9_beginAnew_4 rfl 0 rfl rfl ?_
  refine r_get 8 hk dX9_beginAnew_5 rfl ff_RX9_16 (mk_9_0 (nx_9 hN (j := 0) (by decide))) (gv_9_2 _ _ _) ?_
  obtain ⟨q1, eq1, lq1, h⟩ := ckp_e h
  refine r_pv1 eq1 ?_
  refine r_get 11 hk dX9_beginAnew_8 rfl ff_RX9_118 (mk_8_0 (nx_8 hN lq1)) (gv_8_1 _ _ _) ?_
  obtain ⟨r2, w3, ew3, h⟩ := ob_e h
  refine r_cVv 14 (As := [.ref (al 3 (4 * q1) 0)]) (rest := []) hk (kX7_begin hN (nx_7 hN (j := 0) (by decide)) (nx_pr0 hN (nx_8 hN lq1)) ew3) cf_RX9_122 mi_X7_begin ⟨TX7, 11, rfl⟩ dX9_beginAnew_11 rfl (Nat.le_of_ble_eq_true rfl) (Nat.le_of_ble_eq_true rfl) (mk_7_0 (nx_7 hN (j := 0) (by decide))) rfl rfl (Nat.le_of_ble_eq_true rfl) ?_
  refine r_aload_n 15 hk dX9_beginAnew_14 rfl 0 rfl rfl ?_
  refine r_get 18 hk dX9_beginAnew_15 rfl ff_RX9_66 (mk_9_0 (nx_9 hN (j := 0) (by decide))) (gv_9_10 _ _ _) ?_
  obtain ⟨r4, w5, ew5, h⟩ := ob_e h
  refine r_cVv 21 (As := []) (rest := []) hk (kX2_forget hN ew5) cf_RX9_126 mi_X2_forget ⟨TX2, 3, rfl⟩ dX9_beginAnew_18 rfl (Nat.le_of_ble_eq_true rfl) (Nat.le_of_ble_eq_true rfl) (mk_2_0 (nx_2 hN (j := 0) (by decide))) rfl rfl (Nat.le_of_ble_eq_true rfl) ?_
  refine r_aload_n 22 hk dX9_beginAnew_21 rfl 0 rfl rfl ?_
  refine r_iconst 23 hk dX9_beginAnew_22 rfl ci_0 ?_
  obtain ⟨w6, ew6, h⟩ := lw_e h
  refine r_putI 26 w6 hk dX9_beginAnew_23 rfl ff_RX9_129 fi_9_12 (mk_9_0 (nx_9 hN (j := 0) (by decide))) ew6 ?_
  refine r_aload_n 27 hk dX9_beginAnew_26 rfl 0 rfl rfl ?_
  refine r_get 30 hk dX9_beginAnew_27 rfl ff_RX9_35 (mk_9_0 (nx_9 hN (j := 0) (by decide))) (gv_9_5 _ _ _) ?_
  refine r_iconst 31 hk dX9_beginAnew_30 rfl ci_0 ?_
  obtain ⟨w7, ew7, h⟩ := lw_e h
  refine r_putI 34 w7 hk dX9_beginAnew_31 rfl ff_RX9_132 fi_1_1 (mk_1_0 (nx_1 hN (j := 0) (by decide))) ew7 ?_
  refine r_iconst 35 hk dX9_beginAnew_34 rfl ci_0 ?_
  refine r_istore_n 36 [(1, .int 0), (0, .ref (al 9 0 0))] hk dX9_beginAnew_35 rfl rfl hn (by decide) rfl rfl ?_
  refine r_sub [1, 0] rfl ?_
  exact sX9_beginAnew_36 hk hR hn hN _ _ _ h
def fX9_accept (w : Wd) (x1 : Int32) : Option (Int32 × Wd) :=
  lw (sI w 9 0 13 (0)) fun w1 =>
  some (x1, w1)
set_option maxRecDepth 100000 in
set_option maxHeartbeats 4000000 in
theorem kX9_accept {l : Launch} {G : Gx} {al : Al} {w : Wd} {x1 : Int32} {r : Int32} {wz : Wd} (hN : NX G) (h : fX9_accept w x1 = some (r, wz)) : MC l G yX9_accept cX9_accept 2 (some (.int)) 0 0 al w [.ref (al 9 0 0), .int x1] (some (.int r)) wz := by
  refine mc_of [(0, .ref (al 9 0 0)), (1, .int x1)] (by decide) (Nat.le_of_ble_eq_true rfl) rfl ?_
  intro K hk hR hn hl hG
  subst hl; subst hG
  have hk : VH K RX9 cX9_accept 0 0 := hk
  rw [fX9_accept.eq_1] at h
  refine r_aload_n 1 hk dX9_accept_0 rfl 0 rfl rfl ?_
  refine r_iconst 2 hk dX9_accept_1 rfl ci_0 ?_
  obtain ⟨w1, ew1, h⟩ := lw_e h
  refine r_putI 5 w1 hk dX9_accept_2 rfl ff_RX9_152 fi_9_13 (mk_9_0 (nx_9 hN (j := 0) (by decide))) ew1 ?_
  refine r_iload_n 6 hk dX9_accept_5 rfl 1 rfl rfl ?_
  exact r_iret hk hR dX9_accept_6 h
def fX9_disk (w : Wd) (x1 : Int32) : Option (Int32 × Wd) :=
  if (x1 : Int32) < 0 then
    ob (fX9_refuse w (2)) fun r2 w3 =>
    some (r2, w3)
  else
    if (x1 : Int32) ≤ ((w 9 0).1 1) then
      ckp ((w 9 0).2.2.1 3) 2 fun q5 =>
      ob (fX4_tellAll q5 w (x1)) fun _ w7 =>
      lw (sI w7 9 0 1 (0)) fun w8 =>
      lw (sI w8 9 0 14 (((w8 4 0).1 8))) fun w9 =>
      lw (sI w9 9 0 15 (((w9 4 0).1 9))) fun w10 =>
      if (((w10 9 0).1 14) : Int32) = 0 then
        ckp ((w10 9 0).2.2.1 2) 2 fun q12 =>
        ckp ((w10 9 0).2.2.1 3) 2 fun q13 =>
        lw (sP w10 9 0 2 (q13 + 1)) fun w14 =>
        lw (sP w14 9 0 3 (q12 + 1)) fun w15 =>
        ob (fX9_beginAnew w15 ) fun _ w17 =>
        ckp ((w17 9 0).2.2.1 2) 2 fun q18 =>
        ob (fX9_accept w17 (((w17 5 q18).1 4))) fun r19 w20 =>
        some (r19, w20)
      else
        ob (fX9_refuse w10 (4)) fun r21 w22 =>
        some (r21, w22)
    else
      ob (fX9_refuse w (2)) fun r23 w24 =>
      some (r23, w24)
set_option maxRecDepth 100000 in
set_option maxHeartbeats 4000000 in
theorem kX9_disk {l : Launch} {G : Gx} {al : Al} {w : Wd} {x1 : Int32} {r : Int32} {wz : Wd} (hN : NX G) (h : fX9_disk w x1 = some (r, wz)) : MC l G yX9_disk cX9_disk 3 (some (.int)) 9 208 al w [.ref (al 9 0 0), .int x1] (some (.int r)) wz := by
  refine mc_of [(0, .ref (al 9 0 0)), (1, .int x1)] (by decide) (Nat.le_of_ble_eq_true rfl) rfl ?_
  intro K hk hR hn hl hG
  subst hl; subst hG
  have hk : VH K RX9 cX9_disk 9 208 := hk
  rw [fX9_disk.eq_1] at h
  refine r_iload_n 1 hk dX9_disk_0 rfl 1 rfl rfl ?_
  refine r_if_lt 12 4 hk dX9_disk_1 rfl rfl (fun c1 => ?_) (fun c1 => ?_)
  · have h := if_t c1 h
    refine r_aload_n 13 hk dX9_disk_12 rfl 0 rfl rfl ?_
    refine r_iconst 14 hk dX9_disk_13 rfl ci_2 ?_
    obtain ⟨r2, w3, ew3, h⟩ := ob_e h
    refine r_cVi 17 (As := [.int 2]) (rest := []) hk (kX9_refuse hN ew3) cf_RX9_86 mi_X9_refuse ⟨TX9, 16, rfl⟩ dX9_disk_14 rfl (Nat.le_of_ble_eq_true rfl) (Nat.le_of_ble_eq_true rfl) (mk_9_0 (nx_9 hN (j := 0) (by decide))) rfl rfl (Nat.le_of_ble_eq_true rfl) ?_
    exact r_iret hk hR dX9_disk_17 h
  · have h := if_f c1 h
    refine r_iload_n 5 hk dX9_disk_4 rfl 1 rfl rfl ?_
    refine r_aload_n 6 hk dX9_disk_5 rfl 0 rfl rfl ?_
    refine r_get 9 hk dX9_disk_6 rfl ff_RX9_79 (mk_9_0 (nx_9 hN (j := 0) (by decide))) (gv_9_1 _ _ _) ?_
    refine r_icmp_le 18 12 hk dX9_disk_9 rfl rfl (fun c4 => ?_) (fun c4 => ?_)
    · have h := if_t c4 h
      refine r_aload_n 19 hk dX9_disk_18 rfl 0 rfl rfl ?_
      refine r_get 22 hk dX9_disk_19 rfl ff_RX9_28 (mk_9_0 (nx_9 hN (j := 0) (by decide))) (gv_9_4 _ _ _) ?_
      refine r_iload_n 23 hk dX9_disk_22 rfl 1 rfl rfl ?_
      refine r_aload_n 24 hk dX9_disk_23 rfl 0 rfl rfl ?_
      refine r_get 27 hk dX9_disk_24 rfl ff_RX9_20 (mk_9_0 (nx_9 hN (j := 0) (by decide))) (gv_9_3 _ _ _) ?_
      obtain ⟨q5, eq5, lq5, h⟩ := ckp_e h
      refine r_pv1 eq5 ?_
      obtain ⟨r6, w7, ew7, h⟩ := ob_e h
      refine r_cVv 30 (As := [.int x1, .ref (al 8 q5 0)]) (rest := []) hk (kX4_tellAll hN (nx_8 hN lq5) ew7) cf_RX9_90 mi_X4_tellAll ⟨TX4, 10, rfl⟩ dX9_disk_27 rfl (Nat.le_of_ble_eq_true rfl) (Nat.le_of_ble_eq_true rfl) (mk_4_0 (nx_4 hN (j := 0) (by decide))) rfl rfl (Nat.le_of_ble_eq_true rfl) ?_
      refine r_aload_n 31 hk dX9_disk_30 rfl 0 rfl rfl ?_
      refine r_iconst 32 hk dX9_disk_31 rfl ci_0 ?_
      obtain ⟨w8, ew8, h⟩ := lw_e h
      refine r_putI 35 w8 hk dX9_disk_32 rfl ff_RX9_79 fi_9_1 (mk_9_0 (nx_9 hN (j := 0) (by decide))) ew8 ?_
      refine r_aload_n 36 hk dX9_disk_35 rfl 0 rfl rfl ?_
      refine r_aload_n 37 hk dX9_disk_36 rfl 0 rfl rfl ?_
      refine r_get 40 hk dX9_disk_37 rfl ff_RX9_28 (mk_9_0 (nx_9 hN (j := 0) (by decide))) (gv_9_4 _ _ _) ?_
      refine r_get 43 hk dX9_disk_40 rfl ff_RX9_94 (mk_4_0 (nx_4 hN (j := 0) (by decide))) (gv_4_8 _ _ _) ?_
      obtain ⟨w9, ew9, h⟩ := lw_e h
      refine r_putI 46 w9 hk dX9_disk_43 rfl ff_RX9_97 fi_9_14 (mk_9_0 (nx_9 hN (j := 0) (by decide))) ew9 ?_
      refine r_aload_n 47 hk dX9_disk_46 rfl 0 rfl rfl ?_
      refine r_aload_n 48 hk dX9_disk_47 rfl 0 rfl rfl ?_
      refine r_get 51 hk dX9_disk_48 rfl ff_RX9_28 (mk_9_0 (nx_9 hN (j := 0) (by decide))) (gv_9_4 _ _ _) ?_
      refine r_get 54 hk dX9_disk_51 rfl ff_RX9_100 (mk_4_0 (nx_4 hN (j := 0) (by decide))) (gv_4_9 _ _ _) ?_
      obtain ⟨w10, ew10, h⟩ := lw_e h
      refine r_putI 57 w10 hk dX9_disk_54 rfl ff_RX9_103 fi_9_15 (mk_9_0 (nx_9 hN (j := 0) (by decide))) ew10 ?_
      refine r_aload_n 58 hk dX9_disk_57 rfl 0 rfl rfl ?_
      refine r_get 61 hk dX9_disk_58 rfl ff_RX9_97 (mk_9_0 (nx_9 hN (j := 0) (by decide))) (gv_9_14 _ _ _) ?_
      refine r_if_eq 70 64 hk dX9_disk_61 rfl rfl (fun c11 => ?_) (fun c11 => ?_)
      · have h := if_t c11 h
        refine r_aload_n 71 hk dX9_disk_70 rfl 0 rfl rfl ?_
        refine r_get 74 hk dX9_disk_71 rfl ff_RX9_16 (mk_9_0 (nx_9 hN (j := 0) (by decide))) (gv_9_2 _ _ _) ?_
        obtain ⟨q12, eq12, lq12, h⟩ := ckp_e h
        refine r_pv1 eq12 ?_
        refine r_astore_n 75 [(2, .ref (al 8 q12 0)), (0, .ref (al 9 0 0)), (1, .int x1)] hk dX9_disk_74 rfl rfl hn (by decide) rfl rfl ?_
        refine r_aload_n 76 hk dX9_disk_75 rfl 1 rfl rfl ?_
        refine r_aload_n 77 hk dX9_disk_76 rfl 1 rfl rfl ?_
        refine r_get 80 hk dX9_disk_77 rfl ff_RX9_20 (mk_9_0 (nx_9 hN (j := 0) (by decide))) (gv_9_3 _ _ _) ?_
        obtain ⟨q13, eq13, lq13, h⟩ := ckp_e h
        refine r_pv1 eq13 ?_
        obtain ⟨w14, ew14, h⟩ := lw_e h
        refine r_putP 83 w14 hk dX9_disk_80 rfl ff_RX9_16 fi_9_2 (mk_9_0 (nx_9 hN (j := 0) (by decide))) ew14 ?_
        refine r_aload_n 84 hk dX9_disk_83 rfl 1 rfl rfl ?_
        refine r_aload_n 85 hk dX9_disk_84 rfl 0 rfl rfl ?_
        obtain ⟨w15, ew15, h⟩ := lw_e h
        refine r_putP 88 w15 hk dX9_disk_85 rfl ff_RX9_20 fi_9_3 (mk_9_0 (nx_9 hN (j := 0) (by decide))) ew15 ?_
        refine r_aload_n 89 hk dX9_disk_88 rfl 1 rfl rfl ?_
        obtain ⟨r16, w17, ew17, h⟩ := ob_e h
        refine r_cVv 92 (As := []) (rest := []) hk (kX9_beginAnew hN ew17) cf_RX9_106 mi_X9_beginAnew ⟨TX9, 16, rfl⟩ dX9_disk_89 rfl (Nat.le_of_ble_eq_true rfl) (Nat.le_of_ble_eq_true rfl) (mk_9_0 (nx_9 hN (j := 0) (by decide))) rfl rfl (Nat.le_of_ble_eq_true rfl) ?_
        refine r_aload_n 93 hk dX9_disk_92 rfl 1 rfl rfl ?_
        refine r_aload_n 94 hk dX9_disk_93 rfl 1 rfl rfl ?_
        refine r_get 97 hk dX9_disk_94 rfl ff_RX9_16 (mk_9_0 (nx_9 hN (j := 0) (by decide))) (gv_9_2 _ _ _) ?_
        obtain ⟨q18, eq18, lq18, h⟩ := ckp_e h
        refine r_pv1 eq18 ?_
        refine r_get 100 hk dX9_disk_97 rfl ff_RX9_109 (mk_8_0 (nx_8 hN lq18)) (gv_8_0 _ _ _) ?_
        refine r_get 103 hk dX9_disk_100 rfl ff_RX9_112 (mk_5_0 (nx_sh hN (nx_8 hN lq18))) (gv_5_4 _ _ _) ?_
        obtain ⟨r19, w20, ew20, h⟩ := ob_e h
        refine r_cVi 106 (As := [.int (((w17 5 q18).1 4))]) (rest := []) hk (kX9_accept hN ew20) cf_RX9_115 mi_X9_accept ⟨TX9, 16, rfl⟩ dX9_disk_103 rfl (Nat.le_of_ble_eq_true rfl) (Nat.le_of_ble_eq_true rfl) (mk_9_0 (nx_9 hN (j := 0) (by decide))) rfl rfl (Nat.le_of_ble_eq_true rfl) ?_
        exact r_iret hk hR dX9_disk_106 h
      · have h := if_f c11 h
        refine r_aload_n 65 hk dX9_disk_64 rfl 0 rfl rfl ?_
        refine r_iconst 66 hk dX9_disk_65 rfl ci_4 ?_
        obtain ⟨r21, w22, ew22, h⟩ := ob_e h
        refine r_cVi 69 (As := [.int 4]) (rest := []) hk (kX9_refuse hN ew22) cf_RX9_86 mi_X9_refuse ⟨TX9, 16, rfl⟩ dX9_disk_66 rfl (Nat.le_of_ble_eq_true rfl) (Nat.le_of_ble_eq_true rfl) (mk_9_0 (nx_9 hN (j := 0) (by decide))) rfl rfl (Nat.le_of_ble_eq_true rfl) ?_
        exact r_iret hk hR dX9_disk_69 h
    · have h := if_f c4 h
      refine r_aload_n 13 hk dX9_disk_12 rfl 0 rfl rfl ?_
      refine r_iconst 14 hk dX9_disk_13 rfl ci_2 ?_
      obtain ⟨r23, w24, ew24, h⟩ := ob_e h
      refine r_cVi 17 (As := [.int 2]) (rest := []) hk (kX9_refuse hN ew24) cf_RX9_86 mi_X9_refuse ⟨TX9, 16, rfl⟩ dX9_disk_14 rfl (Nat.le_of_ble_eq_true rfl) (Nat.le_of_ble_eq_true rfl) (mk_9_0 (nx_9 hN (j := 0) (by decide))) rfl rfl (Nat.le_of_ble_eq_true rfl) ?_
      exact r_iret hk hR dX9_disk_17 h
def fX9_fault (w : Wd) : Option (Int32 × Wd) :=
  some (((w 9 0).1 14), w)
set_option maxRecDepth 100000 in
set_option maxHeartbeats 4000000 in
theorem kX9_fault {l : Launch} {G : Gx} {al : Al} {w : Wd} {r : Int32} {wz : Wd} (hN : NX G) (h : fX9_fault w = some (r, wz)) : MC l G yX9_fault cX9_fault 1 (some (.int)) 0 0 al w [.ref (al 9 0 0)] (some (.int r)) wz := by
  refine mc_of [(0, .ref (al 9 0 0))] (by decide) (Nat.le_of_ble_eq_true rfl) rfl ?_
  intro K hk hR hn hl hG
  subst hl; subst hG
  have hk : VH K RX9 cX9_fault 0 0 := hk
  rw [fX9_fault.eq_1] at h
  refine r_aload_n 1 hk dX9_fault_0 rfl 0 rfl rfl ?_
  refine r_get 4 hk dX9_fault_1 rfl ff_RX9_97 (mk_9_0 (nx_9 hN (j := 0) (by decide))) (gv_9_14 _ _ _) ?_
  exact r_iret hk hR dX9_fault_4 h
def fX9_where (w : Wd) : Option (Int32 × Wd) :=
  if (((w 9 0).1 13) : Int32) = 4 then
    some (((w 9 0).1 15), w)
  else
    some ((-1), w)
set_option maxRecDepth 100000 in
set_option maxHeartbeats 4000000 in
theorem kX9_where {l : Launch} {G : Gx} {al : Al} {w : Wd} {r : Int32} {wz : Wd} (hN : NX G) (h : fX9_where w = some (r, wz)) : MC l G yX9_where cX9_where 1 (some (.int)) 0 0 al w [.ref (al 9 0 0)] (some (.int r)) wz := by
  refine mc_of [(0, .ref (al 9 0 0))] (by decide) (Nat.le_of_ble_eq_true rfl) rfl ?_
  intro K hk hR hn hl hG
  subst hl; subst hG
  have hk : VH K RX9 cX9_where 0 0 := hk
  rw [fX9_where.eq_1] at h
  refine r_aload_n 1 hk dX9_where_0 rfl 0 rfl rfl ?_
  refine r_get 4 hk dX9_where_1 rfl ff_RX9_152 (mk_9_0 (nx_9 hN (j := 0) (by decide))) (gv_9_13 _ _ _) ?_
  refine r_iconst 5 hk dX9_where_4 rfl ci_4 ?_
  refine r_icmp_ne 15 8 hk dX9_where_5 rfl rfl (fun c1 => ?_) (fun c1 => ?_)
  · have h := if_f c1 h
    refine r_iconst 16 hk dX9_where_15 rfl ci_m1 ?_
    exact r_iret hk hR dX9_where_16 h
  · have h := if_t c1 h
    refine r_aload_n 9 hk dX9_where_8 rfl 0 rfl rfl ?_
    refine r_get 12 hk dX9_where_9 rfl ff_RX9_103 (mk_9_0 (nx_9 hN (j := 0) (by decide))) (gv_9_15 _ _ _) ?_
    refine r_goto 16 hk (x := 0) dX9_where_12 rfl ?_
    exact r_iret hk hR dX9_where_16 h
def fX9_hasDisk (w : Wd) : Option (Int32 × Wd) :=
  ckp ((w 9 0).2.2.1 2) 2 fun q1 =>
  if (((w 5 q1).1 3) : Int32) ≤ 0 then
    some (0, w)
  else
    some (1, w)
set_option maxRecDepth 100000 in
set_option maxHeartbeats 4000000 in
theorem kX9_hasDisk {l : Launch} {G : Gx} {al : Al} {w : Wd} {r : Int32} {wz : Wd} (hN : NX G) (h : fX9_hasDisk w = some (r, wz)) : MC l G yX9_hasDisk cX9_hasDisk 1 (some (.boolean)) 0 0 al w [.ref (al 9 0 0)] (some (.int r)) wz := by
  refine mc_of [(0, .ref (al 9 0 0))] (by decide) (Nat.le_of_ble_eq_true rfl) rfl ?_
  intro K hk hR hn hl hG
  subst hl; subst hG
  have hk : VH K RX9 cX9_hasDisk 0 0 := hk
  rw [fX9_hasDisk.eq_1] at h
  refine r_aload_n 1 hk dX9_hasDisk_0 rfl 0 rfl rfl ?_
  refine r_get 4 hk dX9_hasDisk_1 rfl ff_RX9_16 (mk_9_0 (nx_9 hN (j := 0) (by decide))) (gv_9_2 _ _ _) ?_
  obtain ⟨q1, eq1, lq1, h⟩ := ckp_e h
  refine r_pv1 eq1 ?_
  refine r_get 7 hk dX9_hasDisk_4 rfl ff_RX9_109 (mk_8_0 (nx_8 hN lq1)) (gv_8_0 _ _ _) ?_
  refine r_get 10 hk dX9_hasDisk_7 rfl ff_RX9_155 (mk_5_0 (nx_sh hN (nx_8 hN lq1))) (gv_5_3 _ _ _) ?_
  refine r_if_le 17 13 hk dX9_hasDisk_10 rfl rfl (fun c2 => ?_) (fun c2 => ?_)
  · have h := if_t c2 h
    refine r_iconst 18 hk dX9_hasDisk_17 rfl ci_0 ?_
    exact r_zret hk hR dX9_hasDisk_18 (by decide) h
  · have h := if_f c2 h
    refine r_iconst 14 hk dX9_hasDisk_13 rfl ci_1 ?_
    refine r_goto 18 hk (x := 0) dX9_hasDisk_14 rfl ?_
    exact r_zret hk hR dX9_hasDisk_18 (by decide) h
def fX9_hasTrack (w : Wd) (x1 : Int32) : Option (Int32 × Wd) :=
  if (x1 : Int32) < 0 then
    some (0, w)
  else
    ckp ((w 9 0).2.2.1 2) 2 fun q2 =>
    if (((w 5 q2).1 4) : Int32) ≤ x1 then
      some (0, w)
    else
      some (1, w)
set_option maxRecDepth 100000 in
set_option maxHeartbeats 4000000 in
theorem kX9_hasTrack {l : Launch} {G : Gx} {al : Al} {w : Wd} {x1 : Int32} {r : Int32} {wz : Wd} (hN : NX G) (h : fX9_hasTrack w x1 = some (r, wz)) : MC l G yX9_hasTrack cX9_hasTrack 2 (some (.boolean)) 0 0 al w [.ref (al 9 0 0), .int x1] (some (.int r)) wz := by
  refine mc_of [(0, .ref (al 9 0 0)), (1, .int x1)] (by decide) (Nat.le_of_ble_eq_true rfl) rfl ?_
  intro K hk hR hn hl hG
  subst hl; subst hG
  have hk : VH K RX9 cX9_hasTrack 0 0 := hk
  rw [fX9_hasTrack.eq_1] at h
  refine r_iload_n 1 hk dX9_hasTrack_0 rfl 1 rfl rfl ?_
  refine r_if_lt 22 4 hk dX9_hasTrack_1 rfl rfl (fun c1 => ?_) (fun c1 => ?_)
  · have h := if_t c1 h
    refine r_iconst 23 hk dX9_hasTrack_22 rfl ci_0 ?_
    exact r_zret hk hR dX9_hasTrack_23 (by decide) h
  · have h := if_f c1 h
    refine r_iload_n 5 hk dX9_hasTrack_4 rfl 1 rfl rfl ?_
    refine r_aload_n 6 hk dX9_hasTrack_5 rfl 0 rfl rfl ?_
    refine r_get 9 hk dX9_hasTrack_6 rfl ff_RX9_16 (mk_9_0 (nx_9 hN (j := 0) (by decide))) (gv_9_2 _ _ _) ?_
    obtain ⟨q2, eq2, lq2, h⟩ := ckp_e h
    refine r_pv1 eq2 ?_
    refine r_get 12 hk dX9_hasTrack_9 rfl ff_RX9_109 (mk_8_0 (nx_8 hN lq2)) (gv_8_0 _ _ _) ?_
    refine r_get 15 hk dX9_hasTrack_12 rfl ff_RX9_112 (mk_5_0 (nx_sh hN (nx_8 hN lq2))) (gv_5_4 _ _ _) ?_
    refine r_icmp_ge 22 18 hk dX9_hasTrack_15 rfl rfl (fun c3 => ?_) (fun c3 => ?_)
    · have h := if_t c3 h
      refine r_iconst 23 hk dX9_hasTrack_22 rfl ci_0 ?_
      exact r_zret hk hR dX9_hasTrack_23 (by decide) h
    · have h := if_f c3 h
      refine r_iconst 19 hk dX9_hasTrack_18 rfl ci_1 ?_
      refine r_goto 23 hk (x := 0) dX9_hasTrack_19 rfl ?_
      exact r_zret hk hR dX9_hasTrack_23 (by decide) h
def fX9_hasBand (w : Wd) (x1 : Int32) : Option (Int32 × Wd) :=
  if (x1 : Int32) < 0 then
    some (0, w)
  else
    ckp ((w 9 0).2.2.1 2) 2 fun q2 =>
    if (((w 5 q2).1 3) : Int32) ≤ x1 then
      some (0, w)
    else
      some (1, w)
set_option maxRecDepth 100000 in
set_option maxHeartbeats 4000000 in
theorem kX9_hasBand {l : Launch} {G : Gx} {al : Al} {w : Wd} {x1 : Int32} {r : Int32} {wz : Wd} (hN : NX G) (h : fX9_hasBand w x1 = some (r, wz)) : MC l G yX9_hasBand cX9_hasBand 2 (some (.boolean)) 0 0 al w [.ref (al 9 0 0), .int x1] (some (.int r)) wz := by
  refine mc_of [(0, .ref (al 9 0 0)), (1, .int x1)] (by decide) (Nat.le_of_ble_eq_true rfl) rfl ?_
  intro K hk hR hn hl hG
  subst hl; subst hG
  have hk : VH K RX9 cX9_hasBand 0 0 := hk
  rw [fX9_hasBand.eq_1] at h
  refine r_iload_n 1 hk dX9_hasBand_0 rfl 1 rfl rfl ?_
  refine r_if_lt 22 4 hk dX9_hasBand_1 rfl rfl (fun c1 => ?_) (fun c1 => ?_)
  · have h := if_t c1 h
    refine r_iconst 23 hk dX9_hasBand_22 rfl ci_0 ?_
    exact r_zret hk hR dX9_hasBand_23 (by decide) h
  · have h := if_f c1 h
    refine r_iload_n 5 hk dX9_hasBand_4 rfl 1 rfl rfl ?_
    refine r_aload_n 6 hk dX9_hasBand_5 rfl 0 rfl rfl ?_
    refine r_get 9 hk dX9_hasBand_6 rfl ff_RX9_16 (mk_9_0 (nx_9 hN (j := 0) (by decide))) (gv_9_2 _ _ _) ?_
    obtain ⟨q2, eq2, lq2, h⟩ := ckp_e h
    refine r_pv1 eq2 ?_
    refine r_get 12 hk dX9_hasBand_9 rfl ff_RX9_109 (mk_8_0 (nx_8 hN lq2)) (gv_8_0 _ _ _) ?_
    refine r_get 15 hk dX9_hasBand_12 rfl ff_RX9_155 (mk_5_0 (nx_sh hN (nx_8 hN lq2))) (gv_5_3 _ _ _) ?_
    refine r_icmp_ge 22 18 hk dX9_hasBand_15 rfl rfl (fun c3 => ?_) (fun c3 => ?_)
    · have h := if_t c3 h
      refine r_iconst 23 hk dX9_hasBand_22 rfl ci_0 ?_
      exact r_zret hk hR dX9_hasBand_23 (by decide) h
    · have h := if_f c3 h
      refine r_iconst 19 hk dX9_hasBand_18 rfl ci_1 ?_
      refine r_goto 23 hk (x := 0) dX9_hasBand_19 rfl ?_
      exact r_zret hk hR dX9_hasBand_23 (by decide) h
def fX9_read (w : Wd) (x1 : Int32) : Option (Int32 × Wd) :=
  ob (fX9_hasTrack w (x1)) fun r1 w2 =>
  if (r1 : Int32) = 0 then
    ob (fX9_refuse w2 (1)) fun r11 w12 =>
    some (r11, w12)
  else
    if (((w2 7 0).1 8) : Int32) = 0 then
      ob (fX7_valueOf 0 w2 (x1)) fun r5 w6 =>
      ob (fX9_accept w6 (r5)) fun r7 w8 =>
      some (r7, w8)
    else
      ob (fX9_refuse w2 (5)) fun r9 w10 =>
      some (r9, w10)
set_option maxRecDepth 100000 in
set_option maxHeartbeats 4000000 in
theorem kX9_read {l : Launch} {G : Gx} {al : Al} {w : Wd} {x1 : Int32} {r : Int32} {wz : Wd} (hN : NX G) (h : fX9_read w x1 = some (r, wz)) : MC l G yX9_read cX9_read 2 (some (.int)) 3 65 al w [.ref (al 9 0 0), .int x1] (some (.int r)) wz := by
  refine mc_of [(0, .ref (al 9 0 0)), (1, .int x1)] (by decide) (Nat.le_of_ble_eq_true rfl) rfl ?_
  intro K hk hR hn hl hG
  subst hl; subst hG
  have hk : VH K RX9 cX9_read 3 65 := hk
  rw [fX9_read.eq_1] at h
  refine r_aload_n 1 hk dX9_read_0 rfl 0 rfl rfl ?_
  refine r_iload_n 2 hk dX9_read_1 rfl 1 rfl rfl ?_
  obtain ⟨r1, w2, ew2, h⟩ := ob_e h
  refine r_cVi 5 (As := [.int x1]) (rest := []) hk (kX9_hasTrack hN ew2) cf_RX9_158 mi_X9_hasTrack ⟨TX9, 16, rfl⟩ dX9_read_2 rfl (Nat.le_of_ble_eq_true rfl) (Nat.le_of_ble_eq_true rfl) (mk_9_0 (nx_9 hN (j := 0) (by decide))) rfl rfl (Nat.le_of_ble_eq_true rfl) ?_
  refine r_if_ne 14 8 hk dX9_read_5 rfl rfl (fun c3 => ?_) (fun c3 => ?_)
  · have h := if_f c3 h
    refine r_aload_n 15 hk dX9_read_14 rfl 0 rfl rfl ?_
    refine r_get 18 hk dX9_read_15 rfl ff_RX9_42 (mk_9_0 (nx_9 hN (j := 0) (by decide))) (gv_9_6 _ _ _) ?_
    refine r_get 21 hk dX9_read_18 rfl ff_RX9_162 (mk_7_0 (nx_7 hN (j := 0) (by decide))) (gv_7_8 _ _ _) ?_
    refine r_if_eq 30 24 hk dX9_read_21 rfl rfl (fun c4 => ?_) (fun c4 => ?_)
    · have h := if_t c4 h
      refine r_aload_n 31 hk dX9_read_30 rfl 0 rfl rfl ?_
      refine r_aload_n 32 hk dX9_read_31 rfl 0 rfl rfl ?_
      refine r_get 35 hk dX9_read_32 rfl ff_RX9_42 (mk_9_0 (nx_9 hN (j := 0) (by decide))) (gv_9_6 _ _ _) ?_
      refine r_iload_n 36 hk dX9_read_35 rfl 1 rfl rfl ?_
      obtain ⟨r5, w6, ew6, h⟩ := ob_e h
      refine r_cVi 39 (As := [.int x1]) (rest := [.ref (al 9 0 0)]) hk (kX7_valueOf hN (nx_7 hN (j := 0) (by decide)) ew6) cf_RX9_166 mi_X7_valueOf ⟨TX7, 11, rfl⟩ dX9_read_36 rfl (Nat.le_of_ble_eq_true rfl) (Nat.le_of_ble_eq_true rfl) (mk_7_0 (nx_7 hN (j := 0) (by decide))) rfl rfl (Nat.le_of_ble_eq_true rfl) ?_
      obtain ⟨r7, w8, ew8, h⟩ := ob_e h
      refine r_cVi 42 (As := [.int r5]) (rest := []) hk (kX9_accept hN ew8) cf_RX9_115 mi_X9_accept ⟨TX9, 16, rfl⟩ dX9_read_39 rfl (Nat.le_of_ble_eq_true rfl) (Nat.le_of_ble_eq_true rfl) (mk_9_0 (nx_9 hN (j := 0) (by decide))) rfl rfl (Nat.le_of_ble_eq_true rfl) ?_
      exact r_iret hk hR dX9_read_42 h
    · have h := if_f c4 h
      refine r_aload_n 25 hk dX9_read_24 rfl 0 rfl rfl ?_
      refine r_iconst 26 hk dX9_read_25 rfl ci_5 ?_
      obtain ⟨r9, w10, ew10, h⟩ := ob_e h
      refine r_cVi 29 (As := [.int 5]) (rest := []) hk (kX9_refuse hN ew10) cf_RX9_86 mi_X9_refuse ⟨TX9, 16, rfl⟩ dX9_read_26 rfl (Nat.le_of_ble_eq_true rfl) (Nat.le_of_ble_eq_true rfl) (mk_9_0 (nx_9 hN (j := 0) (by decide))) rfl rfl (Nat.le_of_ble_eq_true rfl) ?_
      exact r_iret hk hR dX9_read_29 h
  · have h := if_t c3 h
    refine r_aload_n 9 hk dX9_read_8 rfl 0 rfl rfl ?_
    refine r_iconst 10 hk dX9_read_9 rfl ci_1 ?_
    obtain ⟨r11, w12, ew12, h⟩ := ob_e h
    refine r_cVi 13 (As := [.int 1]) (rest := []) hk (kX9_refuse hN ew12) cf_RX9_86 mi_X9_refuse ⟨TX9, 16, rfl⟩ dX9_read_10 rfl (Nat.le_of_ble_eq_true rfl) (Nat.le_of_ble_eq_true rfl) (mk_9_0 (nx_9 hN (j := 0) (by decide))) rfl rfl (Nat.le_of_ble_eq_true rfl) ?_
    exact r_iret hk hR dX9_read_13 h
def fX9_track (w : Wd) (x1 : Int32) : Option (Int32 × Wd) :=
  ob (fX9_hasTrack w (x1)) fun r1 w2 =>
  if (r1 : Int32) = 0 then
    ob (fX9_refuse w2 (1)) fun r8 w9 =>
    some (r8, w9)
  else
    ob (fX9_at 7 0 0 w2 (x1)) fun r4 w5 =>
    ob (fX9_accept w5 (r4)) fun r6 w7 =>
    some (r6, w7)
set_option maxRecDepth 100000 in
set_option maxHeartbeats 4000000 in
theorem kX9_track {l : Launch} {G : Gx} {al : Al} {w : Wd} {x1 : Int32} {r : Int32} {wz : Wd} (hN : NX G) (h : fX9_track w x1 = some (r, wz)) : MC l G yX9_track cX9_track 2 (some (.int)) 1 21 al w [.ref (al 9 0 0), .int x1] (some (.int r)) wz := by
  refine mc_of [(0, .ref (al 9 0 0)), (1, .int x1)] (by decide) (Nat.le_of_ble_eq_true rfl) rfl ?_
  intro K hk hR hn hl hG
  subst hl; subst hG
  have hk : VH K RX9 cX9_track 1 21 := hk
  rw [fX9_track.eq_1] at h
  refine r_aload_n 1 hk dX9_track_0 rfl 0 rfl rfl ?_
  refine r_iload_n 2 hk dX9_track_1 rfl 1 rfl rfl ?_
  obtain ⟨r1, w2, ew2, h⟩ := ob_e h
  refine r_cVi 5 (As := [.int x1]) (rest := []) hk (kX9_hasTrack hN ew2) cf_RX9_158 mi_X9_hasTrack ⟨TX9, 16, rfl⟩ dX9_track_2 rfl (Nat.le_of_ble_eq_true rfl) (Nat.le_of_ble_eq_true rfl) (mk_9_0 (nx_9 hN (j := 0) (by decide))) rfl rfl (Nat.le_of_ble_eq_true rfl) ?_
  refine r_if_ne 14 8 hk dX9_track_5 rfl rfl (fun c3 => ?_) (fun c3 => ?_)
  · have h := if_f c3 h
    refine r_aload_n 15 hk dX9_track_14 rfl 0 rfl rfl ?_
    refine r_aload_n 16 hk dX9_track_15 rfl 0 rfl rfl ?_
    refine r_get 19 hk dX9_track_16 rfl ff_RX9_42 (mk_9_0 (nx_9 hN (j := 0) (by decide))) (gv_9_6 _ _ _) ?_
    refine r_get 22 hk dX9_track_19 rfl ff_RX9_169 (mk_7_0 (nx_7 hN (j := 0) (by decide))) (gv_7_0 _ _ _) ?_
    refine r_iload_n 23 hk dX9_track_22 rfl 1 rfl rfl ?_
    obtain ⟨r4, w5, ew5, h⟩ := ob_e h
    refine r_cSi 26 (As := [.ref (al 7 0 1), .int x1]) (rest := [.ref (al 9 0 0)]) hk (kX9_at hN rfl (mk_7_1 (nx_7 hN (j := 0) (by decide))) ew5) cf_RX9_173 ms_X9_at dX9_track_23 rfl (Nat.le_of_ble_eq_true rfl) (Nat.le_of_ble_eq_true rfl) rfl rfl (Nat.le_of_ble_eq_true rfl) ?_
    obtain ⟨r6, w7, ew7, h⟩ := ob_e h
    refine r_cVi 29 (As := [.int r4]) (rest := []) hk (kX9_accept hN ew7) cf_RX9_115 mi_X9_accept ⟨TX9, 16, rfl⟩ dX9_track_26 rfl (Nat.le_of_ble_eq_true rfl) (Nat.le_of_ble_eq_true rfl) (mk_9_0 (nx_9 hN (j := 0) (by decide))) rfl rfl (Nat.le_of_ble_eq_true rfl) ?_
    exact r_iret hk hR dX9_track_29 h
  · have h := if_t c3 h
    refine r_aload_n 9 hk dX9_track_8 rfl 0 rfl rfl ?_
    refine r_iconst 10 hk dX9_track_9 rfl ci_1 ?_
    obtain ⟨r8, w9, ew9, h⟩ := ob_e h
    refine r_cVi 13 (As := [.int 1]) (rest := []) hk (kX9_refuse hN ew9) cf_RX9_86 mi_X9_refuse ⟨TX9, 16, rfl⟩ dX9_track_10 rfl (Nat.le_of_ble_eq_true rfl) (Nat.le_of_ble_eq_true rfl) (mk_9_0 (nx_9 hN (j := 0) (by decide))) rfl rfl (Nat.le_of_ble_eq_true rfl) ?_
    exact r_iret hk hR dX9_track_13 h
def fX9_bandOf (w : Wd) (x1 : Int32) : Option (Int32 × Wd) :=
  ob (fX9_hasTrack w (x1)) fun r1 w2 =>
  if (r1 : Int32) = 0 then
    ob (fX9_refuse w2 (1)) fun r9 w10 =>
    some (r9, w10)
  else
    ckp ((w2 9 0).2.2.1 2) 2 fun q4 =>
    ob (fX5_bandHolding q4 w2 (x1)) fun r5 w6 =>
    ob (fX9_accept w6 (r5)) fun r7 w8 =>
    some (r7, w8)
set_option maxRecDepth 100000 in
set_option maxHeartbeats 4000000 in
theorem kX9_bandOf {l : Launch} {G : Gx} {al : Al} {w : Wd} {x1 : Int32} {r : Int32} {wz : Wd} (hN : NX G) (h : fX9_bandOf w x1 = some (r, wz)) : MC l G yX9_bandOf cX9_bandOf 2 (some (.int)) 2 42 al w [.ref (al 9 0 0), .int x1] (some (.int r)) wz := by
  refine mc_of [(0, .ref (al 9 0 0)), (1, .int x1)] (by decide) (Nat.le_of_ble_eq_true rfl) rfl ?_
  intro K hk hR hn hl hG
  subst hl; subst hG
  have hk : VH K RX9 cX9_bandOf 2 42 := hk
  rw [fX9_bandOf.eq_1] at h
  refine r_aload_n 1 hk dX9_bandOf_0 rfl 0 rfl rfl ?_
  refine r_iload_n 2 hk dX9_bandOf_1 rfl 1 rfl rfl ?_
  obtain ⟨r1, w2, ew2, h⟩ := ob_e h
  refine r_cVi 5 (As := [.int x1]) (rest := []) hk (kX9_hasTrack hN ew2) cf_RX9_158 mi_X9_hasTrack ⟨TX9, 16, rfl⟩ dX9_bandOf_2 rfl (Nat.le_of_ble_eq_true rfl) (Nat.le_of_ble_eq_true rfl) (mk_9_0 (nx_9 hN (j := 0) (by decide))) rfl rfl (Nat.le_of_ble_eq_true rfl) ?_
  refine r_if_ne 14 8 hk dX9_bandOf_5 rfl rfl (fun c3 => ?_) (fun c3 => ?_)
  · have h := if_f c3 h
    refine r_aload_n 15 hk dX9_bandOf_14 rfl 0 rfl rfl ?_
    refine r_aload_n 16 hk dX9_bandOf_15 rfl 0 rfl rfl ?_
    refine r_get 19 hk dX9_bandOf_16 rfl ff_RX9_16 (mk_9_0 (nx_9 hN (j := 0) (by decide))) (gv_9_2 _ _ _) ?_
    obtain ⟨q4, eq4, lq4, h⟩ := ckp_e h
    refine r_pv1 eq4 ?_
    refine r_get 22 hk dX9_bandOf_19 rfl ff_RX9_109 (mk_8_0 (nx_8 hN lq4)) (gv_8_0 _ _ _) ?_
    refine r_iload_n 23 hk dX9_bandOf_22 rfl 1 rfl rfl ?_
    obtain ⟨r5, w6, ew6, h⟩ := ob_e h
    refine r_cVi 26 (As := [.int x1]) (rest := [.ref (al 9 0 0)]) hk (kX5_bandHolding hN (nx_sh hN (nx_8 hN lq4)) ew6) cf_RX9_177 mi_X5_bandHolding ⟨TX5, 8, rfl⟩ dX9_bandOf_23 rfl (Nat.le_of_ble_eq_true rfl) (Nat.le_of_ble_eq_true rfl) (mk_5_0 (nx_sh hN (nx_8 hN lq4))) rfl rfl (Nat.le_of_ble_eq_true rfl) ?_
    obtain ⟨r7, w8, ew8, h⟩ := ob_e h
    refine r_cVi 29 (As := [.int r5]) (rest := []) hk (kX9_accept hN ew8) cf_RX9_115 mi_X9_accept ⟨TX9, 16, rfl⟩ dX9_bandOf_26 rfl (Nat.le_of_ble_eq_true rfl) (Nat.le_of_ble_eq_true rfl) (mk_9_0 (nx_9 hN (j := 0) (by decide))) rfl rfl (Nat.le_of_ble_eq_true rfl) ?_
    exact r_iret hk hR dX9_bandOf_29 h
  · have h := if_t c3 h
    refine r_aload_n 9 hk dX9_bandOf_8 rfl 0 rfl rfl ?_
    refine r_iconst 10 hk dX9_bandOf_9 rfl ci_1 ?_
    obtain ⟨r9, w10, ew10, h⟩ := ob_e h
    refine r_cVi 13 (As := [.int 1]) (rest := []) hk (kX9_refuse hN ew10) cf_RX9_86 mi_X9_refuse ⟨TX9, 16, rfl⟩ dX9_bandOf_10 rfl (Nat.le_of_ble_eq_true rfl) (Nat.le_of_ble_eq_true rfl) (mk_9_0 (nx_9 hN (j := 0) (by decide))) rfl rfl (Nat.le_of_ble_eq_true rfl) ?_
    exact r_iret hk hR dX9_bandOf_13 h
def fX9_band (w : Wd) (x1 : Int32) (x2 : Int32) : Option (Int32 × Wd) :=
  ob (fX9_hasBand w (x1)) fun r1 w2 =>
  if (r1 : Int32) = 0 then
    ob (fX9_refuse w2 (1)) fun r36 w37 =>
    some (r36, w37)
  else
    if (x2 : Int32) = 0 then
      ckp ((w2 9 0).2.2.1 2) 2 fun q5 =>
      ob (fX5_tracksOf q5 w2 (x1)) fun r6 w7 =>
      ob (fX9_accept w7 (r6)) fun r8 w9 =>
      some (r8, w9)
    else
    if (x2 : Int32) = 1 then
      ckp ((w2 9 0).2.2.1 2) 2 fun q11 =>
      ob (fX5_firstOf q11 w2 (x1)) fun r12 w13 =>
      ob (fX9_accept w13 (r12)) fun r14 w15 =>
      some (r14, w15)
    else
    if (x2 : Int32) = 2 then
      ckp ((w2 9 0).2.2.1 2) 2 fun q17 =>
      ob (fX7_entriesOf 0 q17 w2 (x1)) fun r18 w19 =>
      ob (fX9_accept w19 (r18)) fun r20 w21 =>
      some (r20, w21)
    else
    if (x2 : Int32) = 3 then
      ckp ((w2 9 0).2.2.1 2) 2 fun q23 =>
      ob (fX7_liveEntriesOf 0 q23 w2 (x1)) fun r24 w25 =>
      ob (fX9_accept w25 (r24)) fun r26 w27 =>
      some (r26, w27)
    else
    if (x2 : Int32) = 4 then
      ckp ((w2 9 0).2.2.1 2) 2 fun q29 =>
      ob (fX7_damagedOf 0 q29 w2 (x1)) fun r30 w31 =>
      ob (fX9_accept w31 (r30)) fun r32 w33 =>
      some (r32, w33)
    else
    ob (fX9_refuse w2 (1)) fun r34 w35 =>
    some (r34, w35)
set_option maxRecDepth 100000 in
set_option maxHeartbeats 4000000 in
theorem kX9_band {l : Launch} {G : Gx} {al : Al} {w : Wd} {x1 : Int32} {x2 : Int32} {r : Int32} {wz : Wd} (hN : NX G) (h : fX9_band w x1 x2 = some (r, wz)) : MC l G yX9_band cX9_band 3 (some (.int)) 4 88 al w [.ref (al 9 0 0), .int x1, .int x2] (some (.int r)) wz := by
  refine mc_of [(0, .ref (al 9 0 0)), (1, .int x1), (2, .int x2)] (by decide) (Nat.le_of_ble_eq_true rfl) rfl ?_
  intro K hk hR hn hl hG
  subst hl; subst hG
  have hk : VH K RX9 cX9_band 4 88 := hk
  rw [fX9_band.eq_1] at h
  refine r_aload_n 1 hk dX9_band_0 rfl 0 rfl rfl ?_
  refine r_iload_n 2 hk dX9_band_1 rfl 1 rfl rfl ?_
  obtain ⟨r1, w2, ew2, h⟩ := ob_e h
  refine r_cVi 5 (As := [.int x1]) (rest := []) hk (kX9_hasBand hN ew2) cf_RX9_180 mi_X9_hasBand ⟨TX9, 16, rfl⟩ dX9_band_2 rfl (Nat.le_of_ble_eq_true rfl) (Nat.le_of_ble_eq_true rfl) (mk_9_0 (nx_9 hN (j := 0) (by decide))) rfl rfl (Nat.le_of_ble_eq_true rfl) ?_
  refine r_if_ne 14 8 hk dX9_band_5 rfl rfl (fun c3 => ?_) (fun c3 => ?_)
  · have h := if_f c3 h
    refine r_iload_n 15 hk dX9_band_14 rfl 2 rfl rfl ?_
    by_cases c4 : (x2 : Int32) = 0
    · have h := if_t c4 h
      refine r_tabIn 48 hk (k := 0) c4 dX9_band_15 (by decide) (by decide) rfl rfl ?_
      refine r_aload_n 49 hk dX9_band_48 rfl 0 rfl rfl ?_
      refine r_aload_n 50 hk dX9_band_49 rfl 0 rfl rfl ?_
      refine r_get 53 hk dX9_band_50 rfl ff_RX9_16 (mk_9_0 (nx_9 hN (j := 0) (by decide))) (gv_9_2 _ _ _) ?_
      obtain ⟨q5, eq5, lq5, h⟩ := ckp_e h
      refine r_pv1 eq5 ?_
      refine r_get 56 hk dX9_band_53 rfl ff_RX9_109 (mk_8_0 (nx_8 hN lq5)) (gv_8_0 _ _ _) ?_
      refine r_iload_n 57 hk dX9_band_56 rfl 1 rfl rfl ?_
      obtain ⟨r6, w7, ew7, h⟩ := ob_e h
      refine r_cVi 60 (As := [.int x1]) (rest := [.ref (al 9 0 0)]) hk (kX5_tracksOf hN (nx_sh hN (nx_8 hN lq5)) ew7) cf_RX9_183 mi_X5_tracksOf ⟨TX5, 8, rfl⟩ dX9_band_57 rfl (Nat.le_of_ble_eq_true rfl) (Nat.le_of_ble_eq_true rfl) (mk_5_0 (nx_sh hN (nx_8 hN lq5))) rfl rfl (Nat.le_of_ble_eq_true rfl) ?_
      obtain ⟨r8, w9, ew9, h⟩ := ob_e h
      refine r_cVi 63 (As := [.int r6]) (rest := []) hk (kX9_accept hN ew9) cf_RX9_115 mi_X9_accept ⟨TX9, 16, rfl⟩ dX9_band_60 rfl (Nat.le_of_ble_eq_true rfl) (Nat.le_of_ble_eq_true rfl) (mk_9_0 (nx_9 hN (j := 0) (by decide))) rfl rfl (Nat.le_of_ble_eq_true rfl) ?_
      exact r_iret hk hR dX9_band_63 h
    have h := if_f c4 h
    by_cases c10 : (x2 : Int32) = 1
    · have h := if_t c10 h
      refine r_tabIn 64 hk (k := 1) c10 dX9_band_15 (by decide) (by decide) rfl rfl ?_
      refine r_aload_n 65 hk dX9_band_64 rfl 0 rfl rfl ?_
      refine r_aload_n 66 hk dX9_band_65 rfl 0 rfl rfl ?_
      refine r_get 69 hk dX9_band_66 rfl ff_RX9_16 (mk_9_0 (nx_9 hN (j := 0) (by decide))) (gv_9_2 _ _ _) ?_
      obtain ⟨q11, eq11, lq11, h⟩ := ckp_e h
      refine r_pv1 eq11 ?_
      refine r_get 72 hk dX9_band_69 rfl ff_RX9_109 (mk_8_0 (nx_8 hN lq11)) (gv_8_0 _ _ _) ?_
      refine r_iload_n 73 hk dX9_band_72 rfl 1 rfl rfl ?_
      obtain ⟨r12, w13, ew13, h⟩ := ob_e h
      refine r_cVi 76 (As := [.int x1]) (rest := [.ref (al 9 0 0)]) hk (kX5_firstOf hN (nx_sh hN (nx_8 hN lq11)) ew13) cf_RX9_186 mi_X5_firstOf ⟨TX5, 8, rfl⟩ dX9_band_73 rfl (Nat.le_of_ble_eq_true rfl) (Nat.le_of_ble_eq_true rfl) (mk_5_0 (nx_sh hN (nx_8 hN lq11))) rfl rfl (Nat.le_of_ble_eq_true rfl) ?_
      obtain ⟨r14, w15, ew15, h⟩ := ob_e h
      refine r_cVi 79 (As := [.int r12]) (rest := []) hk (kX9_accept hN ew15) cf_RX9_115 mi_X9_accept ⟨TX9, 16, rfl⟩ dX9_band_76 rfl (Nat.le_of_ble_eq_true rfl) (Nat.le_of_ble_eq_true rfl) (mk_9_0 (nx_9 hN (j := 0) (by decide))) rfl rfl (Nat.le_of_ble_eq_true rfl) ?_
      exact r_iret hk hR dX9_band_79 h
    have h := if_f c10 h
    by_cases c16 : (x2 : Int32) = 2
    · have h := if_t c16 h
      refine r_tabIn 80 hk (k := 2) c16 dX9_band_15 (by decide) (by decide) rfl rfl ?_
      refine r_aload_n 81 hk dX9_band_80 rfl 0 rfl rfl ?_
      refine r_aload_n 82 hk dX9_band_81 rfl 0 rfl rfl ?_
      refine r_get 85 hk dX9_band_82 rfl ff_RX9_42 (mk_9_0 (nx_9 hN (j := 0) (by decide))) (gv_9_6 _ _ _) ?_
      refine r_aload_n 86 hk dX9_band_85 rfl 0 rfl rfl ?_
      refine r_get 89 hk dX9_band_86 rfl ff_RX9_16 (mk_9_0 (nx_9 hN (j := 0) (by decide))) (gv_9_2 _ _ _) ?_
      obtain ⟨q17, eq17, lq17, h⟩ := ckp_e h
      refine r_pv1 eq17 ?_
      refine r_get 92 hk dX9_band_89 rfl ff_RX9_109 (mk_8_0 (nx_8 hN lq17)) (gv_8_0 _ _ _) ?_
      refine r_iload_n 93 hk dX9_band_92 rfl 1 rfl rfl ?_
      obtain ⟨r18, w19, ew19, h⟩ := ob_e h
      refine r_cVi 96 (As := [.ref (al 5 q17 0), .int x1]) (rest := [.ref (al 9 0 0)]) hk (kX7_entriesOf hN (nx_7 hN (j := 0) (by decide)) (nx_sh hN (nx_8 hN lq17)) ew19) cf_RX9_189 mi_X7_entriesOf ⟨TX7, 11, rfl⟩ dX9_band_93 rfl (Nat.le_of_ble_eq_true rfl) (Nat.le_of_ble_eq_true rfl) (mk_7_0 (nx_7 hN (j := 0) (by decide))) rfl rfl (Nat.le_of_ble_eq_true rfl) ?_
      obtain ⟨r20, w21, ew21, h⟩ := ob_e h
      refine r_cVi 99 (As := [.int r18]) (rest := []) hk (kX9_accept hN ew21) cf_RX9_115 mi_X9_accept ⟨TX9, 16, rfl⟩ dX9_band_96 rfl (Nat.le_of_ble_eq_true rfl) (Nat.le_of_ble_eq_true rfl) (mk_9_0 (nx_9 hN (j := 0) (by decide))) rfl rfl (Nat.le_of_ble_eq_true rfl) ?_
      exact r_iret hk hR dX9_band_99 h
    have h := if_f c16 h
    by_cases c22 : (x2 : Int32) = 3
    · have h := if_t c22 h
      refine r_tabIn 100 hk (k := 3) c22 dX9_band_15 (by decide) (by decide) rfl rfl ?_
      refine r_aload_n 101 hk dX9_band_100 rfl 0 rfl rfl ?_
      refine r_aload_n 102 hk dX9_band_101 rfl 0 rfl rfl ?_
      refine r_get 105 hk dX9_band_102 rfl ff_RX9_42 (mk_9_0 (nx_9 hN (j := 0) (by decide))) (gv_9_6 _ _ _) ?_
      refine r_aload_n 106 hk dX9_band_105 rfl 0 rfl rfl ?_
      refine r_get 109 hk dX9_band_106 rfl ff_RX9_16 (mk_9_0 (nx_9 hN (j := 0) (by decide))) (gv_9_2 _ _ _) ?_
      obtain ⟨q23, eq23, lq23, h⟩ := ckp_e h
      refine r_pv1 eq23 ?_
      refine r_get 112 hk dX9_band_109 rfl ff_RX9_109 (mk_8_0 (nx_8 hN lq23)) (gv_8_0 _ _ _) ?_
      refine r_iload_n 113 hk dX9_band_112 rfl 1 rfl rfl ?_
      obtain ⟨r24, w25, ew25, h⟩ := ob_e h
      refine r_cVi 116 (As := [.ref (al 5 q23 0), .int x1]) (rest := [.ref (al 9 0 0)]) hk (kX7_liveEntriesOf hN (nx_7 hN (j := 0) (by decide)) (nx_sh hN (nx_8 hN lq23)) ew25) cf_RX9_193 mi_X7_liveEntriesOf ⟨TX7, 11, rfl⟩ dX9_band_113 rfl (Nat.le_of_ble_eq_true rfl) (Nat.le_of_ble_eq_true rfl) (mk_7_0 (nx_7 hN (j := 0) (by decide))) rfl rfl (Nat.le_of_ble_eq_true rfl) ?_
      obtain ⟨r26, w27, ew27, h⟩ := ob_e h
      refine r_cVi 119 (As := [.int r24]) (rest := []) hk (kX9_accept hN ew27) cf_RX9_115 mi_X9_accept ⟨TX9, 16, rfl⟩ dX9_band_116 rfl (Nat.le_of_ble_eq_true rfl) (Nat.le_of_ble_eq_true rfl) (mk_9_0 (nx_9 hN (j := 0) (by decide))) rfl rfl (Nat.le_of_ble_eq_true rfl) ?_
      exact r_iret hk hR dX9_band_119 h
    have h := if_f c22 h
    by_cases c28 : (x2 : Int32) = 4
    · have h := if_t c28 h
      refine r_tabIn 120 hk (k := 4) c28 dX9_band_15 (by decide) (by decide) rfl rfl ?_
      refine r_aload_n 121 hk dX9_band_120 rfl 0 rfl rfl ?_
      refine r_aload_n 122 hk dX9_band_121 rfl 0 rfl rfl ?_
      refine r_get 125 hk dX9_band_122 rfl ff_RX9_42 (mk_9_0 (nx_9 hN (j := 0) (by decide))) (gv_9_6 _ _ _) ?_
      refine r_aload_n 126 hk dX9_band_125 rfl 0 rfl rfl ?_
      refine r_get 129 hk dX9_band_126 rfl ff_RX9_16 (mk_9_0 (nx_9 hN (j := 0) (by decide))) (gv_9_2 _ _ _) ?_
      obtain ⟨q29, eq29, lq29, h⟩ := ckp_e h
      refine r_pv1 eq29 ?_
      refine r_get 132 hk dX9_band_129 rfl ff_RX9_109 (mk_8_0 (nx_8 hN lq29)) (gv_8_0 _ _ _) ?_
      refine r_iload_n 133 hk dX9_band_132 rfl 1 rfl rfl ?_
      obtain ⟨r30, w31, ew31, h⟩ := ob_e h
      refine r_cVi 136 (As := [.ref (al 5 q29 0), .int x1]) (rest := [.ref (al 9 0 0)]) hk (kX7_damagedOf hN (nx_7 hN (j := 0) (by decide)) (nx_sh hN (nx_8 hN lq29)) ew31) cf_RX9_196 mi_X7_damagedOf ⟨TX7, 11, rfl⟩ dX9_band_133 rfl (Nat.le_of_ble_eq_true rfl) (Nat.le_of_ble_eq_true rfl) (mk_7_0 (nx_7 hN (j := 0) (by decide))) rfl rfl (Nat.le_of_ble_eq_true rfl) ?_
      obtain ⟨r32, w33, ew33, h⟩ := ob_e h
      refine r_cVi 139 (As := [.int r30]) (rest := []) hk (kX9_accept hN ew33) cf_RX9_115 mi_X9_accept ⟨TX9, 16, rfl⟩ dX9_band_136 rfl (Nat.le_of_ble_eq_true rfl) (Nat.le_of_ble_eq_true rfl) (mk_9_0 (nx_9 hN (j := 0) (by decide))) rfl rfl (Nat.le_of_ble_eq_true rfl) ?_
      exact r_iret hk hR dX9_band_139 h
    have h := if_f c28 h
    have nc4 := lv_neT c4 (k := 0) (a := 0) rfl
    have nc10 := lv_neT c10 (k := 1) (a := 1) rfl
    have nc16 := lv_neT c16 (k := 2) (a := 2) rfl
    have nc22 := lv_neT c22 (k := 3) (a := 3) rfl
    have nc28 := lv_neT c28 (k := 4) (a := 4) rfl
    refine r_tabOut 140 hk dX9_band_15 (by omega) rfl ?_
    refine r_aload_n 141 hk dX9_band_140 rfl 0 rfl rfl ?_
    refine r_iconst 142 hk dX9_band_141 rfl ci_1 ?_
    obtain ⟨r34, w35, ew35, h⟩ := ob_e h
    refine r_cVi 145 (As := [.int 1]) (rest := []) hk (kX9_refuse hN ew35) cf_RX9_86 mi_X9_refuse ⟨TX9, 16, rfl⟩ dX9_band_142 rfl (Nat.le_of_ble_eq_true rfl) (Nat.le_of_ble_eq_true rfl) (mk_9_0 (nx_9 hN (j := 0) (by decide))) rfl rfl (Nat.le_of_ble_eq_true rfl) ?_
    exact r_iret hk hR dX9_band_145 h
  · have h := if_t c3 h
    refine r_aload_n 9 hk dX9_band_8 rfl 0 rfl rfl ?_
    refine r_iconst 10 hk dX9_band_9 rfl ci_1 ?_
    obtain ⟨r36, w37, ew37, h⟩ := ob_e h
    refine r_cVi 13 (As := [.int 1]) (rest := []) hk (kX9_refuse hN ew37) cf_RX9_86 mi_X9_refuse ⟨TX9, 16, rfl⟩ dX9_band_10 rfl (Nat.le_of_ble_eq_true rfl) (Nat.le_of_ble_eq_true rfl) (mk_9_0 (nx_9 hN (j := 0) (by decide))) rfl rfl (Nat.le_of_ble_eq_true rfl) ?_
    exact r_iret hk hR dX9_band_13 h
def fX9_wide (w : Wd) : Option (Int32 × Wd) :=
  ob (fX9_hasDisk w ) fun r1 w2 =>
  if (r1 : Int32) = 0 then
    ob (fX9_refuse w2 (1)) fun r9 w10 =>
    some (r9, w10)
  else
    ckp ((w2 9 0).2.2.1 2) 2 fun q4 =>
    ckp ((w2 9 0).2.2.1 2) 2 fun q5 =>
    ckp ((w2 9 0).2.2.1 2) 2 fun q6 =>
    ob (fX9_accept w2 ((((w2 5 q4).1 4) + ((((w2 5 q5).1 3) - 1) * ((w2 5 q6).1 5))))) fun r7 w8 =>
    some (r7, w8)
set_option maxRecDepth 100000 in
set_option maxHeartbeats 4000000 in
theorem kX9_wide {l : Launch} {G : Gx} {al : Al} {w : Wd} {r : Int32} {wz : Wd} (hN : NX G) (h : fX9_wide w = some (r, wz)) : MC l G yX9_wide cX9_wide 1 (some (.int)) 1 21 al w [.ref (al 9 0 0)] (some (.int r)) wz := by
  refine mc_of [(0, .ref (al 9 0 0))] (by decide) (Nat.le_of_ble_eq_true rfl) rfl ?_
  intro K hk hR hn hl hG
  subst hl; subst hG
  have hk : VH K RX9 cX9_wide 1 21 := hk
  rw [fX9_wide.eq_1] at h
  refine r_aload_n 1 hk dX9_wide_0 rfl 0 rfl rfl ?_
  obtain ⟨r1, w2, ew2, h⟩ := ob_e h
  refine r_cVi 4 (As := []) (rest := []) hk (kX9_hasDisk hN ew2) cf_RX9_199 mi_X9_hasDisk ⟨TX9, 16, rfl⟩ dX9_wide_1 rfl (Nat.le_of_ble_eq_true rfl) (Nat.le_of_ble_eq_true rfl) (mk_9_0 (nx_9 hN (j := 0) (by decide))) rfl rfl (Nat.le_of_ble_eq_true rfl) ?_
  refine r_if_ne 13 7 hk dX9_wide_4 rfl rfl (fun c3 => ?_) (fun c3 => ?_)
  · have h := if_f c3 h
    refine r_aload_n 14 hk dX9_wide_13 rfl 0 rfl rfl ?_
    refine r_aload_n 15 hk dX9_wide_14 rfl 0 rfl rfl ?_
    refine r_get 18 hk dX9_wide_15 rfl ff_RX9_16 (mk_9_0 (nx_9 hN (j := 0) (by decide))) (gv_9_2 _ _ _) ?_
    obtain ⟨q4, eq4, lq4, h⟩ := ckp_e h
    refine r_pv1 eq4 ?_
    refine r_get 21 hk dX9_wide_18 rfl ff_RX9_109 (mk_8_0 (nx_8 hN lq4)) (gv_8_0 _ _ _) ?_
    refine r_get 24 hk dX9_wide_21 rfl ff_RX9_112 (mk_5_0 (nx_sh hN (nx_8 hN lq4))) (gv_5_4 _ _ _) ?_
    refine r_aload_n 25 hk dX9_wide_24 rfl 0 rfl rfl ?_
    refine r_get 28 hk dX9_wide_25 rfl ff_RX9_16 (mk_9_0 (nx_9 hN (j := 0) (by decide))) (gv_9_2 _ _ _) ?_
    obtain ⟨q5, eq5, lq5, h⟩ := ckp_e h
    refine r_pv1 eq5 ?_
    refine r_get 31 hk dX9_wide_28 rfl ff_RX9_109 (mk_8_0 (nx_8 hN lq5)) (gv_8_0 _ _ _) ?_
    refine r_get 34 hk dX9_wide_31 rfl ff_RX9_155 (mk_5_0 (nx_sh hN (nx_8 hN lq5))) (gv_5_3 _ _ _) ?_
    refine r_iconst 35 hk dX9_wide_34 rfl ci_1 ?_
    refine r_isub 36 hk dX9_wide_35 rfl ?_
    refine r_aload_n 37 hk dX9_wide_36 rfl 0 rfl rfl ?_
    refine r_get 40 hk dX9_wide_37 rfl ff_RX9_16 (mk_9_0 (nx_9 hN (j := 0) (by decide))) (gv_9_2 _ _ _) ?_
    obtain ⟨q6, eq6, lq6, h⟩ := ckp_e h
    refine r_pv1 eq6 ?_
    refine r_get 43 hk dX9_wide_40 rfl ff_RX9_109 (mk_8_0 (nx_8 hN lq6)) (gv_8_0 _ _ _) ?_
    refine r_get 46 hk dX9_wide_43 rfl ff_RX9_203 (mk_5_0 (nx_sh hN (nx_8 hN lq6))) (gv_5_5 _ _ _) ?_
    refine r_imul 47 hk dX9_wide_46 rfl ?_
    refine r_iadd 48 hk dX9_wide_47 rfl ?_
    obtain ⟨r7, w8, ew8, h⟩ := ob_e h
    refine r_cVi 51 (As := [.int ((((w2 5 q4).1 4) + ((((w2 5 q5).1 3) - 1) * ((w2 5 q6).1 5))))]) (rest := []) hk (kX9_accept hN ew8) cf_RX9_115 mi_X9_accept ⟨TX9, 16, rfl⟩ dX9_wide_48 rfl (Nat.le_of_ble_eq_true rfl) (Nat.le_of_ble_eq_true rfl) (mk_9_0 (nx_9 hN (j := 0) (by decide))) rfl rfl (Nat.le_of_ble_eq_true rfl) ?_
    exact r_iret hk hR dX9_wide_51 h
  · have h := if_t c3 h
    refine r_aload_n 8 hk dX9_wide_7 rfl 0 rfl rfl ?_
    refine r_iconst 9 hk dX9_wide_8 rfl ci_1 ?_
    obtain ⟨r9, w10, ew10, h⟩ := ob_e h
    refine r_cVi 12 (As := [.int 1]) (rest := []) hk (kX9_refuse hN ew10) cf_RX9_86 mi_X9_refuse ⟨TX9, 16, rfl⟩ dX9_wide_9 rfl (Nat.le_of_ble_eq_true rfl) (Nat.le_of_ble_eq_true rfl) (mk_9_0 (nx_9 hN (j := 0) (by decide))) rfl rfl (Nat.le_of_ble_eq_true rfl) ?_
    exact r_iret hk hR dX9_wide_12 h
def fX9_down (w : Wd) : Option (Int32 × Wd) :=
  ob (fX9_hasDisk w ) fun r1 w2 =>
  if (r1 : Int32) = 0 then
    ob (fX9_refuse w2 (1)) fun r9 w10 =>
    some (r9, w10)
  else
    if (((w2 7 0).1 8) : Int32) = 0 then
      ob (fX9_accept w2 (0)) fun r5 w6 =>
      some (r5, w6)
    else
      ob (fX9_accept w2 (1)) fun r7 w8 =>
      some (r7, w8)
set_option maxRecDepth 100000 in
set_option maxHeartbeats 4000000 in
theorem kX9_down {l : Launch} {G : Gx} {al : Al} {w : Wd} {r : Int32} {wz : Wd} (hN : NX G) (h : fX9_down w = some (r, wz)) : MC l G yX9_down cX9_down 1 (some (.int)) 1 21 al w [.ref (al 9 0 0)] (some (.int r)) wz := by
  refine mc_of [(0, .ref (al 9 0 0))] (by decide) (Nat.le_of_ble_eq_true rfl) rfl ?_
  intro K hk hR hn hl hG
  subst hl; subst hG
  have hk : VH K RX9 cX9_down 1 21 := hk
  rw [fX9_down.eq_1] at h
  refine r_aload_n 1 hk dX9_down_0 rfl 0 rfl rfl ?_
  obtain ⟨r1, w2, ew2, h⟩ := ob_e h
  refine r_cVi 4 (As := []) (rest := []) hk (kX9_hasDisk hN ew2) cf_RX9_199 mi_X9_hasDisk ⟨TX9, 16, rfl⟩ dX9_down_1 rfl (Nat.le_of_ble_eq_true rfl) (Nat.le_of_ble_eq_true rfl) (mk_9_0 (nx_9 hN (j := 0) (by decide))) rfl rfl (Nat.le_of_ble_eq_true rfl) ?_
  refine r_if_ne 13 7 hk dX9_down_4 rfl rfl (fun c3 => ?_) (fun c3 => ?_)
  · have h := if_f c3 h
    refine r_aload_n 14 hk dX9_down_13 rfl 0 rfl rfl ?_
    refine r_aload_n 15 hk dX9_down_14 rfl 0 rfl rfl ?_
    refine r_get 18 hk dX9_down_15 rfl ff_RX9_42 (mk_9_0 (nx_9 hN (j := 0) (by decide))) (gv_9_6 _ _ _) ?_
    refine r_get 21 hk dX9_down_18 rfl ff_RX9_162 (mk_7_0 (nx_7 hN (j := 0) (by decide))) (gv_7_8 _ _ _) ?_
    refine r_if_eq 28 24 hk dX9_down_21 rfl rfl (fun c4 => ?_) (fun c4 => ?_)
    · have h := if_t c4 h
      refine r_iconst 29 hk dX9_down_28 rfl ci_0 ?_
      obtain ⟨r5, w6, ew6, h⟩ := ob_e h
      refine r_cVi 32 (As := [.int 0]) (rest := []) hk (kX9_accept hN ew6) cf_RX9_115 mi_X9_accept ⟨TX9, 16, rfl⟩ dX9_down_29 rfl (Nat.le_of_ble_eq_true rfl) (Nat.le_of_ble_eq_true rfl) (mk_9_0 (nx_9 hN (j := 0) (by decide))) rfl rfl (Nat.le_of_ble_eq_true rfl) ?_
      exact r_iret hk hR dX9_down_32 h
    · have h := if_f c4 h
      refine r_iconst 25 hk dX9_down_24 rfl ci_1 ?_
      refine r_goto 29 hk (x := 0) dX9_down_25 rfl ?_
      obtain ⟨r7, w8, ew8, h⟩ := ob_e h
      refine r_cVi 32 (As := [.int 1]) (rest := []) hk (kX9_accept hN ew8) cf_RX9_115 mi_X9_accept ⟨TX9, 16, rfl⟩ dX9_down_29 rfl (Nat.le_of_ble_eq_true rfl) (Nat.le_of_ble_eq_true rfl) (mk_9_0 (nx_9 hN (j := 0) (by decide))) rfl rfl (Nat.le_of_ble_eq_true rfl) ?_
      exact r_iret hk hR dX9_down_32 h
  · have h := if_t c3 h
    refine r_aload_n 8 hk dX9_down_7 rfl 0 rfl rfl ?_
    refine r_iconst 9 hk dX9_down_8 rfl ci_1 ?_
    obtain ⟨r9, w10, ew10, h⟩ := ob_e h
    refine r_cVi 12 (As := [.int 1]) (rest := []) hk (kX9_refuse hN ew10) cf_RX9_86 mi_X9_refuse ⟨TX9, 16, rfl⟩ dX9_down_9 rfl (Nat.le_of_ble_eq_true rfl) (Nat.le_of_ble_eq_true rfl) (mk_9_0 (nx_9 hN (j := 0) (by decide))) rfl rfl (Nat.le_of_ble_eq_true rfl) ?_
    exact r_iret hk hR dX9_down_12 h
def fX9_journal (w : Wd) : Option (Int32 × Wd) :=
  ob (fX9_hasDisk w ) fun r1 w2 =>
  if (r1 : Int32) = 0 then
    ob (fX9_refuse w2 (1)) fun r6 w7 =>
    some (r6, w7)
  else
    ob (fX9_accept w2 (((w2 7 0).1 5))) fun r4 w5 =>
    some (r4, w5)
set_option maxRecDepth 100000 in
set_option maxHeartbeats 4000000 in
theorem kX9_journal {l : Launch} {G : Gx} {al : Al} {w : Wd} {r : Int32} {wz : Wd} (hN : NX G) (h : fX9_journal w = some (r, wz)) : MC l G yX9_journal cX9_journal 1 (some (.int)) 1 21 al w [.ref (al 9 0 0)] (some (.int r)) wz := by
  refine mc_of [(0, .ref (al 9 0 0))] (by decide) (Nat.le_of_ble_eq_true rfl) rfl ?_
  intro K hk hR hn hl hG
  subst hl; subst hG
  have hk : VH K RX9 cX9_journal 1 21 := hk
  rw [fX9_journal.eq_1] at h
  refine r_aload_n 1 hk dX9_journal_0 rfl 0 rfl rfl ?_
  obtain ⟨r1, w2, ew2, h⟩ := ob_e h
  refine r_cVi 4 (As := []) (rest := []) hk (kX9_hasDisk hN ew2) cf_RX9_199 mi_X9_hasDisk ⟨TX9, 16, rfl⟩ dX9_journal_1 rfl (Nat.le_of_ble_eq_true rfl) (Nat.le_of_ble_eq_true rfl) (mk_9_0 (nx_9 hN (j := 0) (by decide))) rfl rfl (Nat.le_of_ble_eq_true rfl) ?_
  refine r_if_ne 13 7 hk dX9_journal_4 rfl rfl (fun c3 => ?_) (fun c3 => ?_)
  · have h := if_f c3 h
    refine r_aload_n 14 hk dX9_journal_13 rfl 0 rfl rfl ?_
    refine r_aload_n 15 hk dX9_journal_14 rfl 0 rfl rfl ?_
    refine r_get 18 hk dX9_journal_15 rfl ff_RX9_42 (mk_9_0 (nx_9 hN (j := 0) (by decide))) (gv_9_6 _ _ _) ?_
    refine r_get 21 hk dX9_journal_18 rfl ff_RX9_206 (mk_7_0 (nx_7 hN (j := 0) (by decide))) (gv_7_5 _ _ _) ?_
    obtain ⟨r4, w5, ew5, h⟩ := ob_e h
    refine r_cVi 24 (As := [.int (((w2 7 0).1 5))]) (rest := []) hk (kX9_accept hN ew5) cf_RX9_115 mi_X9_accept ⟨TX9, 16, rfl⟩ dX9_journal_21 rfl (Nat.le_of_ble_eq_true rfl) (Nat.le_of_ble_eq_true rfl) (mk_9_0 (nx_9 hN (j := 0) (by decide))) rfl rfl (Nat.le_of_ble_eq_true rfl) ?_
    exact r_iret hk hR dX9_journal_24 h
  · have h := if_t c3 h
    refine r_aload_n 8 hk dX9_journal_7 rfl 0 rfl rfl ?_
    refine r_iconst 9 hk dX9_journal_8 rfl ci_1 ?_
    obtain ⟨r6, w7, ew7, h⟩ := ob_e h
    refine r_cVi 12 (As := [.int 1]) (rest := []) hk (kX9_refuse hN ew7) cf_RX9_86 mi_X9_refuse ⟨TX9, 16, rfl⟩ dX9_journal_9 rfl (Nat.le_of_ble_eq_true rfl) (Nat.le_of_ble_eq_true rfl) (mk_9_0 (nx_9 hN (j := 0) (by decide))) rfl rfl (Nat.le_of_ble_eq_true rfl) ?_
    exact r_iret hk hR dX9_journal_12 h
def fX9_entries (w : Wd) : Option (Int32 × Wd) :=
  ob (fX9_hasDisk w ) fun r1 w2 =>
  if (r1 : Int32) = 0 then
    ob (fX9_refuse w2 (1)) fun r6 w7 =>
    some (r6, w7)
  else
    ob (fX9_accept w2 (((w2 7 0).1 4))) fun r4 w5 =>
    some (r4, w5)
set_option maxRecDepth 100000 in
set_option maxHeartbeats 4000000 in
theorem kX9_entries {l : Launch} {G : Gx} {al : Al} {w : Wd} {r : Int32} {wz : Wd} (hN : NX G) (h : fX9_entries w = some (r, wz)) : MC l G yX9_entries cX9_entries 1 (some (.int)) 1 21 al w [.ref (al 9 0 0)] (some (.int r)) wz := by
  refine mc_of [(0, .ref (al 9 0 0))] (by decide) (Nat.le_of_ble_eq_true rfl) rfl ?_
  intro K hk hR hn hl hG
  subst hl; subst hG
  have hk : VH K RX9 cX9_entries 1 21 := hk
  rw [fX9_entries.eq_1] at h
  refine r_aload_n 1 hk dX9_entries_0 rfl 0 rfl rfl ?_
  obtain ⟨r1, w2, ew2, h⟩ := ob_e h
  refine r_cVi 4 (As := []) (rest := []) hk (kX9_hasDisk hN ew2) cf_RX9_199 mi_X9_hasDisk ⟨TX9, 16, rfl⟩ dX9_entries_1 rfl (Nat.le_of_ble_eq_true rfl) (Nat.le_of_ble_eq_true rfl) (mk_9_0 (nx_9 hN (j := 0) (by decide))) rfl rfl (Nat.le_of_ble_eq_true rfl) ?_
  refine r_if_ne 13 7 hk dX9_entries_4 rfl rfl (fun c3 => ?_) (fun c3 => ?_)
  · have h := if_f c3 h
    refine r_aload_n 14 hk dX9_entries_13 rfl 0 rfl rfl ?_
    refine r_aload_n 15 hk dX9_entries_14 rfl 0 rfl rfl ?_
    refine r_get 18 hk dX9_entries_15 rfl ff_RX9_42 (mk_9_0 (nx_9 hN (j := 0) (by decide))) (gv_9_6 _ _ _) ?_
    refine r_get 21 hk dX9_entries_18 rfl ff_RX9_209 (mk_7_0 (nx_7 hN (j := 0) (by decide))) (gv_7_4 _ _ _) ?_
    obtain ⟨r4, w5, ew5, h⟩ := ob_e h
    refine r_cVi 24 (As := [.int (((w2 7 0).1 4))]) (rest := []) hk (kX9_accept hN ew5) cf_RX9_115 mi_X9_accept ⟨TX9, 16, rfl⟩ dX9_entries_21 rfl (Nat.le_of_ble_eq_true rfl) (Nat.le_of_ble_eq_true rfl) (mk_9_0 (nx_9 hN (j := 0) (by decide))) rfl rfl (Nat.le_of_ble_eq_true rfl) ?_
    exact r_iret hk hR dX9_entries_24 h
  · have h := if_t c3 h
    refine r_aload_n 8 hk dX9_entries_7 rfl 0 rfl rfl ?_
    refine r_iconst 9 hk dX9_entries_8 rfl ci_1 ?_
    obtain ⟨r6, w7, ew7, h⟩ := ob_e h
    refine r_cVi 12 (As := [.int 1]) (rest := []) hk (kX9_refuse hN ew7) cf_RX9_86 mi_X9_refuse ⟨TX9, 16, rfl⟩ dX9_entries_9 rfl (Nat.le_of_ble_eq_true rfl) (Nat.le_of_ble_eq_true rfl) (mk_9_0 (nx_9 hN (j := 0) (by decide))) rfl rfl (Nat.le_of_ble_eq_true rfl) ?_
    exact r_iret hk hR dX9_entries_12 h
def fX9_entry (w : Wd) (x1 : Int32) (x2 : Int32) : Option (Int32 × Wd) :=
  if (x1 : Int32) < 0 then
    ob (fX9_refuse w (1)) fun r2 w3 =>
    some (r2, w3)
  else
    if (x1 : Int32) < ((w 7 0).1 4) then
      if (x2 : Int32) = 0 then
        ob (fX9_at 7 0 1 w (x1)) fun r6 w7 =>
        ob (fX9_accept w7 (r6)) fun r8 w9 =>
        some (r8, w9)
      else
      if (x2 : Int32) = 1 then
        ob (fX9_at 7 0 2 w (x1)) fun r11 w12 =>
        ob (fX9_accept w12 (r11)) fun r13 w14 =>
        some (r13, w14)
      else
      if (x2 : Int32) = 2 then
        ob (fX7_isLive 0 w (x1)) fun r16 w17 =>
        if (r16 : Int32) = 0 then
          ob (fX9_accept w17 (0)) fun r19 w20 =>
          some (r19, w20)
        else
          ob (fX9_accept w17 (1)) fun r21 w22 =>
          some (r21, w22)
      else
      ob (fX9_refuse w (1)) fun r23 w24 =>
      some (r23, w24)
    else
      ob (fX9_refuse w (1)) fun r25 w26 =>
      some (r25, w26)
set_option maxRecDepth 100000 in
set_option maxHeartbeats 4000000 in
theorem kX9_entry {l : Launch} {G : Gx} {al : Al} {w : Wd} {x1 : Int32} {x2 : Int32} {r : Int32} {wz : Wd} (hN : NX G) (h : fX9_entry w x1 x2 = some (r, wz)) : MC l G yX9_entry cX9_entry 3 (some (.int)) 3 64 al w [.ref (al 9 0 0), .int x1, .int x2] (some (.int r)) wz := by
  refine mc_of [(0, .ref (al 9 0 0)), (1, .int x1), (2, .int x2)] (by decide) (Nat.le_of_ble_eq_true rfl) rfl ?_
  intro K hk hR hn hl hG
  subst hl; subst hG
  have hk : VH K RX9 cX9_entry 3 64 := hk
  rw [fX9_entry.eq_1] at h
  refine r_iload_n 1 hk dX9_entry_0 rfl 1 rfl rfl ?_
  refine r_if_lt 15 4 hk dX9_entry_1 rfl rfl (fun c1 => ?_) (fun c1 => ?_)
  · have h := if_t c1 h
    refine r_aload_n 16 hk dX9_entry_15 rfl 0 rfl rfl ?_
    refine r_iconst 17 hk dX9_entry_16 rfl ci_1 ?_
    obtain ⟨r2, w3, ew3, h⟩ := ob_e h
    refine r_cVi 20 (As := [.int 1]) (rest := []) hk (kX9_refuse hN ew3) cf_RX9_86 mi_X9_refuse ⟨TX9, 16, rfl⟩ dX9_entry_17 rfl (Nat.le_of_ble_eq_true rfl) (Nat.le_of_ble_eq_true rfl) (mk_9_0 (nx_9 hN (j := 0) (by decide))) rfl rfl (Nat.le_of_ble_eq_true rfl) ?_
    exact r_iret hk hR dX9_entry_20 h
  · have h := if_f c1 h
    refine r_iload_n 5 hk dX9_entry_4 rfl 1 rfl rfl ?_
    refine r_aload_n 6 hk dX9_entry_5 rfl 0 rfl rfl ?_
    refine r_get 9 hk dX9_entry_6 rfl ff_RX9_42 (mk_9_0 (nx_9 hN (j := 0) (by decide))) (gv_9_6 _ _ _) ?_
    refine r_get 12 hk dX9_entry_9 rfl ff_RX9_209 (mk_7_0 (nx_7 hN (j := 0) (by decide))) (gv_7_4 _ _ _) ?_
    refine r_icmp_lt 21 15 hk dX9_entry_12 rfl rfl (fun c4 => ?_) (fun c4 => ?_)
    · have h := if_t c4 h
      refine r_iload_n 22 hk dX9_entry_21 rfl 2 rfl rfl ?_
      by_cases c5 : (x2 : Int32) = 0
      · have h := if_t c5 h
        refine r_tabIn 48 hk (k := 0) c5 dX9_entry_22 (by decide) (by decide) rfl rfl ?_
        refine r_aload_n 49 hk dX9_entry_48 rfl 0 rfl rfl ?_
        refine r_aload_n 50 hk dX9_entry_49 rfl 0 rfl rfl ?_
        refine r_get 53 hk dX9_entry_50 rfl ff_RX9_42 (mk_9_0 (nx_9 hN (j := 0) (by decide))) (gv_9_6 _ _ _) ?_
        refine r_get 56 hk dX9_entry_53 rfl ff_RX9_212 (mk_7_0 (nx_7 hN (j := 0) (by decide))) (gv_7_1 _ _ _) ?_
        refine r_iload_n 57 hk dX9_entry_56 rfl 1 rfl rfl ?_
        obtain ⟨r6, w7, ew7, h⟩ := ob_e h
        refine r_cSi 60 (As := [.ref (al 7 0 2), .int x1]) (rest := [.ref (al 9 0 0)]) hk (kX9_at hN rfl (mk_7_2 (nx_7 hN (j := 0) (by decide))) ew7) cf_RX9_173 ms_X9_at dX9_entry_57 rfl (Nat.le_of_ble_eq_true rfl) (Nat.le_of_ble_eq_true rfl) rfl rfl (Nat.le_of_ble_eq_true rfl) ?_
        obtain ⟨r8, w9, ew9, h⟩ := ob_e h
        refine r_cVi 63 (As := [.int r6]) (rest := []) hk (kX9_accept hN ew9) cf_RX9_115 mi_X9_accept ⟨TX9, 16, rfl⟩ dX9_entry_60 rfl (Nat.le_of_ble_eq_true rfl) (Nat.le_of_ble_eq_true rfl) (mk_9_0 (nx_9 hN (j := 0) (by decide))) rfl rfl (Nat.le_of_ble_eq_true rfl) ?_
        exact r_iret hk hR dX9_entry_63 h
      have h := if_f c5 h
      by_cases c10 : (x2 : Int32) = 1
      · have h := if_t c10 h
        refine r_tabIn 64 hk (k := 1) c10 dX9_entry_22 (by decide) (by decide) rfl rfl ?_
        refine r_aload_n 65 hk dX9_entry_64 rfl 0 rfl rfl ?_
        refine r_aload_n 66 hk dX9_entry_65 rfl 0 rfl rfl ?_
        refine r_get 69 hk dX9_entry_66 rfl ff_RX9_42 (mk_9_0 (nx_9 hN (j := 0) (by decide))) (gv_9_6 _ _ _) ?_
        refine r_get 72 hk dX9_entry_69 rfl ff_RX9_215 (mk_7_0 (nx_7 hN (j := 0) (by decide))) (gv_7_2 _ _ _) ?_
        refine r_iload_n 73 hk dX9_entry_72 rfl 1 rfl rfl ?_
        obtain ⟨r11, w12, ew12, h⟩ := ob_e h
        refine r_cSi 76 (As := [.ref (al 7 0 3), .int x1]) (rest := [.ref (al 9 0 0)]) hk (kX9_at hN rfl (mk_7_3 (nx_7 hN (j := 0) (by decide))) ew12) cf_RX9_173 ms_X9_at dX9_entry_73 rfl (Nat.le_of_ble_eq_true rfl) (Nat.le_of_ble_eq_true rfl) rfl rfl (Nat.le_of_ble_eq_true rfl) ?_
        obtain ⟨r13, w14, ew14, h⟩ := ob_e h
        refine r_cVi 79 (As := [.int r11]) (rest := []) hk (kX9_accept hN ew14) cf_RX9_115 mi_X9_accept ⟨TX9, 16, rfl⟩ dX9_entry_76 rfl (Nat.le_of_ble_eq_true rfl) (Nat.le_of_ble_eq_true rfl) (mk_9_0 (nx_9 hN (j := 0) (by decide))) rfl rfl (Nat.le_of_ble_eq_true rfl) ?_
        exact r_iret hk hR dX9_entry_79 h
      have h := if_f c10 h
      by_cases c15 : (x2 : Int32) = 2
      · have h := if_t c15 h
        refine r_tabIn 80 hk (k := 2) c15 dX9_entry_22 (by decide) (by decide) rfl rfl ?_
        refine r_aload_n 81 hk dX9_entry_80 rfl 0 rfl rfl ?_
        refine r_aload_n 82 hk dX9_entry_81 rfl 0 rfl rfl ?_
        refine r_get 85 hk dX9_entry_82 rfl ff_RX9_42 (mk_9_0 (nx_9 hN (j := 0) (by decide))) (gv_9_6 _ _ _) ?_
        refine r_iload_n 86 hk dX9_entry_85 rfl 1 rfl rfl ?_
        obtain ⟨r16, w17, ew17, h⟩ := ob_e h
        refine r_cVi 89 (As := [.int x1]) (rest := [.ref (al 9 0 0)]) hk (kX7_isLive hN (nx_7 hN (j := 0) (by decide)) ew17) cf_RX9_218 mi_X7_isLive ⟨TX7, 11, rfl⟩ dX9_entry_86 rfl (Nat.le_of_ble_eq_true rfl) (Nat.le_of_ble_eq_true rfl) (mk_7_0 (nx_7 hN (j := 0) (by decide))) rfl rfl (Nat.le_of_ble_eq_true rfl) ?_
        refine r_if_eq 96 92 hk dX9_entry_89 rfl rfl (fun c18 => ?_) (fun c18 => ?_)
        · have h := if_t c18 h
          refine r_iconst 97 hk dX9_entry_96 rfl ci_0 ?_
          obtain ⟨r19, w20, ew20, h⟩ := ob_e h
          refine r_cVi 100 (As := [.int 0]) (rest := []) hk (kX9_accept hN ew20) cf_RX9_115 mi_X9_accept ⟨TX9, 16, rfl⟩ dX9_entry_97 rfl (Nat.le_of_ble_eq_true rfl) (Nat.le_of_ble_eq_true rfl) (mk_9_0 (nx_9 hN (j := 0) (by decide))) rfl rfl (Nat.le_of_ble_eq_true rfl) ?_
          exact r_iret hk hR dX9_entry_100 h
        · have h := if_f c18 h
          refine r_iconst 93 hk dX9_entry_92 rfl ci_1 ?_
          refine r_goto 97 hk (x := 0) dX9_entry_93 rfl ?_
          obtain ⟨r21, w22, ew22, h⟩ := ob_e h
          refine r_cVi 100 (As := [.int 1]) (rest := []) hk (kX9_accept hN ew22) cf_RX9_115 mi_X9_accept ⟨TX9, 16, rfl⟩ dX9_entry_97 rfl (Nat.le_of_ble_eq_true rfl) (Nat.le_of_ble_eq_true rfl) (mk_9_0 (nx_9 hN (j := 0) (by decide))) rfl rfl (Nat.le_of_ble_eq_true rfl) ?_
          exact r_iret hk hR dX9_entry_100 h
      have h := if_f c15 h
      have nc5 := lv_neT c5 (k := 0) (a := 0) rfl
      have nc10 := lv_neT c10 (k := 1) (a := 1) rfl
      have nc15 := lv_neT c15 (k := 2) (a := 2) rfl
      refine r_tabOut 101 hk dX9_entry_22 (by omega) rfl ?_
      refine r_aload_n 102 hk dX9_entry_101 rfl 0 rfl rfl ?_
      refine r_iconst 103 hk dX9_entry_102 rfl ci_1 ?_
      obtain ⟨r23, w24, ew24, h⟩ := ob_e h
      refine r_cVi 106 (As := [.int 1]) (rest := []) hk (kX9_refuse hN ew24) cf_RX9_86 mi_X9_refuse ⟨TX9, 16, rfl⟩ dX9_entry_103 rfl (Nat.le_of_ble_eq_true rfl) (Nat.le_of_ble_eq_true rfl) (mk_9_0 (nx_9 hN (j := 0) (by decide))) rfl rfl (Nat.le_of_ble_eq_true rfl) ?_
      exact r_iret hk hR dX9_entry_106 h
    · have h := if_f c4 h
      refine r_aload_n 16 hk dX9_entry_15 rfl 0 rfl rfl ?_
      refine r_iconst 17 hk dX9_entry_16 rfl ci_1 ?_
      obtain ⟨r25, w26, ew26, h⟩ := ob_e h
      refine r_cVi 20 (As := [.int 1]) (rest := []) hk (kX9_refuse hN ew26) cf_RX9_86 mi_X9_refuse ⟨TX9, 16, rfl⟩ dX9_entry_17 rfl (Nat.le_of_ble_eq_true rfl) (Nat.le_of_ble_eq_true rfl) (mk_9_0 (nx_9 hN (j := 0) (by decide))) rfl rfl (Nat.le_of_ble_eq_true rfl) ?_
      exact r_iret hk hR dX9_entry_20 h
def fX9_live_17  : Nat → Wd → Int32 → Int32 → Option (Int32 × Wd)
  | 0, _, _, _ => none
  | n + 1, w, x1, x2 =>
    if (((w 7 0).1 4) : Int32) ≤ x2 then
      ob (fX9_accept w (x1)) fun r7 w8 =>
      some (r7, w8)
    else
      ob (fX7_isLive 0 w (x2)) fun r9 w10 =>
      if (r9 : Int32) = 0 then
        lw (x2 + 1) fun x2_12 =>
        fX9_live_17  n w10 (x1) (x2_12)
      else
        lw (x1 + 1) fun x1_13 =>
        lw (x2 + 1) fun x2_14 =>
        fX9_live_17  n w10 (x1_13) (x2_14)
def fX9_live (w : Wd) : Option (Int32 × Wd) :=
  ob (fX9_hasDisk w ) fun r1 w2 =>
  if (r1 : Int32) = 0 then
    ob (fX9_refuse w2 (1)) fun r4 w5 =>
    some (r4, w5)
  else
    fX9_live_17  fuel0 w2 (0) (0)
set_option maxRecDepth 100000 in
set_option maxHeartbeats 4000000 in
theorem sX9_live_17 {K : VC} {al : Al} {r : Int32} {wz : Wd}  (hk : VH K RX9 cX9_live 3 64) (hR : VR K al (some (.int)) (some (.int r)) wz) (hn : kn K = 3) (hN : NX (kG K)) : ∀ (n : Nat) (w : Wd) (x1 : Int32) (x2 : Int32), fX9_live_17  n w x1 x2 = some (r, wz) → V K al w 17 [(0, .ref (al 9 0 0)), (1, .int x1), (2, .int x2)] [] := by
  intro n
  induction n with
  | zero => intro w x1 x2 h; cases h
  | succ n ih =>
    intro w x1 x2 h
    rw [fX9_live_17.eq_2] at h
    refine r_iload_n 18 hk dX9_live_17 rfl 2 rfl rfl ?_
    refine r_aload_n 19 hk dX9_live_18 rfl 0 rfl rfl ?_
    refine r_get 22 hk dX9_live_19 rfl ff_RX9_42 (mk_9_0 (nx_9 hN (j := 0) (by decide))) (gv_9_6 _ _ _) ?_
    refine r_get 25 hk dX9_live_22 rfl ff_RX9_209 (mk_7_0 (nx_7 hN (j := 0) (by decide))) (gv_7_4 _ _ _) ?_
    refine r_icmp_ge 48 28 hk dX9_live_25 rfl rfl (fun c6 => ?_) (fun c6 => ?_)
    · have h := if_t c6 h
      refine r_aload_n 49 hk dX9_live_48 rfl 0 rfl rfl ?_
      refine r_iload_n 50 hk dX9_live_49 rfl 1 rfl rfl ?_
      obtain ⟨r7, w8, ew8, h⟩ := ob_e h
      refine r_cVi 53 (As := [.int x1]) (rest := []) hk (kX9_accept hN ew8) cf_RX9_115 mi_X9_accept ⟨TX9, 16, rfl⟩ dX9_live_50 rfl (Nat.le_of_ble_eq_true rfl) (Nat.le_of_ble_eq_true rfl) (mk_9_0 (nx_9 hN (j := 0) (by decide))) rfl rfl (Nat.le_of_ble_eq_true rfl) ?_
      exact r_iret hk hR dX9_live_53 h
    · have h := if_f c6 h
      refine r_aload_n 29 hk dX9_live_28 rfl 0 rfl rfl ?_
      refine r_get 32 hk dX9_live_29 rfl ff_RX9_42 (mk_9_0 (nx_9 hN (j := 0) (by decide))) (gv_9_6 _ _ _) ?_
      refine r_iload_n 33 hk dX9_live_32 rfl 2 rfl rfl ?_
      obtain ⟨r9, w10, ew10, h⟩ := ob_e h
      refine r_cVi 36 (As := [.int x2]) (rest := []) hk (kX7_isLive hN (nx_7 hN (j := 0) (by decide)) ew10) cf_RX9_218 mi_X7_isLive ⟨TX7, 11, rfl⟩ dX9_live_33 rfl (Nat.le_of_ble_eq_true rfl) (Nat.le_of_ble_eq_true rfl) (mk_7_0 (nx_7 hN (j := 0) (by decide))) rfl rfl (Nat.le_of_ble_eq_true rfl) ?_
      refine r_if_eq 42 39 hk dX9_live_36 rfl rfl (fun c11 => ?_) (fun c11 => ?_)
      · have h := if_t c11 h
        obtain ⟨x2_12, ex2_12, h⟩ := lw_e h
        refine r_iinc 45 [(2, .int x2_12), (0, .ref (al 9 0 0)), (1, .int x1)] hk (j := 2) dX9_live_42 rfl hn (by decide) rfl ex2_12 rfl ?_
        refine r_goto 17 hk (x := 0) dX9_live_45 rfl ?_
        refine r_sub [1, 2, 0] rfl ?_
        exact ih _ _ _ h
      · have h := if_f c11 h
        obtain ⟨x1_13, ex1_13, h⟩ := lw_e h
        refine r_iinc 42 [(1, .int x1_13), (0, .ref (al 9 0 0)), (2, .int x2)] hk (j := 1) dX9_live_39 rfl hn (by decide) rfl ex1_13 rfl ?_
        obtain ⟨x2_14, ex2_14, h⟩ := lw_e h
        refine r_iinc 45 [(2, .int x2_14), (1, .int x1_13), (0, .ref (al 9 0 0))] hk (j := 2) dX9_live_42 rfl hn (by decide) rfl ex2_14 rfl ?_
        refine r_goto 17 hk (x := 0) dX9_live_45 rfl ?_
        refine r_sub [2, 1, 0] rfl ?_
        exact ih _ _ _ h
set_option maxRecDepth 100000 in
set_option maxHeartbeats 4000000 in
theorem kX9_live {l : Launch} {G : Gx} {al : Al} {w : Wd} {r : Int32} {wz : Wd} (hN : NX G) (h : fX9_live w = some (r, wz)) : MC l G yX9_live cX9_live 3 (some (.int)) 3 64 al w [.ref (al 9 0 0)] (some (.int r)) wz := by
  refine mc_of [(0, .ref (al 9 0 0))] (by decide) (Nat.le_of_ble_eq_true rfl) rfl ?_
  intro K hk hR hn hl hG
  subst hl; subst hG
  have hk : VH K RX9 cX9_live 3 64 := hk
  rw [fX9_live.eq_1] at h
  refine r_aload_n 1 hk dX9_live_0 rfl 0 rfl rfl ?_
  obtain ⟨r1, w2, ew2, h⟩ := ob_e h
  refine r_cVi 4 (As := []) (rest := []) hk (kX9_hasDisk hN ew2) cf_RX9_199 mi_X9_hasDisk ⟨TX9, 16, rfl⟩ dX9_live_1 rfl (Nat.le_of_ble_eq_true rfl) (Nat.le_of_ble_eq_true rfl) (mk_9_0 (nx_9 hN (j := 0) (by decide))) rfl rfl (Nat.le_of_ble_eq_true rfl) ?_
  refine r_if_ne 13 7 hk dX9_live_4 rfl rfl (fun c3 => ?_) (fun c3 => ?_)
  · have h := if_f c3 h
    refine r_iconst 14 hk dX9_live_13 rfl ci_0 ?_
    refine r_istore_n 15 [(1, .int 0), (0, .ref (al 9 0 0))] hk dX9_live_14 rfl rfl hn (by decide) rfl rfl ?_
    refine r_iconst 16 hk dX9_live_15 rfl ci_0 ?_
    refine r_istore_n 17 [(2, .int 0), (1, .int 0), (0, .ref (al 9 0 0))] hk dX9_live_16 rfl rfl hn (by decide) rfl rfl ?_
    refine r_sub [2, 1, 0] rfl ?_
    exact sX9_live_17 hk hR hn hN _ _ _ _ h
  · have h := if_t c3 h
    refine r_aload_n 8 hk dX9_live_7 rfl 0 rfl rfl ?_
    refine r_iconst 9 hk dX9_live_8 rfl ci_1 ?_
    obtain ⟨r4, w5, ew5, h⟩ := ob_e h
    refine r_cVi 12 (As := [.int 1]) (rest := []) hk (kX9_refuse hN ew5) cf_RX9_86 mi_X9_refuse ⟨TX9, 16, rfl⟩ dX9_live_9 rfl (Nat.le_of_ble_eq_true rfl) (Nat.le_of_ble_eq_true rfl) (mk_9_0 (nx_9 hN (j := 0) (by decide))) rfl rfl (Nat.le_of_ble_eq_true rfl) ?_
    exact r_iret hk hR dX9_live_12 h
def fX9_extents (w : Wd) : Option (Int32 × Wd) :=
  ob (fX9_hasDisk w ) fun r1 w2 =>
  if (r1 : Int32) = 0 then
    ob (fX9_refuse w2 (1)) fun r9 w10 =>
    some (r9, w10)
  else
    ckp ((w2 9 0).2.2.1 2) 2 fun q4 =>
    ob (fX7_extentsBegunBy 0 w2 ((((w2 5 q4).1 4) - 1))) fun r5 w6 =>
    ob (fX9_accept w6 (r5)) fun r7 w8 =>
    some (r7, w8)
set_option maxRecDepth 100000 in
set_option maxHeartbeats 4000000 in
theorem kX9_extents {l : Launch} {G : Gx} {al : Al} {w : Wd} {r : Int32} {wz : Wd} (hN : NX G) (h : fX9_extents w = some (r, wz)) : MC l G yX9_extents cX9_extents 1 (some (.int)) 4 88 al w [.ref (al 9 0 0)] (some (.int r)) wz := by
  refine mc_of [(0, .ref (al 9 0 0))] (by decide) (Nat.le_of_ble_eq_true rfl) rfl ?_
  intro K hk hR hn hl hG
  subst hl; subst hG
  have hk : VH K RX9 cX9_extents 4 88 := hk
  rw [fX9_extents.eq_1] at h
  refine r_aload_n 1 hk dX9_extents_0 rfl 0 rfl rfl ?_
  obtain ⟨r1, w2, ew2, h⟩ := ob_e h
  refine r_cVi 4 (As := []) (rest := []) hk (kX9_hasDisk hN ew2) cf_RX9_199 mi_X9_hasDisk ⟨TX9, 16, rfl⟩ dX9_extents_1 rfl (Nat.le_of_ble_eq_true rfl) (Nat.le_of_ble_eq_true rfl) (mk_9_0 (nx_9 hN (j := 0) (by decide))) rfl rfl (Nat.le_of_ble_eq_true rfl) ?_
  refine r_if_ne 13 7 hk dX9_extents_4 rfl rfl (fun c3 => ?_) (fun c3 => ?_)
  · have h := if_f c3 h
    refine r_aload_n 14 hk dX9_extents_13 rfl 0 rfl rfl ?_
    refine r_aload_n 15 hk dX9_extents_14 rfl 0 rfl rfl ?_
    refine r_get 18 hk dX9_extents_15 rfl ff_RX9_42 (mk_9_0 (nx_9 hN (j := 0) (by decide))) (gv_9_6 _ _ _) ?_
    refine r_aload_n 19 hk dX9_extents_18 rfl 0 rfl rfl ?_
    refine r_get 22 hk dX9_extents_19 rfl ff_RX9_16 (mk_9_0 (nx_9 hN (j := 0) (by decide))) (gv_9_2 _ _ _) ?_
    obtain ⟨q4, eq4, lq4, h⟩ := ckp_e h
    refine r_pv1 eq4 ?_
    refine r_get 25 hk dX9_extents_22 rfl ff_RX9_109 (mk_8_0 (nx_8 hN lq4)) (gv_8_0 _ _ _) ?_
    refine r_get 28 hk dX9_extents_25 rfl ff_RX9_112 (mk_5_0 (nx_sh hN (nx_8 hN lq4))) (gv_5_4 _ _ _) ?_
    refine r_iconst 29 hk dX9_extents_28 rfl ci_1 ?_
    refine r_isub 30 hk dX9_extents_29 rfl ?_
    obtain ⟨r5, w6, ew6, h⟩ := ob_e h
    refine r_cVi 33 (As := [.int ((((w2 5 q4).1 4) - 1))]) (rest := [.ref (al 9 0 0)]) hk (kX7_extentsBegunBy hN (nx_7 hN (j := 0) (by decide)) ew6) cf_RX9_221 mi_X7_extentsBegunBy ⟨TX7, 11, rfl⟩ dX9_extents_30 rfl (Nat.le_of_ble_eq_true rfl) (Nat.le_of_ble_eq_true rfl) (mk_7_0 (nx_7 hN (j := 0) (by decide))) rfl rfl (Nat.le_of_ble_eq_true rfl) ?_
    obtain ⟨r7, w8, ew8, h⟩ := ob_e h
    refine r_cVi 36 (As := [.int r5]) (rest := []) hk (kX9_accept hN ew8) cf_RX9_115 mi_X9_accept ⟨TX9, 16, rfl⟩ dX9_extents_33 rfl (Nat.le_of_ble_eq_true rfl) (Nat.le_of_ble_eq_true rfl) (mk_9_0 (nx_9 hN (j := 0) (by decide))) rfl rfl (Nat.le_of_ble_eq_true rfl) ?_
    exact r_iret hk hR dX9_extents_36 h
  · have h := if_t c3 h
    refine r_aload_n 8 hk dX9_extents_7 rfl 0 rfl rfl ?_
    refine r_iconst 9 hk dX9_extents_8 rfl ci_1 ?_
    obtain ⟨r9, w10, ew10, h⟩ := ob_e h
    refine r_cVi 12 (As := [.int 1]) (rest := []) hk (kX9_refuse hN ew10) cf_RX9_86 mi_X9_refuse ⟨TX9, 16, rfl⟩ dX9_extents_9 rfl (Nat.le_of_ble_eq_true rfl) (Nat.le_of_ble_eq_true rfl) (mk_9_0 (nx_9 hN (j := 0) (by decide))) rfl rfl (Nat.le_of_ble_eq_true rfl) ?_
    exact r_iret hk hR dX9_extents_12 h
def fX9_extent (w : Wd) (x1 : Int32) (x2 : Int32) : Option (Int32 × Wd) :=
  ckp ((w 9 0).2.2.1 2) 2 fun q1 =>
  ob (fX7_firstOfExtent 0 w (x1) (((w 5 q1).1 4))) fun r2 w3 =>
  if (r2 : Int32) = (-2) then
    ob (fX9_refuse w3 (1)) fun r21 w22 =>
    some (r21, w22)
  else
    if (x2 : Int32) = 0 then
      ob (fX9_accept w3 (r2)) fun r6 w7 =>
      some (r6, w7)
    else
    if (x2 : Int32) = 1 then
      ckp ((w3 9 0).2.2.1 2) 2 fun q9 =>
      ob (fX7_extentLength 0 w3 (r2) (((w3 5 q9).1 4))) fun r10 w11 =>
      ob (fX9_accept w11 (r10)) fun r12 w13 =>
      some (r12, w13)
    else
    if (x2 : Int32) = 2 then
      ob (fX7_livePlaceOf 0 w3 (r2)) fun r15 w16 =>
      ob (fX9_accept w16 (r15)) fun r17 w18 =>
      some (r17, w18)
    else
    ob (fX9_refuse w3 (1)) fun r19 w20 =>
    some (r19, w20)
set_option maxRecDepth 100000 in
set_option maxHeartbeats 4000000 in
theorem kX9_extent {l : Launch} {G : Gx} {al : Al} {w : Wd} {x1 : Int32} {x2 : Int32} {r : Int32} {wz : Wd} (hN : NX G) (h : fX9_extent w x1 x2 = some (r, wz)) : MC l G yX9_extent cX9_extent 4 (some (.int)) 4 89 al w [.ref (al 9 0 0), .int x1, .int x2] (some (.int r)) wz := by
  refine mc_of [(0, .ref (al 9 0 0)), (1, .int x1), (2, .int x2)] (by decide) (Nat.le_of_ble_eq_true rfl) rfl ?_
  intro K hk hR hn hl hG
  subst hl; subst hG
  have hk : VH K RX9 cX9_extent 4 89 := hk
  rw [fX9_extent.eq_1] at h
  refine r_aload_n 1 hk dX9_extent_0 rfl 0 rfl rfl ?_
  refine r_get 4 hk dX9_extent_1 rfl ff_RX9_42 (mk_9_0 (nx_9 hN (j := 0) (by decide))) (gv_9_6 _ _ _) ?_
  refine r_iload_n 5 hk dX9_extent_4 rfl 1 rfl rfl ?_
  refine r_aload_n 6 hk dX9_extent_5 rfl 0 rfl rfl ?_
  refine r_get 9 hk dX9_extent_6 rfl ff_RX9_16 (mk_9_0 (nx_9 hN (j := 0) (by decide))) (gv_9_2 _ _ _) ?_
  obtain ⟨q1, eq1, lq1, h⟩ := ckp_e h
  refine r_pv1 eq1 ?_
  refine r_get 12 hk dX9_extent_9 rfl ff_RX9_109 (mk_8_0 (nx_8 hN lq1)) (gv_8_0 _ _ _) ?_
  refine r_get 15 hk dX9_extent_12 rfl ff_RX9_112 (mk_5_0 (nx_sh hN (nx_8 hN lq1))) (gv_5_4 _ _ _) ?_
  obtain ⟨r2, w3, ew3, h⟩ := ob_e h
  refine r_cVi 18 (As := [.int x1, .int (((w 5 q1).1 4))]) (rest := []) hk (kX7_firstOfExtent hN (nx_7 hN (j := 0) (by decide)) ew3) cf_RX9_224 mi_X7_firstOfExtent ⟨TX7, 11, rfl⟩ dX9_extent_15 rfl (Nat.le_of_ble_eq_true rfl) (Nat.le_of_ble_eq_true rfl) (mk_7_0 (nx_7 hN (j := 0) (by decide))) rfl rfl (Nat.le_of_ble_eq_true rfl) ?_
  refine r_istore_n 19 [(3, .int r2), (0, .ref (al 9 0 0)), (1, .int x1), (2, .int x2)] hk dX9_extent_18 rfl rfl hn (by decide) rfl rfl ?_
  refine r_iload_n 20 hk dX9_extent_19 rfl 0 rfl rfl ?_
  refine r_bipush 22 hk dX9_extent_20 rfl cb_m2 ?_
  refine r_icmp_ne 31 25 hk dX9_extent_22 rfl rfl (fun c4 => ?_) (fun c4 => ?_)
  · have h := if_f c4 h
    refine r_iload_n 32 hk dX9_extent_31 rfl 3 rfl rfl ?_
    by_cases c5 : (x2 : Int32) = 0
    · have h := if_t c5 h
      refine r_tabIn 60 hk (k := 0) c5 dX9_extent_32 (by decide) (by decide) rfl rfl ?_
      refine r_aload_n 61 hk dX9_extent_60 rfl 1 rfl rfl ?_
      refine r_iload_n 62 hk dX9_extent_61 rfl 0 rfl rfl ?_
      obtain ⟨r6, w7, ew7, h⟩ := ob_e h
      refine r_cVi 65 (As := [.int r2]) (rest := []) hk (kX9_accept hN ew7) cf_RX9_115 mi_X9_accept ⟨TX9, 16, rfl⟩ dX9_extent_62 rfl (Nat.le_of_ble_eq_true rfl) (Nat.le_of_ble_eq_true rfl) (mk_9_0 (nx_9 hN (j := 0) (by decide))) rfl rfl (Nat.le_of_ble_eq_true rfl) ?_
      exact r_iret hk hR dX9_extent_65 h
    have h := if_f c5 h
    by_cases c8 : (x2 : Int32) = 1
    · have h := if_t c8 h
      refine r_tabIn 66 hk (k := 1) c8 dX9_extent_32 (by decide) (by decide) rfl rfl ?_
      refine r_aload_n 67 hk dX9_extent_66 rfl 1 rfl rfl ?_
      refine r_aload_n 68 hk dX9_extent_67 rfl 1 rfl rfl ?_
      refine r_get 71 hk dX9_extent_68 rfl ff_RX9_42 (mk_9_0 (nx_9 hN (j := 0) (by decide))) (gv_9_6 _ _ _) ?_
      refine r_iload_n 72 hk dX9_extent_71 rfl 0 rfl rfl ?_
      refine r_aload_n 73 hk dX9_extent_72 rfl 1 rfl rfl ?_
      refine r_get 76 hk dX9_extent_73 rfl ff_RX9_16 (mk_9_0 (nx_9 hN (j := 0) (by decide))) (gv_9_2 _ _ _) ?_
      obtain ⟨q9, eq9, lq9, h⟩ := ckp_e h
      refine r_pv1 eq9 ?_
      refine r_get 79 hk dX9_extent_76 rfl ff_RX9_109 (mk_8_0 (nx_8 hN lq9)) (gv_8_0 _ _ _) ?_
      refine r_get 82 hk dX9_extent_79 rfl ff_RX9_112 (mk_5_0 (nx_sh hN (nx_8 hN lq9))) (gv_5_4 _ _ _) ?_
      obtain ⟨r10, w11, ew11, h⟩ := ob_e h
      refine r_cVi 85 (As := [.int r2, .int (((w3 5 q9).1 4))]) (rest := [.ref (al 9 0 0)]) hk (kX7_extentLength hN (nx_7 hN (j := 0) (by decide)) ew11) cf_RX9_228 mi_X7_extentLength ⟨TX7, 11, rfl⟩ dX9_extent_82 rfl (Nat.le_of_ble_eq_true rfl) (Nat.le_of_ble_eq_true rfl) (mk_7_0 (nx_7 hN (j := 0) (by decide))) rfl rfl (Nat.le_of_ble_eq_true rfl) ?_
      obtain ⟨r12, w13, ew13, h⟩ := ob_e h
      refine r_cVi 88 (As := [.int r10]) (rest := []) hk (kX9_accept hN ew13) cf_RX9_115 mi_X9_accept ⟨TX9, 16, rfl⟩ dX9_extent_85 rfl (Nat.le_of_ble_eq_true rfl) (Nat.le_of_ble_eq_true rfl) (mk_9_0 (nx_9 hN (j := 0) (by decide))) rfl rfl (Nat.le_of_ble_eq_true rfl) ?_
      exact r_iret hk hR dX9_extent_88 h
    have h := if_f c8 h
    by_cases c14 : (x2 : Int32) = 2
    · have h := if_t c14 h
      refine r_tabIn 89 hk (k := 2) c14 dX9_extent_32 (by decide) (by decide) rfl rfl ?_
      refine r_aload_n 90 hk dX9_extent_89 rfl 1 rfl rfl ?_
      refine r_aload_n 91 hk dX9_extent_90 rfl 1 rfl rfl ?_
      refine r_get 94 hk dX9_extent_91 rfl ff_RX9_42 (mk_9_0 (nx_9 hN (j := 0) (by decide))) (gv_9_6 _ _ _) ?_
      refine r_iload_n 95 hk dX9_extent_94 rfl 0 rfl rfl ?_
      obtain ⟨r15, w16, ew16, h⟩ := ob_e h
      refine r_cVi 98 (As := [.int r2]) (rest := [.ref (al 9 0 0)]) hk (kX7_livePlaceOf hN (nx_7 hN (j := 0) (by decide)) ew16) cf_RX9_231 mi_X7_livePlaceOf ⟨TX7, 11, rfl⟩ dX9_extent_95 rfl (Nat.le_of_ble_eq_true rfl) (Nat.le_of_ble_eq_true rfl) (mk_7_0 (nx_7 hN (j := 0) (by decide))) rfl rfl (Nat.le_of_ble_eq_true rfl) ?_
      obtain ⟨r17, w18, ew18, h⟩ := ob_e h
      refine r_cVi 101 (As := [.int r15]) (rest := []) hk (kX9_accept hN ew18) cf_RX9_115 mi_X9_accept ⟨TX9, 16, rfl⟩ dX9_extent_98 rfl (Nat.le_of_ble_eq_true rfl) (Nat.le_of_ble_eq_true rfl) (mk_9_0 (nx_9 hN (j := 0) (by decide))) rfl rfl (Nat.le_of_ble_eq_true rfl) ?_
      exact r_iret hk hR dX9_extent_101 h
    have h := if_f c14 h
    have nc5 := lv_neT c5 (k := 0) (a := 0) rfl
    have nc8 := lv_neT c8 (k := 1) (a := 1) rfl
    have nc14 := lv_neT c14 (k := 2) (a := 2) rfl
    refine r_tabOut 102 hk dX9_extent_32 (by omega) rfl ?_
    refine r_aload_n 103 hk dX9_extent_102 rfl 1 rfl rfl ?_
    refine r_iconst 104 hk dX9_extent_103 rfl ci_1 ?_
    obtain ⟨r19, w20, ew20, h⟩ := ob_e h
    refine r_cVi 107 (As := [.int 1]) (rest := []) hk (kX9_refuse hN ew20) cf_RX9_86 mi_X9_refuse ⟨TX9, 16, rfl⟩ dX9_extent_104 rfl (Nat.le_of_ble_eq_true rfl) (Nat.le_of_ble_eq_true rfl) (mk_9_0 (nx_9 hN (j := 0) (by decide))) rfl rfl (Nat.le_of_ble_eq_true rfl) ?_
    exact r_iret hk hR dX9_extent_107 h
  · have h := if_t c4 h
    refine r_aload_n 26 hk dX9_extent_25 rfl 1 rfl rfl ?_
    refine r_iconst 27 hk dX9_extent_26 rfl ci_1 ?_
    obtain ⟨r21, w22, ew22, h⟩ := ob_e h
    refine r_cVi 30 (As := [.int 1]) (rest := []) hk (kX9_refuse hN ew22) cf_RX9_86 mi_X9_refuse ⟨TX9, 16, rfl⟩ dX9_extent_27 rfl (Nat.le_of_ble_eq_true rfl) (Nat.le_of_ble_eq_true rfl) (mk_9_0 (nx_9 hN (j := 0) (by decide))) rfl rfl (Nat.le_of_ble_eq_true rfl) ?_
    exact r_iret hk hR dX9_extent_30 h
def fX9_extentFrom (w : Wd) (x1 : Int32) : Option (Int32 × Wd) :=
  ob (fX9_hasTrack w (x1)) fun r1 w2 =>
  if (r1 : Int32) = 0 then
    ob (fX9_refuse w2 (1)) fun r19 w20 =>
    some (r19, w20)
  else
    ob (fX7_extentsBegunBy 0 w2 (x1)) fun r4 w5 =>
    ob (fX7_livePlaceOf 0 w5 (x1)) fun r6 w7 =>
    if (r6 : Int32) < 0 then
      ckp ((w7 9 0).2.2.1 2) 2 fun q9 =>
      ob (fX7_extentsBegunBy 0 w7 ((((w7 5 q9).1 4) - 1))) fun r10 w11 =>
      if (r10 : Int32) ≤ r4 then
        ob (fX9_accept w11 ((-2))) fun r13 w14 =>
        some (r13, w14)
      else
        ob (fX9_accept w11 (r4)) fun r15 w16 =>
        some (r15, w16)
    else
      ob (fX9_accept w7 ((r4 - 1))) fun r17 w18 =>
      some (r17, w18)
set_option maxRecDepth 100000 in
set_option maxHeartbeats 4000000 in
theorem kX9_extentFrom {l : Launch} {G : Gx} {al : Al} {w : Wd} {x1 : Int32} {r : Int32} {wz : Wd} (hN : NX G) (h : fX9_extentFrom w x1 = some (r, wz)) : MC l G yX9_extentFrom cX9_extentFrom 3 (some (.int)) 4 88 al w [.ref (al 9 0 0), .int x1] (some (.int r)) wz := by
  refine mc_of [(0, .ref (al 9 0 0)), (1, .int x1)] (by decide) (Nat.le_of_ble_eq_true rfl) rfl ?_
  intro K hk hR hn hl hG
  subst hl; subst hG
  have hk : VH K RX9 cX9_extentFrom 4 88 := hk
  rw [fX9_extentFrom.eq_1] at h
  refine r_aload_n 1 hk dX9_extentFrom_0 rfl 0 rfl rfl ?_
  refine r_iload_n 2 hk dX9_extentFrom_1 rfl 1 rfl rfl ?_
  obtain ⟨r1, w2, ew2, h⟩ := ob_e h
  refine r_cVi 5 (As := [.int x1]) (rest := []) hk (kX9_hasTrack hN ew2) cf_RX9_158 mi_X9_hasTrack ⟨TX9, 16, rfl⟩ dX9_extentFrom_2 rfl (Nat.le_of_ble_eq_true rfl) (Nat.le_of_ble_eq_true rfl) (mk_9_0 (nx_9 hN (j := 0) (by decide))) rfl rfl (Nat.le_of_ble_eq_true rfl) ?_
  refine r_if_ne 14 8 hk dX9_extentFrom_5 rfl rfl (fun c3 => ?_) (fun c3 => ?_)
  · have h := if_f c3 h
    refine r_aload_n 15 hk dX9_extentFrom_14 rfl 0 rfl rfl ?_
    refine r_get 18 hk dX9_extentFrom_15 rfl ff_RX9_42 (mk_9_0 (nx_9 hN (j := 0) (by decide))) (gv_9_6 _ _ _) ?_
    refine r_iload_n 19 hk dX9_extentFrom_18 rfl 1 rfl rfl ?_
    obtain ⟨r4, w5, ew5, h⟩ := ob_e h
    refine r_cVi 22 (As := [.int x1]) (rest := []) hk (kX7_extentsBegunBy hN (nx_7 hN (j := 0) (by decide)) ew5) cf_RX9_221 mi_X7_extentsBegunBy ⟨TX7, 11, rfl⟩ dX9_extentFrom_19 rfl (Nat.le_of_ble_eq_true rfl) (Nat.le_of_ble_eq_true rfl) (mk_7_0 (nx_7 hN (j := 0) (by decide))) rfl rfl (Nat.le_of_ble_eq_true rfl) ?_
    refine r_istore_n 23 [(2, .int r4), (0, .ref (al 9 0 0)), (1, .int x1)] hk dX9_extentFrom_22 rfl rfl hn (by decide) rfl rfl ?_
    refine r_aload_n 24 hk dX9_extentFrom_23 rfl 1 rfl rfl ?_
    refine r_get 27 hk dX9_extentFrom_24 rfl ff_RX9_42 (mk_9_0 (nx_9 hN (j := 0) (by decide))) (gv_9_6 _ _ _) ?_
    refine r_iload_n 28 hk dX9_extentFrom_27 rfl 2 rfl rfl ?_
    obtain ⟨r6, w7, ew7, h⟩ := ob_e h
    refine r_cVi 31 (As := [.int x1]) (rest := []) hk (kX7_livePlaceOf hN (nx_7 hN (j := 0) (by decide)) ew7) cf_RX9_231 mi_X7_livePlaceOf ⟨TX7, 11, rfl⟩ dX9_extentFrom_28 rfl (Nat.le_of_ble_eq_true rfl) (Nat.le_of_ble_eq_true rfl) (mk_7_0 (nx_7 hN (j := 0) (by decide))) rfl rfl (Nat.le_of_ble_eq_true rfl) ?_
    refine r_if_lt 42 34 hk dX9_extentFrom_31 rfl rfl (fun c8 => ?_) (fun c8 => ?_)
    · have h := if_t c8 h
      refine r_aload_n 43 hk dX9_extentFrom_42 rfl 1 rfl rfl ?_
      refine r_iload_n 44 hk dX9_extentFrom_43 rfl 0 rfl rfl ?_
      refine r_aload_n 45 hk dX9_extentFrom_44 rfl 1 rfl rfl ?_
      refine r_get 48 hk dX9_extentFrom_45 rfl ff_RX9_42 (mk_9_0 (nx_9 hN (j := 0) (by decide))) (gv_9_6 _ _ _) ?_
      refine r_aload_n 49 hk dX9_extentFrom_48 rfl 1 rfl rfl ?_
      refine r_get 52 hk dX9_extentFrom_49 rfl ff_RX9_16 (mk_9_0 (nx_9 hN (j := 0) (by decide))) (gv_9_2 _ _ _) ?_
      obtain ⟨q9, eq9, lq9, h⟩ := ckp_e h
      refine r_pv1 eq9 ?_
      refine r_get 55 hk dX9_extentFrom_52 rfl ff_RX9_109 (mk_8_0 (nx_8 hN lq9)) (gv_8_0 _ _ _) ?_
      refine r_get 58 hk dX9_extentFrom_55 rfl ff_RX9_112 (mk_5_0 (nx_sh hN (nx_8 hN lq9))) (gv_5_4 _ _ _) ?_
      refine r_iconst 59 hk dX9_extentFrom_58 rfl ci_1 ?_
      refine r_isub 60 hk dX9_extentFrom_59 rfl ?_
      obtain ⟨r10, w11, ew11, h⟩ := ob_e h
      refine r_cVi 63 (As := [.int ((((w7 5 q9).1 4) - 1))]) (rest := [.int r4, .ref (al 9 0 0)]) hk (kX7_extentsBegunBy hN (nx_7 hN (j := 0) (by decide)) ew11) cf_RX9_221 mi_X7_extentsBegunBy ⟨TX7, 11, rfl⟩ dX9_extentFrom_60 rfl (Nat.le_of_ble_eq_true rfl) (Nat.le_of_ble_eq_true rfl) (mk_7_0 (nx_7 hN (j := 0) (by decide))) rfl rfl (Nat.le_of_ble_eq_true rfl) ?_
      refine r_icmp_ge 70 66 hk dX9_extentFrom_63 rfl rfl (fun c12 => ?_) (fun c12 => ?_)
      · have h := if_t c12 h
        refine r_bipush 72 hk dX9_extentFrom_70 rfl cb_m2 ?_
        obtain ⟨r13, w14, ew14, h⟩ := ob_e h
        refine r_cVi 75 (As := [.int (-2)]) (rest := []) hk (kX9_accept hN ew14) cf_RX9_115 mi_X9_accept ⟨TX9, 16, rfl⟩ dX9_extentFrom_72 rfl (Nat.le_of_ble_eq_true rfl) (Nat.le_of_ble_eq_true rfl) (mk_9_0 (nx_9 hN (j := 0) (by decide))) rfl rfl (Nat.le_of_ble_eq_true rfl) ?_
        exact r_iret hk hR dX9_extentFrom_75 h
      · have h := if_f c12 h
        refine r_iload_n 67 hk dX9_extentFrom_66 rfl 0 rfl rfl ?_
        refine r_goto 72 hk (x := 0) dX9_extentFrom_67 rfl ?_
        obtain ⟨r15, w16, ew16, h⟩ := ob_e h
        refine r_cVi 75 (As := [.int r4]) (rest := []) hk (kX9_accept hN ew16) cf_RX9_115 mi_X9_accept ⟨TX9, 16, rfl⟩ dX9_extentFrom_72 rfl (Nat.le_of_ble_eq_true rfl) (Nat.le_of_ble_eq_true rfl) (mk_9_0 (nx_9 hN (j := 0) (by decide))) rfl rfl (Nat.le_of_ble_eq_true rfl) ?_
        exact r_iret hk hR dX9_extentFrom_75 h
    · have h := if_f c8 h
      refine r_aload_n 35 hk dX9_extentFrom_34 rfl 1 rfl rfl ?_
      refine r_iload_n 36 hk dX9_extentFrom_35 rfl 0 rfl rfl ?_
      refine r_iconst 37 hk dX9_extentFrom_36 rfl ci_1 ?_
      refine r_isub 38 hk dX9_extentFrom_37 rfl ?_
      obtain ⟨r17, w18, ew18, h⟩ := ob_e h
      refine r_cVi 41 (As := [.int ((r4 - 1))]) (rest := []) hk (kX9_accept hN ew18) cf_RX9_115 mi_X9_accept ⟨TX9, 16, rfl⟩ dX9_extentFrom_38 rfl (Nat.le_of_ble_eq_true rfl) (Nat.le_of_ble_eq_true rfl) (mk_9_0 (nx_9 hN (j := 0) (by decide))) rfl rfl (Nat.le_of_ble_eq_true rfl) ?_
      exact r_iret hk hR dX9_extentFrom_41 h
  · have h := if_t c3 h
    refine r_aload_n 9 hk dX9_extentFrom_8 rfl 0 rfl rfl ?_
    refine r_iconst 10 hk dX9_extentFrom_9 rfl ci_1 ?_
    obtain ⟨r19, w20, ew20, h⟩ := ob_e h
    refine r_cVi 13 (As := [.int 1]) (rest := []) hk (kX9_refuse hN ew20) cf_RX9_86 mi_X9_refuse ⟨TX9, 16, rfl⟩ dX9_extentFrom_10 rfl (Nat.le_of_ble_eq_true rfl) (Nat.le_of_ble_eq_true rfl) (mk_9_0 (nx_9 hN (j := 0) (by decide))) rfl rfl (Nat.le_of_ble_eq_true rfl) ?_
    exact r_iret hk hR dX9_extentFrom_13 h
def fX9_cleansNext (w : Wd) : Option (Int32 × Wd) :=
  ob (fX9_hasDisk w ) fun r1 w2 =>
  if (r1 : Int32) = 0 then
    ob (fX9_refuse w2 (1)) fun r9 w10 =>
    some (r9, w10)
  else
    ckp ((w2 9 0).2.2.1 2) 2 fun q4 =>
    ob (fX7_nextBand 0 q4 w2 ) fun r5 w6 =>
    ob (fX9_accept w6 (r5)) fun r7 w8 =>
    some (r7, w8)
set_option maxRecDepth 100000 in
set_option maxHeartbeats 4000000 in
theorem kX9_cleansNext {l : Launch} {G : Gx} {al : Al} {w : Wd} {r : Int32} {wz : Wd} (hN : NX G) (h : fX9_cleansNext w = some (r, wz)) : MC l G yX9_cleansNext cX9_cleansNext 1 (some (.int)) 4 91 al w [.ref (al 9 0 0)] (some (.int r)) wz := by
  refine mc_of [(0, .ref (al 9 0 0))] (by decide) (Nat.le_of_ble_eq_true rfl) rfl ?_
  intro K hk hR hn hl hG
  subst hl; subst hG
  have hk : VH K RX9 cX9_cleansNext 4 91 := hk
  rw [fX9_cleansNext.eq_1] at h
  refine r_aload_n 1 hk dX9_cleansNext_0 rfl 0 rfl rfl ?_
  obtain ⟨r1, w2, ew2, h⟩ := ob_e h
  refine r_cVi 4 (As := []) (rest := []) hk (kX9_hasDisk hN ew2) cf_RX9_199 mi_X9_hasDisk ⟨TX9, 16, rfl⟩ dX9_cleansNext_1 rfl (Nat.le_of_ble_eq_true rfl) (Nat.le_of_ble_eq_true rfl) (mk_9_0 (nx_9 hN (j := 0) (by decide))) rfl rfl (Nat.le_of_ble_eq_true rfl) ?_
  refine r_if_ne 13 7 hk dX9_cleansNext_4 rfl rfl (fun c3 => ?_) (fun c3 => ?_)
  · have h := if_f c3 h
    refine r_aload_n 14 hk dX9_cleansNext_13 rfl 0 rfl rfl ?_
    refine r_aload_n 15 hk dX9_cleansNext_14 rfl 0 rfl rfl ?_
    refine r_get 18 hk dX9_cleansNext_15 rfl ff_RX9_42 (mk_9_0 (nx_9 hN (j := 0) (by decide))) (gv_9_6 _ _ _) ?_
    refine r_aload_n 19 hk dX9_cleansNext_18 rfl 0 rfl rfl ?_
    refine r_get 22 hk dX9_cleansNext_19 rfl ff_RX9_16 (mk_9_0 (nx_9 hN (j := 0) (by decide))) (gv_9_2 _ _ _) ?_
    obtain ⟨q4, eq4, lq4, h⟩ := ckp_e h
    refine r_pv1 eq4 ?_
    refine r_get 25 hk dX9_cleansNext_22 rfl ff_RX9_109 (mk_8_0 (nx_8 hN lq4)) (gv_8_0 _ _ _) ?_
    obtain ⟨r5, w6, ew6, h⟩ := ob_e h
    refine r_cVi 28 (As := [.ref (al 5 q4 0)]) (rest := [.ref (al 9 0 0)]) hk (kX7_nextBand hN (nx_7 hN (j := 0) (by decide)) (nx_sh hN (nx_8 hN lq4)) ew6) cf_RX9_234 mi_X7_nextBand ⟨TX7, 11, rfl⟩ dX9_cleansNext_25 rfl (Nat.le_of_ble_eq_true rfl) (Nat.le_of_ble_eq_true rfl) (mk_7_0 (nx_7 hN (j := 0) (by decide))) rfl rfl (Nat.le_of_ble_eq_true rfl) ?_
    obtain ⟨r7, w8, ew8, h⟩ := ob_e h
    refine r_cVi 31 (As := [.int r5]) (rest := []) hk (kX9_accept hN ew8) cf_RX9_115 mi_X9_accept ⟨TX9, 16, rfl⟩ dX9_cleansNext_28 rfl (Nat.le_of_ble_eq_true rfl) (Nat.le_of_ble_eq_true rfl) (mk_9_0 (nx_9 hN (j := 0) (by decide))) rfl rfl (Nat.le_of_ble_eq_true rfl) ?_
    exact r_iret hk hR dX9_cleansNext_31 h
  · have h := if_t c3 h
    refine r_aload_n 8 hk dX9_cleansNext_7 rfl 0 rfl rfl ?_
    refine r_iconst 9 hk dX9_cleansNext_8 rfl ci_1 ?_
    obtain ⟨r9, w10, ew10, h⟩ := ob_e h
    refine r_cVi 12 (As := [.int 1]) (rest := []) hk (kX9_refuse hN ew10) cf_RX9_86 mi_X9_refuse ⟨TX9, 16, rfl⟩ dX9_cleansNext_9 rfl (Nat.le_of_ble_eq_true rfl) (Nat.le_of_ble_eq_true rfl) (mk_9_0 (nx_9 hN (j := 0) (by decide))) rfl rfl (Nat.le_of_ble_eq_true rfl) ?_
    exact r_iret hk hR dX9_cleansNext_12 h
def fX9_cleansThen_51  : Nat → Wd → Int32 → Int32 → Option (Int32 × Wd)
  | 0, _, _, _ => none
  | n + 1, w, x1, x2 =>
    if (x1 : Int32) ≤ x2 then
      ckp ((w 9 0).2.2.1 2) 2 fun q16 =>
      ob (fX7_nextBand 1 q16 w ) fun r17 w18 =>
      ob (fX9_accept w18 (r17)) fun r19 w20 =>
      some (r19, w20)
    else
      ckp ((w 9 0).2.2.1 2) 2 fun q21 =>
      ckp ((w 9 0).2.2.1 2) 2 fun q22 =>
      ob (fX7_nextBand 1 q22 w ) fun r23 w24 =>
      ob (fX7_dropEntriesOf 1 q21 w24 (r23)) fun _ w26 =>
      lw (x2 + 1) fun x2_27 =>
      fX9_cleansThen_51  n w26 (x1) (x2_27)
def fX9_cleansThen (w : Wd) (x1 : Int32) : Option (Int32 × Wd) :=
  ob (fX9_hasDisk w ) fun r1 w2 =>
  if (r1 : Int32) = 0 then
    ob (fX9_refuse w2 (1)) fun r4 w5 =>
    some (r4, w5)
  else
    if (0 : Int32) ≤ x1 then
      ckp ((w2 9 0).2.2.1 2) 2 fun q7 =>
      if (x1 : Int32) < ((w2 5 q7).1 3) then
        ob (fX7_copyFrom 1 0 w2 ) fun _ w10 =>
        fX9_cleansThen_51  fuel0 w10 (x1) (0)
      else
        ob (fX9_accept w2 ((-2))) fun r11 w12 =>
        some (r11, w12)
    else
      ob (fX9_refuse w2 (1)) fun r13 w14 =>
      some (r13, w14)
set_option maxRecDepth 100000 in
set_option maxHeartbeats 4000000 in
theorem sX9_cleansThen_51 {K : VC} {al : Al} {r : Int32} {wz : Wd}  (hk : VH K RX9 cX9_cleansThen 4 91) (hR : VR K al (some (.int)) (some (.int r)) wz) (hn : kn K = 3) (hN : NX (kG K)) : ∀ (n : Nat) (w : Wd) (x1 : Int32) (x2 : Int32), fX9_cleansThen_51  n w x1 x2 = some (r, wz) → V K al w 51 [(0, .ref (al 9 0 0)), (1, .int x1), (2, .int x2)] [] := by
  intro n
  induction n with
  | zero => intro w x1 x2 h; cases h
  | succ n ih =>
    intro w x1 x2 h
    rw [fX9_cleansThen_51.eq_2] at h
    refine r_iload_n 52 hk dX9_cleansThen_51 rfl 2 rfl rfl ?_
    refine r_iload_n 53 hk dX9_cleansThen_52 rfl 1 rfl rfl ?_
    refine r_icmp_ge 90 56 hk dX9_cleansThen_53 rfl rfl (fun c15 => ?_) (fun c15 => ?_)
    · have h := if_t c15 h
      refine r_aload_n 91 hk dX9_cleansThen_90 rfl 0 rfl rfl ?_
      refine r_aload_n 92 hk dX9_cleansThen_91 rfl 0 rfl rfl ?_
      refine r_get 95 hk dX9_cleansThen_92 rfl ff_RX9_46 (mk_9_0 (nx_9 hN (j := 0) (by decide))) (gv_9_7 _ _ _) ?_
      refine r_aload_n 96 hk dX9_cleansThen_95 rfl 0 rfl rfl ?_
      refine r_get 99 hk dX9_cleansThen_96 rfl ff_RX9_16 (mk_9_0 (nx_9 hN (j := 0) (by decide))) (gv_9_2 _ _ _) ?_
      obtain ⟨q16, eq16, lq16, h⟩ := ckp_e h
      refine r_pv1 eq16 ?_
      refine r_get 102 hk dX9_cleansThen_99 rfl ff_RX9_109 (mk_8_0 (nx_8 hN lq16)) (gv_8_0 _ _ _) ?_
      obtain ⟨r17, w18, ew18, h⟩ := ob_e h
      refine r_cVi 105 (As := [.ref (al 5 q16 0)]) (rest := [.ref (al 9 0 0)]) hk (kX7_nextBand hN (nx_7 hN (j := 1) (by decide)) (nx_sh hN (nx_8 hN lq16)) ew18) cf_RX9_234 mi_X7_nextBand ⟨TX7, 11, rfl⟩ dX9_cleansThen_102 rfl (Nat.le_of_ble_eq_true rfl) (Nat.le_of_ble_eq_true rfl) (mk_7_0 (nx_7 hN (j := 1) (by decide))) rfl rfl (Nat.le_of_ble_eq_true rfl) ?_
      obtain ⟨r19, w20, ew20, h⟩ := ob_e h
      refine r_cVi 108 (As := [.int r17]) (rest := []) hk (kX9_accept hN ew20) cf_RX9_115 mi_X9_accept ⟨TX9, 16, rfl⟩ dX9_cleansThen_105 rfl (Nat.le_of_ble_eq_true rfl) (Nat.le_of_ble_eq_true rfl) (mk_9_0 (nx_9 hN (j := 0) (by decide))) rfl rfl (Nat.le_of_ble_eq_true rfl) ?_
      exact r_iret hk hR dX9_cleansThen_108 h
    · have h := if_f c15 h
      refine r_aload_n 57 hk dX9_cleansThen_56 rfl 0 rfl rfl ?_
      refine r_get 60 hk dX9_cleansThen_57 rfl ff_RX9_46 (mk_9_0 (nx_9 hN (j := 0) (by decide))) (gv_9_7 _ _ _) ?_
      refine r_aload_n 61 hk dX9_cleansThen_60 rfl 0 rfl rfl ?_
      refine r_get 64 hk dX9_cleansThen_61 rfl ff_RX9_16 (mk_9_0 (nx_9 hN (j := 0) (by decide))) (gv_9_2 _ _ _) ?_
      obtain ⟨q21, eq21, lq21, h⟩ := ckp_e h
      refine r_pv1 eq21 ?_
      refine r_get 67 hk dX9_cleansThen_64 rfl ff_RX9_109 (mk_8_0 (nx_8 hN lq21)) (gv_8_0 _ _ _) ?_
      refine r_aload_n 68 hk dX9_cleansThen_67 rfl 0 rfl rfl ?_
      refine r_get 71 hk dX9_cleansThen_68 rfl ff_RX9_46 (mk_9_0 (nx_9 hN (j := 0) (by decide))) (gv_9_7 _ _ _) ?_
      refine r_aload_n 72 hk dX9_cleansThen_71 rfl 0 rfl rfl ?_
      refine r_get 75 hk dX9_cleansThen_72 rfl ff_RX9_16 (mk_9_0 (nx_9 hN (j := 0) (by decide))) (gv_9_2 _ _ _) ?_
      obtain ⟨q22, eq22, lq22, h⟩ := ckp_e h
      refine r_pv1 eq22 ?_
      refine r_get 78 hk dX9_cleansThen_75 rfl ff_RX9_109 (mk_8_0 (nx_8 hN lq22)) (gv_8_0 _ _ _) ?_
      obtain ⟨r23, w24, ew24, h⟩ := ob_e h
      refine r_cVi 81 (As := [.ref (al 5 q22 0)]) (rest := [.ref (al 5 q21 0), .ref (al 7 1 0)]) hk (kX7_nextBand hN (nx_7 hN (j := 1) (by decide)) (nx_sh hN (nx_8 hN lq22)) ew24) cf_RX9_234 mi_X7_nextBand ⟨TX7, 11, rfl⟩ dX9_cleansThen_78 rfl (Nat.le_of_ble_eq_true rfl) (Nat.le_of_ble_eq_true rfl) (mk_7_0 (nx_7 hN (j := 1) (by decide))) rfl rfl (Nat.le_of_ble_eq_true rfl) ?_
      obtain ⟨r25, w26, ew26, h⟩ := ob_e h
      refine r_cVv 84 (As := [.ref (al 5 q21 0), .int r23]) (rest := []) hk (kX7_dropEntriesOf hN (nx_7 hN (j := 1) (by decide)) (nx_sh hN (nx_8 hN lq21)) ew26) cf_RX9_242 mi_X7_dropEntriesOf ⟨TX7, 11, rfl⟩ dX9_cleansThen_81 rfl (Nat.le_of_ble_eq_true rfl) (Nat.le_of_ble_eq_true rfl) (mk_7_0 (nx_7 hN (j := 1) (by decide))) rfl rfl (Nat.le_of_ble_eq_true rfl) ?_
      obtain ⟨x2_27, ex2_27, h⟩ := lw_e h
      refine r_iinc 87 [(2, .int x2_27), (0, .ref (al 9 0 0)), (1, .int x1)] hk (j := 2) dX9_cleansThen_84 rfl hn (by decide) rfl ex2_27 rfl ?_
      refine r_goto 51 hk (x := 0) dX9_cleansThen_87 rfl ?_
      refine r_sub [1, 2, 0] rfl ?_
      exact ih _ _ _ h
set_option maxRecDepth 100000 in
set_option maxHeartbeats 4000000 in
theorem kX9_cleansThen {l : Launch} {G : Gx} {al : Al} {w : Wd} {x1 : Int32} {r : Int32} {wz : Wd} (hN : NX G) (h : fX9_cleansThen w x1 = some (r, wz)) : MC l G yX9_cleansThen cX9_cleansThen 3 (some (.int)) 4 91 al w [.ref (al 9 0 0), .int x1] (some (.int r)) wz := by
  refine mc_of [(0, .ref (al 9 0 0)), (1, .int x1)] (by decide) (Nat.le_of_ble_eq_true rfl) rfl ?_
  intro K hk hR hn hl hG
  subst hl; subst hG
  have hk : VH K RX9 cX9_cleansThen 4 91 := hk
  rw [fX9_cleansThen.eq_1] at h
  refine r_aload_n 1 hk dX9_cleansThen_0 rfl 0 rfl rfl ?_
  obtain ⟨r1, w2, ew2, h⟩ := ob_e h
  refine r_cVi 4 (As := []) (rest := []) hk (kX9_hasDisk hN ew2) cf_RX9_199 mi_X9_hasDisk ⟨TX9, 16, rfl⟩ dX9_cleansThen_1 rfl (Nat.le_of_ble_eq_true rfl) (Nat.le_of_ble_eq_true rfl) (mk_9_0 (nx_9 hN (j := 0) (by decide))) rfl rfl (Nat.le_of_ble_eq_true rfl) ?_
  refine r_if_eq 11 7 hk dX9_cleansThen_4 rfl rfl (fun c3 => ?_) (fun c3 => ?_)
  · have h := if_t c3 h
    refine r_aload_n 12 hk dX9_cleansThen_11 rfl 0 rfl rfl ?_
    refine r_iconst 13 hk dX9_cleansThen_12 rfl ci_1 ?_
    obtain ⟨r4, w5, ew5, h⟩ := ob_e h
    refine r_cVi 16 (As := [.int 1]) (rest := []) hk (kX9_refuse hN ew5) cf_RX9_86 mi_X9_refuse ⟨TX9, 16, rfl⟩ dX9_cleansThen_13 rfl (Nat.le_of_ble_eq_true rfl) (Nat.le_of_ble_eq_true rfl) (mk_9_0 (nx_9 hN (j := 0) (by decide))) rfl rfl (Nat.le_of_ble_eq_true rfl) ?_
    exact r_iret hk hR dX9_cleansThen_16 h
  · have h := if_f c3 h
    refine r_iload_n 8 hk dX9_cleansThen_7 rfl 1 rfl rfl ?_
    refine r_if_ge 17 11 hk dX9_cleansThen_8 rfl rfl (fun c6 => ?_) (fun c6 => ?_)
    · have h := if_t c6 h
      refine r_iload_n 18 hk dX9_cleansThen_17 rfl 1 rfl rfl ?_
      refine r_aload_n 19 hk dX9_cleansThen_18 rfl 0 rfl rfl ?_
      refine r_get 22 hk dX9_cleansThen_19 rfl ff_RX9_16 (mk_9_0 (nx_9 hN (j := 0) (by decide))) (gv_9_2 _ _ _) ?_
      obtain ⟨q7, eq7, lq7, h⟩ := ckp_e h
      refine r_pv1 eq7 ?_
      refine r_get 25 hk dX9_cleansThen_22 rfl ff_RX9_109 (mk_8_0 (nx_8 hN lq7)) (gv_8_0 _ _ _) ?_
      refine r_get 28 hk dX9_cleansThen_25 rfl ff_RX9_155 (mk_5_0 (nx_sh hN (nx_8 hN lq7))) (gv_5_3 _ _ _) ?_
      refine r_icmp_lt 38 31 hk dX9_cleansThen_28 rfl rfl (fun c8 => ?_) (fun c8 => ?_)
      · have h := if_t c8 h
        refine r_aload_n 39 hk dX9_cleansThen_38 rfl 0 rfl rfl ?_
        refine r_get 42 hk dX9_cleansThen_39 rfl ff_RX9_46 (mk_9_0 (nx_9 hN (j := 0) (by decide))) (gv_9_7 _ _ _) ?_
        refine r_aload_n 43 hk dX9_cleansThen_42 rfl 0 rfl rfl ?_
        refine r_get 46 hk dX9_cleansThen_43 rfl ff_RX9_42 (mk_9_0 (nx_9 hN (j := 0) (by decide))) (gv_9_6 _ _ _) ?_
        obtain ⟨r9, w10, ew10, h⟩ := ob_e h
        refine r_cVv 49 (As := [.ref (al 7 0 0)]) (rest := []) hk (kX7_copyFrom hN (nx_7 hN (j := 1) (by decide)) (nx_7 hN (j := 0) (by decide)) ew10) cf_RX9_238 mi_X7_copyFrom ⟨TX7, 11, rfl⟩ dX9_cleansThen_46 rfl (Nat.le_of_ble_eq_true rfl) (Nat.le_of_ble_eq_true rfl) (mk_7_0 (nx_7 hN (j := 1) (by decide))) rfl rfl (Nat.le_of_ble_eq_true rfl) ?_
        refine r_iconst 50 hk dX9_cleansThen_49 rfl ci_0 ?_
        refine r_istore_n 51 [(2, .int 0), (0, .ref (al 9 0 0)), (1, .int x1)] hk dX9_cleansThen_50 rfl rfl hn (by decide) rfl rfl ?_
        refine r_sub [1, 2, 0] rfl ?_
        exact sX9_cleansThen_51 hk hR hn hN _ _ _ _ h
      · have h := if_f c8 h
        refine r_aload_n 32 hk dX9_cleansThen_31 rfl 0 rfl rfl ?_
        refine r_bipush 34 hk dX9_cleansThen_32 rfl cb_m2 ?_
        obtain ⟨r11, w12, ew12, h⟩ := ob_e h
        refine r_cVi 37 (As := [.int (-2)]) (rest := []) hk (kX9_accept hN ew12) cf_RX9_115 mi_X9_accept ⟨TX9, 16, rfl⟩ dX9_cleansThen_34 rfl (Nat.le_of_ble_eq_true rfl) (Nat.le_of_ble_eq_true rfl) (mk_9_0 (nx_9 hN (j := 0) (by decide))) rfl rfl (Nat.le_of_ble_eq_true rfl) ?_
        exact r_iret hk hR dX9_cleansThen_37 h
    · have h := if_f c6 h
      refine r_aload_n 12 hk dX9_cleansThen_11 rfl 0 rfl rfl ?_
      refine r_iconst 13 hk dX9_cleansThen_12 rfl ci_1 ?_
      obtain ⟨r13, w14, ew14, h⟩ := ob_e h
      refine r_cVi 16 (As := [.int 1]) (rest := []) hk (kX9_refuse hN ew14) cf_RX9_86 mi_X9_refuse ⟨TX9, 16, rfl⟩ dX9_cleansThen_13 rfl (Nat.le_of_ble_eq_true rfl) (Nat.le_of_ble_eq_true rfl) (mk_9_0 (nx_9 hN (j := 0) (by decide))) rfl rfl (Nat.le_of_ble_eq_true rfl) ?_
      exact r_iret hk hR dX9_cleansThen_16 h
def fX9_steps (w : Wd) (x1 : Int32) : Option (Int32 × Wd) :=
  ob (fX9_hasBand w (x1)) fun r1 w2 =>
  if (r1 : Int32) = 0 then
    ob (fX9_refuse w2 (1)) fun r9 w10 =>
    some (r9, w10)
  else
    ckp ((w2 9 0).2.2.1 2) 2 fun q4 =>
    ob (fX5_stepsOf q4 w2 (x1)) fun r5 w6 =>
    ob (fX9_accept w6 (r5)) fun r7 w8 =>
    some (r7, w8)
set_option maxRecDepth 100000 in
set_option maxHeartbeats 4000000 in
theorem kX9_steps {l : Launch} {G : Gx} {al : Al} {w : Wd} {x1 : Int32} {r : Int32} {wz : Wd} (hN : NX G) (h : fX9_steps w x1 = some (r, wz)) : MC l G yX9_steps cX9_steps 2 (some (.int)) 3 63 al w [.ref (al 9 0 0), .int x1] (some (.int r)) wz := by
  refine mc_of [(0, .ref (al 9 0 0)), (1, .int x1)] (by decide) (Nat.le_of_ble_eq_true rfl) rfl ?_
  intro K hk hR hn hl hG
  subst hl; subst hG
  have hk : VH K RX9 cX9_steps 3 63 := hk
  rw [fX9_steps.eq_1] at h
  refine r_aload_n 1 hk dX9_steps_0 rfl 0 rfl rfl ?_
  refine r_iload_n 2 hk dX9_steps_1 rfl 1 rfl rfl ?_
  obtain ⟨r1, w2, ew2, h⟩ := ob_e h
  refine r_cVi 5 (As := [.int x1]) (rest := []) hk (kX9_hasBand hN ew2) cf_RX9_180 mi_X9_hasBand ⟨TX9, 16, rfl⟩ dX9_steps_2 rfl (Nat.le_of_ble_eq_true rfl) (Nat.le_of_ble_eq_true rfl) (mk_9_0 (nx_9 hN (j := 0) (by decide))) rfl rfl (Nat.le_of_ble_eq_true rfl) ?_
  refine r_if_ne 14 8 hk dX9_steps_5 rfl rfl (fun c3 => ?_) (fun c3 => ?_)
  · have h := if_f c3 h
    refine r_aload_n 15 hk dX9_steps_14 rfl 0 rfl rfl ?_
    refine r_aload_n 16 hk dX9_steps_15 rfl 0 rfl rfl ?_
    refine r_get 19 hk dX9_steps_16 rfl ff_RX9_16 (mk_9_0 (nx_9 hN (j := 0) (by decide))) (gv_9_2 _ _ _) ?_
    obtain ⟨q4, eq4, lq4, h⟩ := ckp_e h
    refine r_pv1 eq4 ?_
    refine r_get 22 hk dX9_steps_19 rfl ff_RX9_109 (mk_8_0 (nx_8 hN lq4)) (gv_8_0 _ _ _) ?_
    refine r_iload_n 23 hk dX9_steps_22 rfl 1 rfl rfl ?_
    obtain ⟨r5, w6, ew6, h⟩ := ob_e h
    refine r_cVi 26 (As := [.int x1]) (rest := [.ref (al 9 0 0)]) hk (kX5_stepsOf hN (nx_sh hN (nx_8 hN lq4)) ew6) cf_RX9_245 mi_X5_stepsOf ⟨TX5, 8, rfl⟩ dX9_steps_23 rfl (Nat.le_of_ble_eq_true rfl) (Nat.le_of_ble_eq_true rfl) (mk_5_0 (nx_sh hN (nx_8 hN lq4))) rfl rfl (Nat.le_of_ble_eq_true rfl) ?_
    obtain ⟨r7, w8, ew8, h⟩ := ob_e h
    refine r_cVi 29 (As := [.int r5]) (rest := []) hk (kX9_accept hN ew8) cf_RX9_115 mi_X9_accept ⟨TX9, 16, rfl⟩ dX9_steps_26 rfl (Nat.le_of_ble_eq_true rfl) (Nat.le_of_ble_eq_true rfl) (mk_9_0 (nx_9 hN (j := 0) (by decide))) rfl rfl (Nat.le_of_ble_eq_true rfl) ?_
    exact r_iret hk hR dX9_steps_29 h
  · have h := if_t c3 h
    refine r_aload_n 9 hk dX9_steps_8 rfl 0 rfl rfl ?_
    refine r_iconst 10 hk dX9_steps_9 rfl ci_1 ?_
    obtain ⟨r9, w10, ew10, h⟩ := ob_e h
    refine r_cVi 13 (As := [.int 1]) (rest := []) hk (kX9_refuse hN ew10) cf_RX9_86 mi_X9_refuse ⟨TX9, 16, rfl⟩ dX9_steps_10 rfl (Nat.le_of_ble_eq_true rfl) (Nat.le_of_ble_eq_true rfl) (mk_9_0 (nx_9 hN (j := 0) (by decide))) rfl rfl (Nat.le_of_ble_eq_true rfl) ?_
    exact r_iret hk hR dX9_steps_13 h
def fX9_rids (w : Wd) (x1 : Int32) : Option (Int32 × Wd) :=
  ob (fX9_hasBand w (x1)) fun r1 w2 =>
  if (r1 : Int32) = 0 then
    ob (fX9_refuse w2 (1)) fun r9 w10 =>
    some (r9, w10)
  else
    ckp ((w2 9 0).2.2.1 2) 2 fun q4 =>
    ob (fX7_entriesOf 0 q4 w2 (x1)) fun r5 w6 =>
    ob (fX9_accept w6 (r5)) fun r7 w8 =>
    some (r7, w8)
set_option maxRecDepth 100000 in
set_option maxHeartbeats 4000000 in
theorem kX9_rids {l : Launch} {G : Gx} {al : Al} {w : Wd} {x1 : Int32} {r : Int32} {wz : Wd} (hN : NX G) (h : fX9_rids w x1 = some (r, wz)) : MC l G yX9_rids cX9_rids 2 (some (.int)) 3 66 al w [.ref (al 9 0 0), .int x1] (some (.int r)) wz := by
  refine mc_of [(0, .ref (al 9 0 0)), (1, .int x1)] (by decide) (Nat.le_of_ble_eq_true rfl) rfl ?_
  intro K hk hR hn hl hG
  subst hl; subst hG
  have hk : VH K RX9 cX9_rids 3 66 := hk
  rw [fX9_rids.eq_1] at h
  refine r_aload_n 1 hk dX9_rids_0 rfl 0 rfl rfl ?_
  refine r_iload_n 2 hk dX9_rids_1 rfl 1 rfl rfl ?_
  obtain ⟨r1, w2, ew2, h⟩ := ob_e h
  refine r_cVi 5 (As := [.int x1]) (rest := []) hk (kX9_hasBand hN ew2) cf_RX9_180 mi_X9_hasBand ⟨TX9, 16, rfl⟩ dX9_rids_2 rfl (Nat.le_of_ble_eq_true rfl) (Nat.le_of_ble_eq_true rfl) (mk_9_0 (nx_9 hN (j := 0) (by decide))) rfl rfl (Nat.le_of_ble_eq_true rfl) ?_
  refine r_if_ne 14 8 hk dX9_rids_5 rfl rfl (fun c3 => ?_) (fun c3 => ?_)
  · have h := if_f c3 h
    refine r_aload_n 15 hk dX9_rids_14 rfl 0 rfl rfl ?_
    refine r_aload_n 16 hk dX9_rids_15 rfl 0 rfl rfl ?_
    refine r_get 19 hk dX9_rids_16 rfl ff_RX9_42 (mk_9_0 (nx_9 hN (j := 0) (by decide))) (gv_9_6 _ _ _) ?_
    refine r_aload_n 20 hk dX9_rids_19 rfl 0 rfl rfl ?_
    refine r_get 23 hk dX9_rids_20 rfl ff_RX9_16 (mk_9_0 (nx_9 hN (j := 0) (by decide))) (gv_9_2 _ _ _) ?_
    obtain ⟨q4, eq4, lq4, h⟩ := ckp_e h
    refine r_pv1 eq4 ?_
    refine r_get 26 hk dX9_rids_23 rfl ff_RX9_109 (mk_8_0 (nx_8 hN lq4)) (gv_8_0 _ _ _) ?_
    refine r_iload_n 27 hk dX9_rids_26 rfl 1 rfl rfl ?_
    obtain ⟨r5, w6, ew6, h⟩ := ob_e h
    refine r_cVi 30 (As := [.ref (al 5 q4 0), .int x1]) (rest := [.ref (al 9 0 0)]) hk (kX7_entriesOf hN (nx_7 hN (j := 0) (by decide)) (nx_sh hN (nx_8 hN lq4)) ew6) cf_RX9_189 mi_X7_entriesOf ⟨TX7, 11, rfl⟩ dX9_rids_27 rfl (Nat.le_of_ble_eq_true rfl) (Nat.le_of_ble_eq_true rfl) (mk_7_0 (nx_7 hN (j := 0) (by decide))) rfl rfl (Nat.le_of_ble_eq_true rfl) ?_
    obtain ⟨r7, w8, ew8, h⟩ := ob_e h
    refine r_cVi 33 (As := [.int r5]) (rest := []) hk (kX9_accept hN ew8) cf_RX9_115 mi_X9_accept ⟨TX9, 16, rfl⟩ dX9_rids_30 rfl (Nat.le_of_ble_eq_true rfl) (Nat.le_of_ble_eq_true rfl) (mk_9_0 (nx_9 hN (j := 0) (by decide))) rfl rfl (Nat.le_of_ble_eq_true rfl) ?_
    exact r_iret hk hR dX9_rids_33 h
  · have h := if_t c3 h
    refine r_aload_n 9 hk dX9_rids_8 rfl 0 rfl rfl ?_
    refine r_iconst 10 hk dX9_rids_9 rfl ci_1 ?_
    obtain ⟨r9, w10, ew10, h⟩ := ob_e h
    refine r_cVi 13 (As := [.int 1]) (rest := []) hk (kX9_refuse hN ew10) cf_RX9_86 mi_X9_refuse ⟨TX9, 16, rfl⟩ dX9_rids_10 rfl (Nat.le_of_ble_eq_true rfl) (Nat.le_of_ble_eq_true rfl) (mk_9_0 (nx_9 hN (j := 0) (by decide))) rfl rfl (Nat.le_of_ble_eq_true rfl) ?_
    exact r_iret hk hR dX9_rids_13 h
def fX9_whyNoCut (w : Wd) (x1 : Int32) (x2 : Int32) : Option (Int32 × Wd) :=
  ob (fX9_hasBand w (x1)) fun r1 w2 =>
  if (r1 : Int32) = 0 then
    some (1, w2)
  else
    if (x2 : Int32) < 0 then
      some (2, w2)
    else
      ckp ((w2 9 0).2.2.1 2) 2 fun q5 =>
      ob (fX5_stepsOf q5 w2 (x1)) fun r6 w7 =>
      if (x2 : Int32) ≤ r6 then
        if (((w7 7 0).1 8) : Int32) = 0 then
          some (0, w7)
        else
          some (5, w7)
      else
        some (2, w7)
set_option maxRecDepth 100000 in
set_option maxHeartbeats 4000000 in
theorem kX9_whyNoCut {l : Launch} {G : Gx} {al : Al} {w : Wd} {x1 : Int32} {x2 : Int32} {r : Int32} {wz : Wd} (hN : NX G) (h : fX9_whyNoCut w x1 x2 = some (r, wz)) : MC l G yX9_whyNoCut cX9_whyNoCut 3 (some (.int)) 3 63 al w [.ref (al 9 0 0), .int x1, .int x2] (some (.int r)) wz := by
  refine mc_of [(0, .ref (al 9 0 0)), (1, .int x1), (2, .int x2)] (by decide) (Nat.le_of_ble_eq_true rfl) rfl ?_
  intro K hk hR hn hl hG
  subst hl; subst hG
  have hk : VH K RX9 cX9_whyNoCut 3 63 := hk
  rw [fX9_whyNoCut.eq_1] at h
  refine r_aload_n 1 hk dX9_whyNoCut_0 rfl 0 rfl rfl ?_
  refine r_iload_n 2 hk dX9_whyNoCut_1 rfl 1 rfl rfl ?_
  obtain ⟨r1, w2, ew2, h⟩ := ob_e h
  refine r_cVi 5 (As := [.int x1]) (rest := []) hk (kX9_hasBand hN ew2) cf_RX9_180 mi_X9_hasBand ⟨TX9, 16, rfl⟩ dX9_whyNoCut_2 rfl (Nat.le_of_ble_eq_true rfl) (Nat.le_of_ble_eq_true rfl) (mk_9_0 (nx_9 hN (j := 0) (by decide))) rfl rfl (Nat.le_of_ble_eq_true rfl) ?_
  refine r_if_ne 10 8 hk dX9_whyNoCut_5 rfl rfl (fun c3 => ?_) (fun c3 => ?_)
  · have h := if_f c3 h
    refine r_iload_n 11 hk dX9_whyNoCut_10 rfl 2 rfl rfl ?_
    refine r_if_lt 29 14 hk dX9_whyNoCut_11 rfl rfl (fun c4 => ?_) (fun c4 => ?_)
    · have h := if_t c4 h
      refine r_iconst 30 hk dX9_whyNoCut_29 rfl ci_2 ?_
      exact r_iret hk hR dX9_whyNoCut_30 h
    · have h := if_f c4 h
      refine r_iload_n 15 hk dX9_whyNoCut_14 rfl 2 rfl rfl ?_
      refine r_aload_n 16 hk dX9_whyNoCut_15 rfl 0 rfl rfl ?_
      refine r_get 19 hk dX9_whyNoCut_16 rfl ff_RX9_16 (mk_9_0 (nx_9 hN (j := 0) (by decide))) (gv_9_2 _ _ _) ?_
      obtain ⟨q5, eq5, lq5, h⟩ := ckp_e h
      refine r_pv1 eq5 ?_
      refine r_get 22 hk dX9_whyNoCut_19 rfl ff_RX9_109 (mk_8_0 (nx_8 hN lq5)) (gv_8_0 _ _ _) ?_
      refine r_iload_n 23 hk dX9_whyNoCut_22 rfl 1 rfl rfl ?_
      obtain ⟨r6, w7, ew7, h⟩ := ob_e h
      refine r_cVi 26 (As := [.int x1]) (rest := [.int x2]) hk (kX5_stepsOf hN (nx_sh hN (nx_8 hN lq5)) ew7) cf_RX9_245 mi_X5_stepsOf ⟨TX5, 8, rfl⟩ dX9_whyNoCut_23 rfl (Nat.le_of_ble_eq_true rfl) (Nat.le_of_ble_eq_true rfl) (mk_5_0 (nx_sh hN (nx_8 hN lq5))) rfl rfl (Nat.le_of_ble_eq_true rfl) ?_
      refine r_icmp_le 31 29 hk dX9_whyNoCut_26 rfl rfl (fun c8 => ?_) (fun c8 => ?_)
      · have h := if_t c8 h
        refine r_aload_n 32 hk dX9_whyNoCut_31 rfl 0 rfl rfl ?_
        refine r_get 35 hk dX9_whyNoCut_32 rfl ff_RX9_42 (mk_9_0 (nx_9 hN (j := 0) (by decide))) (gv_9_6 _ _ _) ?_
        refine r_get 38 hk dX9_whyNoCut_35 rfl ff_RX9_162 (mk_7_0 (nx_7 hN (j := 0) (by decide))) (gv_7_8 _ _ _) ?_
        refine r_if_eq 45 41 hk dX9_whyNoCut_38 rfl rfl (fun c9 => ?_) (fun c9 => ?_)
        · have h := if_t c9 h
          refine r_iconst 46 hk dX9_whyNoCut_45 rfl ci_0 ?_
          exact r_iret hk hR dX9_whyNoCut_46 h
        · have h := if_f c9 h
          refine r_iconst 42 hk dX9_whyNoCut_41 rfl ci_5 ?_
          refine r_goto 46 hk (x := 0) dX9_whyNoCut_42 rfl ?_
          exact r_iret hk hR dX9_whyNoCut_46 h
      · have h := if_f c8 h
        refine r_iconst 30 hk dX9_whyNoCut_29 rfl ci_2 ?_
        exact r_iret hk hR dX9_whyNoCut_30 h
  · have h := if_t c3 h
    refine r_iconst 9 hk dX9_whyNoCut_8 rfl ci_1 ?_
    exact r_iret hk hR dX9_whyNoCut_9 h
def fX9_tryCut (w : Wd) (x1 : Int32) (x2 : Int32) : Option (Unit × Wd) :=
  ob (fX7_copyFrom 1 0 w ) fun _ w2 =>
  ckp ((w2 9 0).2.2.1 2) 2 fun q3 =>
  ob (fX7_cutPower 1 q3 w2 (x1) (x2)) fun _ w5 =>
  some ((), w5)
set_option maxRecDepth 100000 in
set_option maxHeartbeats 4000000 in
theorem kX9_tryCut {l : Launch} {G : Gx} {al : Al} {w : Wd} {x1 : Int32} {x2 : Int32} {r : Unit} {wz : Wd} (hN : NX G) (h : fX9_tryCut w x1 x2 = some (r, wz)) : MC l G yX9_tryCut cX9_tryCut 3 none 5 115 al w [.ref (al 9 0 0), .int x1, .int x2] none wz := by
  refine mc_of [(0, .ref (al 9 0 0)), (1, .int x1), (2, .int x2)] (by decide) (Nat.le_of_ble_eq_true rfl) rfl ?_
  intro K hk hR hn hl hG
  subst hl; subst hG
  have hk : VH K RX9 cX9_tryCut 5 115 := hk
  rw [fX9_tryCut.eq_1] at h
  refine r_aload_n 1 hk dX9_tryCut_0 rfl 0 rfl rfl ?_
  refine r_get 4 hk dX9_tryCut_1 rfl ff_RX9_46 (mk_9_0 (nx_9 hN (j := 0) (by decide))) (gv_9_7 _ _ _) ?_
  refine r_aload_n 5 hk dX9_tryCut_4 rfl 0 rfl rfl ?_
  refine r_get 8 hk dX9_tryCut_5 rfl ff_RX9_42 (mk_9_0 (nx_9 hN (j := 0) (by decide))) (gv_9_6 _ _ _) ?_
  obtain ⟨r1, w2, ew2, h⟩ := ob_e h
  refine r_cVv 11 (As := [.ref (al 7 0 0)]) (rest := []) hk (kX7_copyFrom hN (nx_7 hN (j := 1) (by decide)) (nx_7 hN (j := 0) (by decide)) ew2) cf_RX9_238 mi_X7_copyFrom ⟨TX7, 11, rfl⟩ dX9_tryCut_8 rfl (Nat.le_of_ble_eq_true rfl) (Nat.le_of_ble_eq_true rfl) (mk_7_0 (nx_7 hN (j := 1) (by decide))) rfl rfl (Nat.le_of_ble_eq_true rfl) ?_
  refine r_aload_n 12 hk dX9_tryCut_11 rfl 0 rfl rfl ?_
  refine r_get 15 hk dX9_tryCut_12 rfl ff_RX9_46 (mk_9_0 (nx_9 hN (j := 0) (by decide))) (gv_9_7 _ _ _) ?_
  refine r_aload_n 16 hk dX9_tryCut_15 rfl 0 rfl rfl ?_
  refine r_get 19 hk dX9_tryCut_16 rfl ff_RX9_16 (mk_9_0 (nx_9 hN (j := 0) (by decide))) (gv_9_2 _ _ _) ?_
  obtain ⟨q3, eq3, lq3, h⟩ := ckp_e h
  refine r_pv1 eq3 ?_
  refine r_get 22 hk dX9_tryCut_19 rfl ff_RX9_109 (mk_8_0 (nx_8 hN lq3)) (gv_8_0 _ _ _) ?_
  refine r_iload_n 23 hk dX9_tryCut_22 rfl 1 rfl rfl ?_
  refine r_iload_n 24 hk dX9_tryCut_23 rfl 2 rfl rfl ?_
  obtain ⟨r4, w5, ew5, h⟩ := ob_e h
  refine r_cVv 27 (As := [.ref (al 5 q3 0), .int x1, .int x2]) (rest := []) hk (kX7_cutPower hN (nx_7 hN (j := 1) (by decide)) (nx_sh hN (nx_8 hN lq3)) ew5) cf_RX9_267 mi_X7_cutPower ⟨TX7, 11, rfl⟩ dX9_tryCut_24 rfl (Nat.le_of_ble_eq_true rfl) (Nat.le_of_ble_eq_true rfl) (mk_7_0 (nx_7 hN (j := 1) (by decide))) rfl rfl (Nat.le_of_ble_eq_true rfl) ?_
  exact r_vret hk hR dX9_tryCut_27 h
def fX9_damages (w : Wd) (x1 : Int32) (x2 : Int32) : Option (Int32 × Wd) :=
  ob (fX9_whyNoCut w (x1) (x2)) fun r1 w2 =>
  if (r1 : Int32) = 0 then
    ob (fX9_tryCut w2 (x1) (x2)) fun _ w5 =>
    ckp ((w5 9 0).2.2.1 2) 2 fun q6 =>
    ob (fX7_damagedInAll 1 q6 w5 ) fun r7 w8 =>
    ob (fX9_accept w8 (r7)) fun r9 w10 =>
    some (r9, w10)
  else
    ob (fX9_refuse w2 (r1)) fun r11 w12 =>
    some (r11, w12)
set_option maxRecDepth 100000 in
set_option maxHeartbeats 4000000 in
theorem kX9_damages {l : Launch} {G : Gx} {al : Al} {w : Wd} {x1 : Int32} {x2 : Int32} {r : Int32} {wz : Wd} (hN : NX G) (h : fX9_damages w x1 x2 = some (r, wz)) : MC l G yX9_damages cX9_damages 4 (some (.int)) 6 137 al w [.ref (al 9 0 0), .int x1, .int x2] (some (.int r)) wz := by
  refine mc_of [(0, .ref (al 9 0 0)), (1, .int x1), (2, .int x2)] (by decide) (Nat.le_of_ble_eq_true rfl) rfl ?_
  intro K hk hR hn hl hG
  subst hl; subst hG
  have hk : VH K RX9 cX9_damages 6 137 := hk
  rw [fX9_damages.eq_1] at h
  refine r_aload_n 1 hk dX9_damages_0 rfl 0 rfl rfl ?_
  refine r_iload_n 2 hk dX9_damages_1 rfl 1 rfl rfl ?_
  refine r_iload_n 3 hk dX9_damages_2 rfl 2 rfl rfl ?_
  obtain ⟨r1, w2, ew2, h⟩ := ob_e h
  refine r_cVi 6 (As := [.int x1, .int x2]) (rest := []) hk (kX9_whyNoCut hN ew2) cf_RX9_248 mi_X9_whyNoCut ⟨TX9, 16, rfl⟩ dX9_damages_3 rfl (Nat.le_of_ble_eq_true rfl) (Nat.le_of_ble_eq_true rfl) (mk_9_0 (nx_9 hN (j := 0) (by decide))) rfl rfl (Nat.le_of_ble_eq_true rfl) ?_
  refine r_istore_n 7 [(3, .int r1), (0, .ref (al 9 0 0)), (1, .int x1), (2, .int x2)] hk dX9_damages_6 rfl rfl hn (by decide) rfl rfl ?_
  refine r_iload_n 8 hk dX9_damages_7 rfl 0 rfl rfl ?_
  refine r_if_eq 17 11 hk dX9_damages_8 rfl rfl (fun c3 => ?_) (fun c3 => ?_)
  · have h := if_t c3 h
    refine r_aload_n 18 hk dX9_damages_17 rfl 1 rfl rfl ?_
    refine r_iload_n 19 hk dX9_damages_18 rfl 2 rfl rfl ?_
    refine r_iload_n 20 hk dX9_damages_19 rfl 3 rfl rfl ?_
    obtain ⟨r4, w5, ew5, h⟩ := ob_e h
    refine r_cVv 23 (As := [.int x1, .int x2]) (rest := []) hk (kX9_tryCut hN ew5) cf_RX9_251 mi_X9_tryCut ⟨TX9, 16, rfl⟩ dX9_damages_20 rfl (Nat.le_of_ble_eq_true rfl) (Nat.le_of_ble_eq_true rfl) (mk_9_0 (nx_9 hN (j := 0) (by decide))) rfl rfl (Nat.le_of_ble_eq_true rfl) ?_
    refine r_aload_n 24 hk dX9_damages_23 rfl 1 rfl rfl ?_
    refine r_aload_n 25 hk dX9_damages_24 rfl 1 rfl rfl ?_
    refine r_get 28 hk dX9_damages_25 rfl ff_RX9_46 (mk_9_0 (nx_9 hN (j := 0) (by decide))) (gv_9_7 _ _ _) ?_
    refine r_aload_n 29 hk dX9_damages_28 rfl 1 rfl rfl ?_
    refine r_get 32 hk dX9_damages_29 rfl ff_RX9_16 (mk_9_0 (nx_9 hN (j := 0) (by decide))) (gv_9_2 _ _ _) ?_
    obtain ⟨q6, eq6, lq6, h⟩ := ckp_e h
    refine r_pv1 eq6 ?_
    refine r_get 35 hk dX9_damages_32 rfl ff_RX9_109 (mk_8_0 (nx_8 hN lq6)) (gv_8_0 _ _ _) ?_
    obtain ⟨r7, w8, ew8, h⟩ := ob_e h
    refine r_cVi 38 (As := [.ref (al 5 q6 0)]) (rest := [.ref (al 9 0 0)]) hk (kX7_damagedInAll hN (nx_7 hN (j := 1) (by decide)) (nx_sh hN (nx_8 hN lq6)) ew8) cf_RX9_255 mi_X7_damagedInAll ⟨TX7, 11, rfl⟩ dX9_damages_35 rfl (Nat.le_of_ble_eq_true rfl) (Nat.le_of_ble_eq_true rfl) (mk_7_0 (nx_7 hN (j := 1) (by decide))) rfl rfl (Nat.le_of_ble_eq_true rfl) ?_
    obtain ⟨r9, w10, ew10, h⟩ := ob_e h
    refine r_cVi 41 (As := [.int r7]) (rest := []) hk (kX9_accept hN ew10) cf_RX9_115 mi_X9_accept ⟨TX9, 16, rfl⟩ dX9_damages_38 rfl (Nat.le_of_ble_eq_true rfl) (Nat.le_of_ble_eq_true rfl) (mk_9_0 (nx_9 hN (j := 0) (by decide))) rfl rfl (Nat.le_of_ble_eq_true rfl) ?_
    exact r_iret hk hR dX9_damages_41 h
  · have h := if_f c3 h
    refine r_aload_n 12 hk dX9_damages_11 rfl 1 rfl rfl ?_
    refine r_iload_n 13 hk dX9_damages_12 rfl 0 rfl rfl ?_
    obtain ⟨r11, w12, ew12, h⟩ := ob_e h
    refine r_cVi 16 (As := [.int r1]) (rest := []) hk (kX9_refuse hN ew12) cf_RX9_86 mi_X9_refuse ⟨TX9, 16, rfl⟩ dX9_damages_13 rfl (Nat.le_of_ble_eq_true rfl) (Nat.le_of_ble_eq_true rfl) (mk_9_0 (nx_9 hN (j := 0) (by decide))) rfl rfl (Nat.le_of_ble_eq_true rfl) ?_
    exact r_iret hk hR dX9_damages_16 h
def fX9_fullThen (w : Wd) (x1 : Int32) (x2 : Int32) : Option (Int32 × Wd) :=
  ob (fX9_whyNoCut w (x1) (x2)) fun r1 w2 =>
  if (r1 : Int32) = 0 then
    ob (fX9_tryCut w2 (x1) (x2)) fun _ w5 =>
    if (((w5 7 1).1 7) : Int32) = 0 then
      ob (fX9_accept w5 (0)) fun r7 w8 =>
      some (r7, w8)
    else
      ob (fX9_accept w5 (1)) fun r9 w10 =>
      some (r9, w10)
  else
    ob (fX9_refuse w2 (r1)) fun r11 w12 =>
    some (r11, w12)
set_option maxRecDepth 100000 in
set_option maxHeartbeats 4000000 in
theorem kX9_fullThen {l : Launch} {G : Gx} {al : Al} {w : Wd} {x1 : Int32} {x2 : Int32} {r : Int32} {wz : Wd} (hN : NX G) (h : fX9_fullThen w x1 x2 = some (r, wz)) : MC l G yX9_fullThen cX9_fullThen 4 (some (.int)) 6 137 al w [.ref (al 9 0 0), .int x1, .int x2] (some (.int r)) wz := by
  refine mc_of [(0, .ref (al 9 0 0)), (1, .int x1), (2, .int x2)] (by decide) (Nat.le_of_ble_eq_true rfl) rfl ?_
  intro K hk hR hn hl hG
  subst hl; subst hG
  have hk : VH K RX9 cX9_fullThen 6 137 := hk
  rw [fX9_fullThen.eq_1] at h
  refine r_aload_n 1 hk dX9_fullThen_0 rfl 0 rfl rfl ?_
  refine r_iload_n 2 hk dX9_fullThen_1 rfl 1 rfl rfl ?_
  refine r_iload_n 3 hk dX9_fullThen_2 rfl 2 rfl rfl ?_
  obtain ⟨r1, w2, ew2, h⟩ := ob_e h
  refine r_cVi 6 (As := [.int x1, .int x2]) (rest := []) hk (kX9_whyNoCut hN ew2) cf_RX9_248 mi_X9_whyNoCut ⟨TX9, 16, rfl⟩ dX9_fullThen_3 rfl (Nat.le_of_ble_eq_true rfl) (Nat.le_of_ble_eq_true rfl) (mk_9_0 (nx_9 hN (j := 0) (by decide))) rfl rfl (Nat.le_of_ble_eq_true rfl) ?_
  refine r_istore_n 7 [(3, .int r1), (0, .ref (al 9 0 0)), (1, .int x1), (2, .int x2)] hk dX9_fullThen_6 rfl rfl hn (by decide) rfl rfl ?_
  refine r_iload_n 8 hk dX9_fullThen_7 rfl 0 rfl rfl ?_
  refine r_if_eq 17 11 hk dX9_fullThen_8 rfl rfl (fun c3 => ?_) (fun c3 => ?_)
  · have h := if_t c3 h
    refine r_aload_n 18 hk dX9_fullThen_17 rfl 1 rfl rfl ?_
    refine r_iload_n 19 hk dX9_fullThen_18 rfl 2 rfl rfl ?_
    refine r_iload_n 20 hk dX9_fullThen_19 rfl 3 rfl rfl ?_
    obtain ⟨r4, w5, ew5, h⟩ := ob_e h
    refine r_cVv 23 (As := [.int x1, .int x2]) (rest := []) hk (kX9_tryCut hN ew5) cf_RX9_251 mi_X9_tryCut ⟨TX9, 16, rfl⟩ dX9_fullThen_20 rfl (Nat.le_of_ble_eq_true rfl) (Nat.le_of_ble_eq_true rfl) (mk_9_0 (nx_9 hN (j := 0) (by decide))) rfl rfl (Nat.le_of_ble_eq_true rfl) ?_
    refine r_aload_n 24 hk dX9_fullThen_23 rfl 1 rfl rfl ?_
    refine r_aload_n 25 hk dX9_fullThen_24 rfl 1 rfl rfl ?_
    refine r_get 28 hk dX9_fullThen_25 rfl ff_RX9_46 (mk_9_0 (nx_9 hN (j := 0) (by decide))) (gv_9_7 _ _ _) ?_
    refine r_get 31 hk dX9_fullThen_28 rfl ff_RX9_258 (mk_7_0 (nx_7 hN (j := 1) (by decide))) (gv_7_7 _ _ _) ?_
    refine r_if_eq 38 34 hk dX9_fullThen_31 rfl rfl (fun c6 => ?_) (fun c6 => ?_)
    · have h := if_t c6 h
      refine r_iconst 39 hk dX9_fullThen_38 rfl ci_0 ?_
      obtain ⟨r7, w8, ew8, h⟩ := ob_e h
      refine r_cVi 42 (As := [.int 0]) (rest := []) hk (kX9_accept hN ew8) cf_RX9_115 mi_X9_accept ⟨TX9, 16, rfl⟩ dX9_fullThen_39 rfl (Nat.le_of_ble_eq_true rfl) (Nat.le_of_ble_eq_true rfl) (mk_9_0 (nx_9 hN (j := 0) (by decide))) rfl rfl (Nat.le_of_ble_eq_true rfl) ?_
      exact r_iret hk hR dX9_fullThen_42 h
    · have h := if_f c6 h
      refine r_iconst 35 hk dX9_fullThen_34 rfl ci_1 ?_
      refine r_goto 39 hk (x := 0) dX9_fullThen_35 rfl ?_
      obtain ⟨r9, w10, ew10, h⟩ := ob_e h
      refine r_cVi 42 (As := [.int 1]) (rest := []) hk (kX9_accept hN ew10) cf_RX9_115 mi_X9_accept ⟨TX9, 16, rfl⟩ dX9_fullThen_39 rfl (Nat.le_of_ble_eq_true rfl) (Nat.le_of_ble_eq_true rfl) (mk_9_0 (nx_9 hN (j := 0) (by decide))) rfl rfl (Nat.le_of_ble_eq_true rfl) ?_
      exact r_iret hk hR dX9_fullThen_42 h
  · have h := if_f c3 h
    refine r_aload_n 12 hk dX9_fullThen_11 rfl 1 rfl rfl ?_
    refine r_iload_n 13 hk dX9_fullThen_12 rfl 0 rfl rfl ?_
    obtain ⟨r11, w12, ew12, h⟩ := ob_e h
    refine r_cVi 16 (As := [.int r1]) (rest := []) hk (kX9_refuse hN ew12) cf_RX9_86 mi_X9_refuse ⟨TX9, 16, rfl⟩ dX9_fullThen_13 rfl (Nat.le_of_ble_eq_true rfl) (Nat.le_of_ble_eq_true rfl) (mk_9_0 (nx_9 hN (j := 0) (by decide))) rfl rfl (Nat.le_of_ble_eq_true rfl) ?_
    exact r_iret hk hR dX9_fullThen_16 h
