def fX11_bestSize_28 (nd : Nat) : Nat → Wd → Int32 → Int32 → Int32 → Option (Int32 × Wd)
  | 0, _, _, _, _ => none
  | n + 1, w, x1, x2, x3 =>
    if (8 : Int32) < x3 then
      ob (fX11_good nd w (x1)) fun r9 w10 =>
      some (r9, w10)
    else
      ob (fX11_writesBySize nd w (x3)) fun r11 w12 =>
      if (r11 : Int32) ≤ x2 then
        lw (x3 + 1) fun x3_14 =>
        fX11_bestSize_28 nd n w12 (x3) (r11) (x3_14)
      else
        lw (x3 + 1) fun x3_15 =>
        fX11_bestSize_28 nd n w12 (x1) (x2) (x3_15)
def fX11_bestSize (nd : Nat) (w : Wd) : Option (Int32 × Wd) :=
  lw (sI w 11 0 0 (0)) fun w1 =>
  if (w1 11 0).2.2.1 3 = 0 then
    ob (fX11_refused nd w1 (1)) fun r3 w4 =>
    some (r3, w4)
  else
    ob (fX11_writesBySize nd w1 (2)) fun r5 w6 =>
    fX11_bestSize_28 nd fuel0 w6 (2) (r5) (3)
set_option maxRecDepth 100000 in
set_option maxHeartbeats 4000000 in
theorem sX11_bestSize_28 {K : VC} {al : Al} {r : Int32} {wz : Wd}  (hk : VH K RX11 cX11_bestSize 9 201) (hR : VR K al (some (.int)) (some (.int r)) wz) (hn : kn K = 5) (hN : NX (kG K)) : ∀ (n : Nat) (w : Wd) (x1 : Int32) (x2 : Int32) (x3 : Int32), fX11_bestSize_28 (gN (kG K) 10) n w x1 x2 x3 = some (r, wz) → V K al w 28 [(0, .ref (al 11 0 0)), (1, .int x1), (2, .int x2), (3, .int x3)] [] := by
  intro n
  induction n with
  | zero => intro w x1 x2 x3 h; cases h
  | succ n ih =>
    intro w x1 x2 x3 h
    rw [fX11_bestSize_28.eq_2] at h
    refine r_iload_n 29 hk dX11_bestSize_28 rfl 3 rfl rfl ?_
    refine r_bipush 31 hk dX11_bestSize_29 rfl cb_8 ?_
    refine r_icmp_gt 61 34 hk dX11_bestSize_31 rfl rfl (fun c8 => ?_) (fun c8 => ?_)
    · have h := if_t c8 h
      refine r_aload_n 62 hk dX11_bestSize_61 rfl 0 rfl rfl ?_
      refine r_iload_n 63 hk dX11_bestSize_62 rfl 1 rfl rfl ?_
      obtain ⟨r9, w10, ew10, h⟩ := ob_e h
      refine r_cVi 66 (As := [.int x1]) (rest := []) hk (kX11_good hN ew10) cf_RX11_55 mi_X11_good ⟨TX11, 36, rfl⟩ dX11_bestSize_63 rfl (Nat.le_of_ble_eq_true rfl) (Nat.le_of_ble_eq_true rfl) (mk_11_0 (nx_11 hN (j := 0) (by decide))) rfl rfl (Nat.le_of_ble_eq_true rfl) ?_
      exact r_iret hk hR dX11_bestSize_66 h
    · have h := if_f c8 h
      refine r_aload_n 35 hk dX11_bestSize_34 rfl 0 rfl rfl ?_
      refine r_iload_n 36 hk dX11_bestSize_35 rfl 3 rfl rfl ?_
      obtain ⟨r11, w12, ew12, h⟩ := ob_e h
      refine r_cVi 39 (As := [.int x3]) (rest := []) hk (kX11_writesBySize hN ew12) cf_RX11_403 mi_X11_writesBySize ⟨TX11, 36, rfl⟩ dX11_bestSize_36 rfl (Nat.le_of_ble_eq_true rfl) (Nat.le_of_ble_eq_true rfl) (mk_11_0 (nx_11 hN (j := 0) (by decide))) rfl rfl (Nat.le_of_ble_eq_true rfl) ?_
      refine r_istore 41 [(4, .int r11), (0, .ref (al 11 0 0)), (1, .int x1), (2, .int x2), (3, .int x3)] hk dX11_bestSize_39 rfl hn (by decide) rfl rfl ?_
      refine r_iload 43 hk dX11_bestSize_41 rfl 0 rfl ?_
      refine r_iload_n 44 hk dX11_bestSize_43 rfl 3 rfl rfl ?_
      refine r_icmp_le 50 47 hk dX11_bestSize_44 rfl rfl (fun c13 => ?_) (fun c13 => ?_)
      · have h := if_t c13 h
        refine r_iload 52 hk dX11_bestSize_50 rfl 0 rfl ?_
        refine r_istore_n 53 [(2, .int r11), (4, .int r11), (0, .ref (al 11 0 0)), (1, .int x1), (3, .int x3)] hk dX11_bestSize_52 rfl rfl hn (by decide) rfl rfl ?_
        refine r_iload_n 54 hk dX11_bestSize_53 rfl 4 rfl rfl ?_
        refine r_istore_n 55 [(1, .int x3), (2, .int r11), (4, .int r11), (0, .ref (al 11 0 0)), (3, .int x3)] hk dX11_bestSize_54 rfl rfl hn (by decide) rfl rfl ?_
        obtain ⟨x3_14, ex3_14, h⟩ := lw_e h
        refine r_iinc 58 [(3, .int x3_14), (1, .int x3), (2, .int r11), (4, .int r11), (0, .ref (al 11 0 0))] hk (j := 4) dX11_bestSize_55 rfl hn (by decide) rfl ex3_14 rfl ?_
        refine r_goto 28 hk (x := 0) dX11_bestSize_58 rfl ?_
        refine r_sub [4, 1, 2, 0] rfl ?_
        exact ih _ _ _ _ h
      · have h := if_f c13 h
        refine r_goto 55 hk (x := 0) dX11_bestSize_47 rfl ?_
        obtain ⟨x3_15, ex3_15, h⟩ := lw_e h
        refine r_iinc 58 [(3, .int x3_15), (4, .int r11), (0, .ref (al 11 0 0)), (1, .int x1), (2, .int x2)] hk (j := 4) dX11_bestSize_55 rfl hn (by decide) rfl ex3_15 rfl ?_
        refine r_goto 28 hk (x := 0) dX11_bestSize_58 rfl ?_
        refine r_sub [2, 3, 4, 0] rfl ?_
        exact ih _ _ _ _ h
set_option maxRecDepth 100000 in
set_option maxHeartbeats 4000000 in
theorem kX11_bestSize {l : Launch} {G : Gx} {al : Al} {w : Wd} {r : Int32} {wz : Wd} (hN : NX G) (h : fX11_bestSize (gN G 10) w = some (r, wz)) : MC l G yX11_bestSize cX11_bestSize 5 (some (.int)) 9 201 al w [.ref (al 11 0 0)] (some (.int r)) wz := by
  refine mc_of [(0, .ref (al 11 0 0))] (by decide) (Nat.le_of_ble_eq_true rfl) rfl ?_
  intro K hk hR hn hl hG
  subst hl; subst hG
  have hk : VH K RX11 cX11_bestSize 9 201 := hk
  rw [fX11_bestSize.eq_1] at h
  refine r_aload_n 1 hk dX11_bestSize_0 rfl 0 rfl rfl ?_
  refine r_iconst 2 hk dX11_bestSize_1 rfl ci_0 ?_
  obtain ⟨w1, ew1, h⟩ := lw_e h
  refine r_putI 5 w1 hk dX11_bestSize_2 rfl ff_RX11_45 fi_11_0 (mk_11_0 (nx_11 hN (j := 0) (by decide))) ew1 ?_
  refine r_aload_n 6 hk dX11_bestSize_5 rfl 0 rfl rfl ?_
  refine r_get 9 hk dX11_bestSize_6 rfl ff_RX11_260 (mk_11_0 (nx_11 hN (j := 0) (by decide))) (gv_11_3 _ _ _) ?_
  by_cases c2 : (w1 11 0).2.2.1 3 = 0
  · have h := if_t c2 h
    refine r_pv0 c2 ?_
    refine r_ifnonnull0 12 hk dX11_bestSize_9 rfl ?_
    refine r_aload_n 13 hk dX11_bestSize_12 rfl 0 rfl rfl ?_
    refine r_iconst 14 hk dX11_bestSize_13 rfl ci_1 ?_
    obtain ⟨r3, w4, ew4, h⟩ := ob_e h
    refine r_cVi 17 (As := [.int 1]) (rest := []) hk (kX11_refused hN ew4) cf_RX11_51 mi_X11_refused ⟨TX11, 36, rfl⟩ dX11_bestSize_14 rfl (Nat.le_of_ble_eq_true rfl) (Nat.le_of_ble_eq_true rfl) (mk_11_0 (nx_11 hN (j := 0) (by decide))) rfl rfl (Nat.le_of_ble_eq_true rfl) ?_
    exact r_iret hk hR dX11_bestSize_17 h
  · have h := if_f c2 h
    obtain ⟨q7, eq7⟩ := Nat.exists_eq_succ_of_ne_zero c2
    refine r_pv1 eq7 ?_
    refine r_ifnonnull1 18 hk dX11_bestSize_9 rfl ?_
    refine r_iconst 19 hk dX11_bestSize_18 rfl ci_2 ?_
    refine r_istore_n 20 [(1, .int 2), (0, .ref (al 11 0 0))] hk dX11_bestSize_19 rfl rfl hn (by decide) rfl rfl ?_
    refine r_aload_n 21 hk dX11_bestSize_20 rfl 1 rfl rfl ?_
    refine r_iconst 22 hk dX11_bestSize_21 rfl ci_2 ?_
    obtain ⟨r5, w6, ew6, h⟩ := ob_e h
    refine r_cVi 25 (As := [.int 2]) (rest := []) hk (kX11_writesBySize hN ew6) cf_RX11_403 mi_X11_writesBySize ⟨TX11, 36, rfl⟩ dX11_bestSize_22 rfl (Nat.le_of_ble_eq_true rfl) (Nat.le_of_ble_eq_true rfl) (mk_11_0 (nx_11 hN (j := 0) (by decide))) rfl rfl (Nat.le_of_ble_eq_true rfl) ?_
    refine r_istore_n 26 [(2, .int r5), (1, .int 2), (0, .ref (al 11 0 0))] hk dX11_bestSize_25 rfl rfl hn (by decide) rfl rfl ?_
    refine r_iconst 27 hk dX11_bestSize_26 rfl ci_3 ?_
    refine r_istore_n 28 [(3, .int 3), (2, .int r5), (1, .int 2), (0, .ref (al 11 0 0))] hk dX11_bestSize_27 rfl rfl hn (by decide) rfl rfl ?_
    refine r_sub [3, 2, 1, 0] rfl ?_
    exact sX11_bestSize_28 hk hR hn hN _ _ _ _ _ h
def fX11_cleansByLog (nd : Nat) (w : Wd) (x1 : Int32) : Option (Int32 × Wd) :=
  ob (fX11_asTold nd w ) fun _ w2 =>
  lw (sI w2 11 0 24 (x1)) fun w3 =>
  ob (fX11_goes nd w3 (0)) fun _ w5 =>
  some (((w5 11 0).1 25), w5)
set_option maxRecDepth 100000 in
set_option maxHeartbeats 4000000 in
theorem kX11_cleansByLog {l : Launch} {G : Gx} {al : Al} {w : Wd} {x1 : Int32} {r : Int32} {wz : Wd} (hN : NX G) (h : fX11_cleansByLog (gN G 10) w x1 = some (r, wz)) : MC l G yX11_cleansByLog cX11_cleansByLog 2 (some (.int)) 8 180 al w [.ref (al 11 0 0), .int x1] (some (.int r)) wz := by
  refine mc_of [(0, .ref (al 11 0 0)), (1, .int x1)] (by decide) (Nat.le_of_ble_eq_true rfl) rfl ?_
  intro K hk hR hn hl hG
  subst hl; subst hG
  have hk : VH K RX11 cX11_cleansByLog 8 180 := hk
  rw [fX11_cleansByLog.eq_1] at h
  refine r_aload_n 1 hk dX11_cleansByLog_0 rfl 0 rfl rfl ?_
  obtain ⟨r1, w2, ew2, h⟩ := ob_e h
  refine r_cVv 4 (As := []) (rest := []) hk (kX11_asTold hN ew2) cf_RX11_262 mi_X11_asTold ⟨TX11, 36, rfl⟩ dX11_cleansByLog_1 rfl (Nat.le_of_ble_eq_true rfl) (Nat.le_of_ble_eq_true rfl) (mk_11_0 (nx_11 hN (j := 0) (by decide))) rfl rfl (Nat.le_of_ble_eq_true rfl) ?_
  refine r_aload_n 5 hk dX11_cleansByLog_4 rfl 0 rfl rfl ?_
  refine r_iload_n 6 hk dX11_cleansByLog_5 rfl 1 rfl rfl ?_
  obtain ⟨w3, ew3, h⟩ := lw_e h
  refine r_putI 9 w3 hk dX11_cleansByLog_6 rfl ff_RX11_275 fi_11_24 (mk_11_0 (nx_11 hN (j := 0) (by decide))) ew3 ?_
  refine r_aload_n 10 hk dX11_cleansByLog_9 rfl 0 rfl rfl ?_
  refine r_iconst 11 hk dX11_cleansByLog_10 rfl ci_0 ?_
  obtain ⟨r4, w5, ew5, h⟩ := ob_e h
  refine r_cVv 14 (As := [.int 0]) (rest := []) hk (kX11_goes hN ew5) cf_RX11_391 mi_X11_goes ⟨TX11, 36, rfl⟩ dX11_cleansByLog_11 rfl (Nat.le_of_ble_eq_true rfl) (Nat.le_of_ble_eq_true rfl) (mk_11_0 (nx_11 hN (j := 0) (by decide))) rfl rfl (Nat.le_of_ble_eq_true rfl) ?_
  refine r_aload_n 15 hk dX11_cleansByLog_14 rfl 0 rfl rfl ?_
  refine r_get 18 hk dX11_cleansByLog_15 rfl ff_RX11_278 (mk_11_0 (nx_11 hN (j := 0) (by decide))) (gv_11_25 _ _ _) ?_
  exact r_iret hk hR dX11_cleansByLog_18 h
def fX11_byLog (nd : Nat) (w : Wd) (x1 : Int32) : Option (Int32 × Wd) :=
  lw (sI w 11 0 0 (0)) fun w1 =>
  if (w1 11 0).2.2.1 3 = 0 then
    ob (fX11_refused nd w1 (1)) fun r3 w4 =>
    some (r3, w4)
  else
    ob (fX11_in nd w1 (x1) (2) (24)) fun r5 w6 =>
    if (r5 : Int32) = 0 then
      ob (fX11_refused nd w6 (2)) fun r12 w13 =>
      some (r12, w13)
    else
      ob (fX11_cleansByLog nd w6 (x1)) fun r8 w9 =>
      ob (fX11_good nd w9 (r8)) fun r10 w11 =>
      some (r10, w11)
set_option maxRecDepth 100000 in
set_option maxHeartbeats 4000000 in
theorem kX11_byLog {l : Launch} {G : Gx} {al : Al} {w : Wd} {x1 : Int32} {r : Int32} {wz : Wd} (hN : NX G) (h : fX11_byLog (gN G 10) w x1 = some (r, wz)) : MC l G yX11_byLog cX11_byLog 2 (some (.int)) 9 201 al w [.ref (al 11 0 0), .int x1] (some (.int r)) wz := by
  refine mc_of [(0, .ref (al 11 0 0)), (1, .int x1)] (by decide) (Nat.le_of_ble_eq_true rfl) rfl ?_
  intro K hk hR hn hl hG
  subst hl; subst hG
  have hk : VH K RX11 cX11_byLog 9 201 := hk
  rw [fX11_byLog.eq_1] at h
  refine r_aload_n 1 hk dX11_byLog_0 rfl 0 rfl rfl ?_
  refine r_iconst 2 hk dX11_byLog_1 rfl ci_0 ?_
  obtain ⟨w1, ew1, h⟩ := lw_e h
  refine r_putI 5 w1 hk dX11_byLog_2 rfl ff_RX11_45 fi_11_0 (mk_11_0 (nx_11 hN (j := 0) (by decide))) ew1 ?_
  refine r_aload_n 6 hk dX11_byLog_5 rfl 0 rfl rfl ?_
  refine r_get 9 hk dX11_byLog_6 rfl ff_RX11_260 (mk_11_0 (nx_11 hN (j := 0) (by decide))) (gv_11_3 _ _ _) ?_
  by_cases c2 : (w1 11 0).2.2.1 3 = 0
  · have h := if_t c2 h
    refine r_pv0 c2 ?_
    refine r_ifnonnull0 12 hk dX11_byLog_9 rfl ?_
    refine r_aload_n 13 hk dX11_byLog_12 rfl 0 rfl rfl ?_
    refine r_iconst 14 hk dX11_byLog_13 rfl ci_1 ?_
    obtain ⟨r3, w4, ew4, h⟩ := ob_e h
    refine r_cVi 17 (As := [.int 1]) (rest := []) hk (kX11_refused hN ew4) cf_RX11_51 mi_X11_refused ⟨TX11, 36, rfl⟩ dX11_byLog_14 rfl (Nat.le_of_ble_eq_true rfl) (Nat.le_of_ble_eq_true rfl) (mk_11_0 (nx_11 hN (j := 0) (by decide))) rfl rfl (Nat.le_of_ble_eq_true rfl) ?_
    exact r_iret hk hR dX11_byLog_17 h
  · have h := if_f c2 h
    obtain ⟨q14, eq14⟩ := Nat.exists_eq_succ_of_ne_zero c2
    refine r_pv1 eq14 ?_
    refine r_ifnonnull1 18 hk dX11_byLog_9 rfl ?_
    refine r_iload_n 19 hk dX11_byLog_18 rfl 1 rfl rfl ?_
    refine r_iconst 20 hk dX11_byLog_19 rfl ci_2 ?_
    refine r_bipush 22 hk dX11_byLog_20 rfl cb_24 ?_
    obtain ⟨r5, w6, ew6, h⟩ := ob_e h
    refine r_cSi 25 (As := [.int x1, .int 2, .int 24]) (rest := []) hk (kX11_in hN ew6) cf_RX11_124 ms_X11_in dX11_byLog_22 rfl (Nat.le_of_ble_eq_true rfl) (Nat.le_of_ble_eq_true rfl) rfl rfl (Nat.le_of_ble_eq_true rfl) ?_
    refine r_if_ne 34 28 hk dX11_byLog_25 rfl rfl (fun c7 => ?_) (fun c7 => ?_)
    · have h := if_f c7 h
      refine r_aload_n 35 hk dX11_byLog_34 rfl 0 rfl rfl ?_
      refine r_aload_n 36 hk dX11_byLog_35 rfl 0 rfl rfl ?_
      refine r_iload_n 37 hk dX11_byLog_36 rfl 1 rfl rfl ?_
      obtain ⟨r8, w9, ew9, h⟩ := ob_e h
      refine r_cVi 40 (As := [.int x1]) (rest := [.ref (al 11 0 0)]) hk (kX11_cleansByLog hN ew9) cf_RX11_406 mi_X11_cleansByLog ⟨TX11, 36, rfl⟩ dX11_byLog_37 rfl (Nat.le_of_ble_eq_true rfl) (Nat.le_of_ble_eq_true rfl) (mk_11_0 (nx_11 hN (j := 0) (by decide))) rfl rfl (Nat.le_of_ble_eq_true rfl) ?_
      obtain ⟨r10, w11, ew11, h⟩ := ob_e h
      refine r_cVi 43 (As := [.int r8]) (rest := []) hk (kX11_good hN ew11) cf_RX11_55 mi_X11_good ⟨TX11, 36, rfl⟩ dX11_byLog_40 rfl (Nat.le_of_ble_eq_true rfl) (Nat.le_of_ble_eq_true rfl) (mk_11_0 (nx_11 hN (j := 0) (by decide))) rfl rfl (Nat.le_of_ble_eq_true rfl) ?_
      exact r_iret hk hR dX11_byLog_43 h
    · have h := if_t c7 h
      refine r_aload_n 29 hk dX11_byLog_28 rfl 0 rfl rfl ?_
      refine r_iconst 30 hk dX11_byLog_29 rfl ci_2 ?_
      obtain ⟨r12, w13, ew13, h⟩ := ob_e h
      refine r_cVi 33 (As := [.int 2]) (rest := []) hk (kX11_refused hN ew13) cf_RX11_51 mi_X11_refused ⟨TX11, 36, rfl⟩ dX11_byLog_30 rfl (Nat.le_of_ble_eq_true rfl) (Nat.le_of_ble_eq_true rfl) (mk_11_0 (nx_11 hN (j := 0) (by decide))) rfl rfl (Nat.le_of_ble_eq_true rfl) ?_
      exact r_iret hk hR dX11_byLog_33 h
def fX11_logFor_36 (nd : Nat) : Nat → Wd → Int32 → Int32 → Option (Int32 × Wd)
  | 0, _, _, _ => none
  | n + 1, w, x1, x2 =>
    if (24 : Int32) < x2 then
      ob (fX11_good nd w ((-2))) fun r12 w13 =>
      some (r12, w13)
    else
      ob (fX11_cleansByLog nd w (x2)) fun r14 w15 =>
      if (x1 : Int32) < r14 then
        lw (x2 + 1) fun x2_17 =>
        fX11_logFor_36 nd n w15 (x1) (x2_17)
      else
        ob (fX11_good nd w15 (x2)) fun r18 w19 =>
        some (r18, w19)
def fX11_logFor (nd : Nat) (w : Wd) (x1 : Int32) : Option (Int32 × Wd) :=
  lw (sI w 11 0 0 (0)) fun w1 =>
  if (w1 11 0).2.2.1 3 = 0 then
    ob (fX11_refused nd w1 (1)) fun r3 w4 =>
    some (r3, w4)
  else
    ob (fX11_in nd w1 (x1) (0) (16)) fun r5 w6 =>
    if (r5 : Int32) = 0 then
      ob (fX11_refused nd w6 (2)) fun r8 w9 =>
      some (r8, w9)
    else
      fX11_logFor_36 nd fuel0 w6 (x1) (2)
set_option maxRecDepth 100000 in
set_option maxHeartbeats 4000000 in
theorem sX11_logFor_36 {K : VC} {al : Al} {r : Int32} {wz : Wd}  (hk : VH K RX11 cX11_logFor 9 201) (hR : VR K al (some (.int)) (some (.int r)) wz) (hn : kn K = 3) (hN : NX (kG K)) : ∀ (n : Nat) (w : Wd) (x1 : Int32) (x2 : Int32), fX11_logFor_36 (gN (kG K) 10) n w x1 x2 = some (r, wz) → V K al w 36 [(0, .ref (al 11 0 0)), (1, .int x1), (2, .int x2)] [] := by
  intro n
  induction n with
  | zero => intro w x1 x2 h; cases h
  | succ n ih =>
    intro w x1 x2 h
    rw [fX11_logFor_36.eq_2] at h
    refine r_iload_n 37 hk dX11_logFor_36 rfl 2 rfl rfl ?_
    refine r_bipush 39 hk dX11_logFor_37 rfl cb_24 ?_
    refine r_icmp_gt 63 42 hk dX11_logFor_39 rfl rfl (fun c11 => ?_) (fun c11 => ?_)
    · have h := if_t c11 h
      refine r_aload_n 64 hk dX11_logFor_63 rfl 0 rfl rfl ?_
      refine r_bipush 66 hk dX11_logFor_64 rfl cb_m2 ?_
      obtain ⟨r12, w13, ew13, h⟩ := ob_e h
      refine r_cVi 69 (As := [.int (-2)]) (rest := []) hk (kX11_good hN ew13) cf_RX11_55 mi_X11_good ⟨TX11, 36, rfl⟩ dX11_logFor_66 rfl (Nat.le_of_ble_eq_true rfl) (Nat.le_of_ble_eq_true rfl) (mk_11_0 (nx_11 hN (j := 0) (by decide))) rfl rfl (Nat.le_of_ble_eq_true rfl) ?_
      exact r_iret hk hR dX11_logFor_69 h
    · have h := if_f c11 h
      refine r_aload_n 43 hk dX11_logFor_42 rfl 0 rfl rfl ?_
      refine r_iload_n 44 hk dX11_logFor_43 rfl 2 rfl rfl ?_
      obtain ⟨r14, w15, ew15, h⟩ := ob_e h
      refine r_cVi 47 (As := [.int x2]) (rest := []) hk (kX11_cleansByLog hN ew15) cf_RX11_406 mi_X11_cleansByLog ⟨TX11, 36, rfl⟩ dX11_logFor_44 rfl (Nat.le_of_ble_eq_true rfl) (Nat.le_of_ble_eq_true rfl) (mk_11_0 (nx_11 hN (j := 0) (by decide))) rfl rfl (Nat.le_of_ble_eq_true rfl) ?_
      refine r_iload_n 48 hk dX11_logFor_47 rfl 1 rfl rfl ?_
      refine r_icmp_gt 57 51 hk dX11_logFor_48 rfl rfl (fun c16 => ?_) (fun c16 => ?_)
      · have h := if_t c16 h
        obtain ⟨x2_17, ex2_17, h⟩ := lw_e h
        refine r_iinc 60 [(2, .int x2_17), (0, .ref (al 11 0 0)), (1, .int x1)] hk (j := 2) dX11_logFor_57 rfl hn (by decide) rfl ex2_17 rfl ?_
        refine r_goto 36 hk (x := 0) dX11_logFor_60 rfl ?_
        refine r_sub [1, 2, 0] rfl ?_
        exact ih _ _ _ h
      · have h := if_f c16 h
        refine r_aload_n 52 hk dX11_logFor_51 rfl 0 rfl rfl ?_
        refine r_iload_n 53 hk dX11_logFor_52 rfl 2 rfl rfl ?_
        obtain ⟨r18, w19, ew19, h⟩ := ob_e h
        refine r_cVi 56 (As := [.int x2]) (rest := []) hk (kX11_good hN ew19) cf_RX11_55 mi_X11_good ⟨TX11, 36, rfl⟩ dX11_logFor_53 rfl (Nat.le_of_ble_eq_true rfl) (Nat.le_of_ble_eq_true rfl) (mk_11_0 (nx_11 hN (j := 0) (by decide))) rfl rfl (Nat.le_of_ble_eq_true rfl) ?_
        exact r_iret hk hR dX11_logFor_56 h
set_option maxRecDepth 100000 in
set_option maxHeartbeats 4000000 in
theorem kX11_logFor {l : Launch} {G : Gx} {al : Al} {w : Wd} {x1 : Int32} {r : Int32} {wz : Wd} (hN : NX G) (h : fX11_logFor (gN G 10) w x1 = some (r, wz)) : MC l G yX11_logFor cX11_logFor 3 (some (.int)) 9 201 al w [.ref (al 11 0 0), .int x1] (some (.int r)) wz := by
  refine mc_of [(0, .ref (al 11 0 0)), (1, .int x1)] (by decide) (Nat.le_of_ble_eq_true rfl) rfl ?_
  intro K hk hR hn hl hG
  subst hl; subst hG
  have hk : VH K RX11 cX11_logFor 9 201 := hk
  rw [fX11_logFor.eq_1] at h
  refine r_aload_n 1 hk dX11_logFor_0 rfl 0 rfl rfl ?_
  refine r_iconst 2 hk dX11_logFor_1 rfl ci_0 ?_
  obtain ⟨w1, ew1, h⟩ := lw_e h
  refine r_putI 5 w1 hk dX11_logFor_2 rfl ff_RX11_45 fi_11_0 (mk_11_0 (nx_11 hN (j := 0) (by decide))) ew1 ?_
  refine r_aload_n 6 hk dX11_logFor_5 rfl 0 rfl rfl ?_
  refine r_get 9 hk dX11_logFor_6 rfl ff_RX11_260 (mk_11_0 (nx_11 hN (j := 0) (by decide))) (gv_11_3 _ _ _) ?_
  by_cases c2 : (w1 11 0).2.2.1 3 = 0
  · have h := if_t c2 h
    refine r_pv0 c2 ?_
    refine r_ifnonnull0 12 hk dX11_logFor_9 rfl ?_
    refine r_aload_n 13 hk dX11_logFor_12 rfl 0 rfl rfl ?_
    refine r_iconst 14 hk dX11_logFor_13 rfl ci_1 ?_
    obtain ⟨r3, w4, ew4, h⟩ := ob_e h
    refine r_cVi 17 (As := [.int 1]) (rest := []) hk (kX11_refused hN ew4) cf_RX11_51 mi_X11_refused ⟨TX11, 36, rfl⟩ dX11_logFor_14 rfl (Nat.le_of_ble_eq_true rfl) (Nat.le_of_ble_eq_true rfl) (mk_11_0 (nx_11 hN (j := 0) (by decide))) rfl rfl (Nat.le_of_ble_eq_true rfl) ?_
    exact r_iret hk hR dX11_logFor_17 h
  · have h := if_f c2 h
    obtain ⟨q10, eq10⟩ := Nat.exists_eq_succ_of_ne_zero c2
    refine r_pv1 eq10 ?_
    refine r_ifnonnull1 18 hk dX11_logFor_9 rfl ?_
    refine r_iload_n 19 hk dX11_logFor_18 rfl 1 rfl rfl ?_
    refine r_iconst 20 hk dX11_logFor_19 rfl ci_0 ?_
    refine r_bipush 22 hk dX11_logFor_20 rfl cb_16 ?_
    obtain ⟨r5, w6, ew6, h⟩ := ob_e h
    refine r_cSi 25 (As := [.int x1, .int 0, .int 16]) (rest := []) hk (kX11_in hN ew6) cf_RX11_124 ms_X11_in dX11_logFor_22 rfl (Nat.le_of_ble_eq_true rfl) (Nat.le_of_ble_eq_true rfl) rfl rfl (Nat.le_of_ble_eq_true rfl) ?_
    refine r_if_ne 34 28 hk dX11_logFor_25 rfl rfl (fun c7 => ?_) (fun c7 => ?_)
    · have h := if_f c7 h
      refine r_iconst 35 hk dX11_logFor_34 rfl ci_2 ?_
      refine r_istore_n 36 [(2, .int 2), (0, .ref (al 11 0 0)), (1, .int x1)] hk dX11_logFor_35 rfl rfl hn (by decide) rfl rfl ?_
      refine r_sub [1, 2, 0] rfl ?_
      exact sX11_logFor_36 hk hR hn hN _ _ _ _ h
    · have h := if_t c7 h
      refine r_aload_n 29 hk dX11_logFor_28 rfl 0 rfl rfl ?_
      refine r_iconst 30 hk dX11_logFor_29 rfl ci_2 ?_
      obtain ⟨r8, w9, ew9, h⟩ := ob_e h
      refine r_cVi 33 (As := [.int 2]) (rest := []) hk (kX11_refused hN ew9) cf_RX11_51 mi_X11_refused ⟨TX11, 36, rfl⟩ dX11_logFor_30 rfl (Nat.le_of_ble_eq_true rfl) (Nat.le_of_ble_eq_true rfl) (mk_11_0 (nx_11 hN (j := 0) (by decide))) rfl rfl (Nat.le_of_ble_eq_true rfl) ?_
      exact r_iret hk hR dX11_logFor_33 h
def fX11_wrongRead_11 (nd : Nat) : Nat → Wd → Int32 → Option (Int32 × Wd)
  | 0, _, _ => none
  | n + 1, w, x2 =>
    ckp ((w 11 0).2.2.1 3) nd fun q5 =>
    if (((w 10 q5).1 7) : Int32) ≤ x2 then
      some ((-2), w)
    else
      ckp ((w 11 0).2.2.1 3) nd fun q7 =>
      ck (inb (x2) 6) <|
      ob (fX11_readOf nd w (((w 10 q7).2.1 15 (x2 : Int32).toNatClampNeg))) fun r9 w10 =>
      ckp ((w10 11 0).2.2.1 3) nd fun q11 =>
      ck (inb (x2) 6) <|
      if (r9 : Int32) = ((w10 10 q11).2.1 16 (x2 : Int32).toNatClampNeg) then
        lw (x2 + 1) fun x2_14 =>
        fX11_wrongRead_11 nd n w10 (x2_14)
      else
        some (x2, w10)
def fX11_wrongRead (nd : Nat) (w : Wd) (x1 : Int32) : Option (Int32 × Wd) :=
  ob (fX11_asTold nd w ) fun _ w2 =>
  ob (fX11_goes nd w2 (x1)) fun _ w4 =>
  fX11_wrongRead_11 nd fuel0 w4 (0)
set_option maxRecDepth 100000 in
set_option maxHeartbeats 4000000 in
theorem sX11_wrongRead_11 {K : VC} {al : Al} {r : Int32} {wz : Wd}  (hk : VH K RX11 cX11_wrongRead 8 180) (hR : VR K al (some (.int)) (some (.int r)) wz) (hn : kn K = 3) (hN : NX (kG K)) : ∀ (n : Nat) (w : Wd) (x2 : Int32), fX11_wrongRead_11 (gN (kG K) 10) n w x2 = some (r, wz) → V K al w 11 [(0, .ref (al 11 0 0)), (2, .int x2)] [] := by
  intro n
  induction n with
  | zero => intro w x2 h; cases h
  | succ n ih =>
    intro w x2 h
    rw [fX11_wrongRead_11.eq_2] at h
    refine r_iload_n 12 hk dX11_wrongRead_11 rfl 1 rfl rfl ?_
    refine r_aload_n 13 hk dX11_wrongRead_12 rfl 0 rfl rfl ?_
    refine r_get 16 hk dX11_wrongRead_13 rfl ff_RX11_260 (mk_11_0 (nx_11 hN (j := 0) (by decide))) (gv_11_3 _ _ _) ?_
    obtain ⟨q5, eq5, lq5, h⟩ := ckp_e h
    refine r_pv1 eq5 ?_
    refine r_get 19 hk dX11_wrongRead_16 rfl ff_RX11_245 (mk_10_0 lq5) (gv_10_7 _ _ _) ?_
    refine r_icmp_ge 55 22 hk dX11_wrongRead_19 rfl rfl (fun c6 => ?_) (fun c6 => ?_)
    · have h := if_t c6 h
      refine r_bipush 57 hk dX11_wrongRead_55 rfl cb_m2 ?_
      exact r_iret hk hR dX11_wrongRead_57 h
    · have h := if_f c6 h
      refine r_aload_n 23 hk dX11_wrongRead_22 rfl 0 rfl rfl ?_
      refine r_aload_n 24 hk dX11_wrongRead_23 rfl 0 rfl rfl ?_
      refine r_get 27 hk dX11_wrongRead_24 rfl ff_RX11_260 (mk_11_0 (nx_11 hN (j := 0) (by decide))) (gv_11_3 _ _ _) ?_
      obtain ⟨q7, eq7, lq7, h⟩ := ckp_e h
      refine r_pv1 eq7 ?_
      refine r_get 30 hk dX11_wrongRead_27 rfl ff_RX11_248 (mk_10_0 lq7) (gv_10_15 _ _ _) ?_
      refine r_iload_n 31 hk dX11_wrongRead_30 rfl 1 rfl rfl ?_
      obtain ⟨b8, h⟩ := ck_e h
      refine r_iald 32 hk dX11_wrongRead_31 rfl rfl (mk_10_16 lq7) rfl b8 ?_
      obtain ⟨r9, w10, ew10, h⟩ := ob_e h
      refine r_cVi 35 (As := [.int (((w 10 q7).2.1 15 (x2 : Int32).toNatClampNeg))]) (rest := []) hk (kX11_readOf hN ew10) cf_RX11_316 mi_X11_readOf ⟨TX11, 36, rfl⟩ dX11_wrongRead_32 rfl (Nat.le_of_ble_eq_true rfl) (Nat.le_of_ble_eq_true rfl) (mk_11_0 (nx_11 hN (j := 0) (by decide))) rfl rfl (Nat.le_of_ble_eq_true rfl) ?_
      refine r_aload_n 36 hk dX11_wrongRead_35 rfl 0 rfl rfl ?_
      refine r_get 39 hk dX11_wrongRead_36 rfl ff_RX11_260 (mk_11_0 (nx_11 hN (j := 0) (by decide))) (gv_11_3 _ _ _) ?_
      obtain ⟨q11, eq11, lq11, h⟩ := ckp_e h
      refine r_pv1 eq11 ?_
      refine r_get 42 hk dX11_wrongRead_39 rfl ff_RX11_250 (mk_10_0 lq11) (gv_10_16 _ _ _) ?_
      refine r_iload_n 43 hk dX11_wrongRead_42 rfl 1 rfl rfl ?_
      obtain ⟨b12, h⟩ := ck_e h
      refine r_iald 44 hk dX11_wrongRead_43 rfl rfl (mk_10_17 lq11) rfl b12 ?_
      refine r_icmp_eq 49 47 hk dX11_wrongRead_44 rfl rfl (fun c13 => ?_) (fun c13 => ?_)
      · have h := if_t c13 h
        obtain ⟨x2_14, ex2_14, h⟩ := lw_e h
        refine r_iinc 52 [(2, .int x2_14), (0, .ref (al 11 0 0))] hk (j := 1) dX11_wrongRead_49 rfl hn (by decide) rfl ex2_14 rfl ?_
        refine r_goto 11 hk (x := 0) dX11_wrongRead_52 rfl ?_
        refine r_sub [1, 0] rfl ?_
        exact ih _ _ h
      · have h := if_f c13 h
        refine r_iload_n 48 hk dX11_wrongRead_47 rfl 1 rfl rfl ?_
        exact r_iret hk hR dX11_wrongRead_48 h
set_option maxRecDepth 100000 in
set_option maxHeartbeats 4000000 in
theorem kX11_wrongRead {l : Launch} {G : Gx} {al : Al} {w : Wd} {x1 : Int32} {r : Int32} {wz : Wd} (hN : NX G) (h : fX11_wrongRead (gN G 10) w x1 = some (r, wz)) : MC l G yX11_wrongRead cX11_wrongRead 3 (some (.int)) 8 180 al w [.ref (al 11 0 0), .int x1] (some (.int r)) wz := by
  refine mc_of [(0, .ref (al 11 0 0)), (1, .int x1)] (by decide) (Nat.le_of_ble_eq_true rfl) rfl ?_
  intro K hk hR hn hl hG
  subst hl; subst hG
  have hk : VH K RX11 cX11_wrongRead 8 180 := hk
  rw [fX11_wrongRead.eq_1] at h
  refine r_aload_n 1 hk dX11_wrongRead_0 rfl 0 rfl rfl ?_
  obtain ⟨r1, w2, ew2, h⟩ := ob_e h
  refine r_cVv 4 (As := []) (rest := []) hk (kX11_asTold hN ew2) cf_RX11_262 mi_X11_asTold ⟨TX11, 36, rfl⟩ dX11_wrongRead_1 rfl (Nat.le_of_ble_eq_true rfl) (Nat.le_of_ble_eq_true rfl) (mk_11_0 (nx_11 hN (j := 0) (by decide))) rfl rfl (Nat.le_of_ble_eq_true rfl) ?_
  refine r_aload_n 5 hk dX11_wrongRead_4 rfl 0 rfl rfl ?_
  refine r_iload_n 6 hk dX11_wrongRead_5 rfl 1 rfl rfl ?_
  obtain ⟨r3, w4, ew4, h⟩ := ob_e h
  refine r_cVv 9 (As := [.int x1]) (rest := []) hk (kX11_goes hN ew4) cf_RX11_391 mi_X11_goes ⟨TX11, 36, rfl⟩ dX11_wrongRead_6 rfl (Nat.le_of_ble_eq_true rfl) (Nat.le_of_ble_eq_true rfl) (mk_11_0 (nx_11 hN (j := 0) (by decide))) rfl rfl (Nat.le_of_ble_eq_true rfl) ?_
  refine r_iconst 10 hk dX11_wrongRead_9 rfl ci_0 ?_
  refine r_istore_n 11 [(2, .int 0), (0, .ref (al 11 0 0)), (1, .int x1)] hk dX11_wrongRead_10 rfl rfl hn (by decide) rfl rfl ?_
  refine r_sub [1, 0] rfl ?_
  exact sX11_wrongRead_11 hk hR hn hN _ _ _ h
def fX11_fitting_118 (k49 : Wd → Int32 → Int32 → Int32 → Option (Int32 × Wd)) (nd : Nat) : Nat → Wd → Int32 → Int32 → Int32 → Int32 → Option (Int32 × Wd)
  | 0, _, _, _, _, _ => none
  | n + 1, w, x1, x2, x3, x4 =>
    ckp ((w 11 0).2.2.1 3) nd fun q21 =>
    if (((w 10 q21).1 6) : Int32) ≤ x4 then
      lw (x3 + 1) fun x3_23 =>
      k49 w (x1) (x2) (x3_23)
    else
      ck (inb (x4) 4) <|
      ob (fX11_bit nd w (x3) (x4)) fun r25 w26 =>
      if (r25 : Int32) = 0 then
        ck (inb (x4) 4) <|
        lw (sA w26 11 0 32 (x4 : Int32).toNatClampNeg ((((w 11 0).2.1 32 (x4 : Int32).toNatClampNeg) + 0))) fun w29 =>
        lw (x4 + 1) fun x4_30 =>
        fX11_fitting_118 k49 nd n w29 (x1) (x2) (x3) (x4_30)
      else
        ck (inb (x4) 4) <|
        lw (sA w26 11 0 32 (x4 : Int32).toNatClampNeg ((((w 11 0).2.1 32 (x4 : Int32).toNatClampNeg) + 1))) fun w32 =>
        lw (x4 + 1) fun x4_33 =>
        fX11_fitting_118 k49 nd n w32 (x1) (x2) (x3) (x4_33)
def fX11_fitting_85 (k49 : Wd → Int32 → Int32 → Int32 → Option (Int32 × Wd)) (nd : Nat) (w : Wd) (x1 : Int32) (x2 : Int32) (x3 : Int32) : Option (Int32 × Wd) :=
    lw (sI w 11 0 29 ((((w 11 0).1 29) + 1))) fun w18 =>
    lw (sI w18 11 0 30 ((((w18 11 0).1 30) ||| x3))) fun w19 =>
    lw (sI w19 11 0 31 ((((w19 11 0).1 31) &&& x3))) fun w20 =>
    fX11_fitting_118 (k49) nd fuel0 w20 (x1) (x2) (x3) (0)
def fX11_fitting_49 (nd : Nat) : Nat → Wd → Int32 → Int32 → Int32 → Option (Int32 × Wd)
  | 0, _, _, _, _ => none
  | n + 1, w, x1, x2, x3 =>
    ckp ((w 11 0).2.2.1 3) nd fun q9 =>
    if ((1 <<< (((w 10 q9).1 6) &&& 31)) : Int32) ≤ x3 then
      if (((w 11 0).1 29) : Int32) = 0 then
        lw (sI w 11 0 31 (0)) fun w12 =>
        some (x2, w12)
      else
        some (x2, w)
    else
      ob (fX11_wrongRead nd w (x3)) fun r13 w14 =>
      if (r13 : Int32) = (-2) then
        if (((w14 11 0).1 29) : Int32) = x1 then
          fX11_fitting_85 (fX11_fitting_49 nd n) nd w14 (x1) (x3) (x3)
        else
          fX11_fitting_85 (fX11_fitting_49 nd n) nd w14 (x1) (x2) (x3)
      else
        lw (x3 + 1) fun x3_17 =>
        fX11_fitting_49 nd n w14 (x1) (x2) (x3_17)
def fX11_fitting_29 (nd : Nat) : Nat → Wd → Int32 → Int32 → Int32 → Option (Int32 × Wd)
  | 0, _, _, _, _ => none
  | n + 1, w, x1, x2, x3 =>
    if (4 : Int32) ≤ x3 then
      fX11_fitting_49 nd fuel0 w (x1) (x2) (0)
    else
      ck (inb (x3) 4) <|
      lw (sA w 11 0 32 (x3 : Int32).toNatClampNeg (0)) fun w7 =>
      lw (x3 + 1) fun x3_8 =>
      fX11_fitting_29 nd n w7 (x1) (x2) (x3_8)
def fX11_fitting (nd : Nat) (w : Wd) (x1 : Int32) : Option (Int32 × Wd) :=
  lw (sI w 11 0 29 (0)) fun w1 =>
  lw (sI w1 11 0 30 (0)) fun w2 =>
  ckp ((w2 11 0).2.2.1 3) nd fun q3 =>
  lw (sI w2 11 0 31 (((1 <<< (((w2 10 q3).1 6) &&& 31)) - 1))) fun w4 =>
  fX11_fitting_29 nd fuel0 w4 (x1) ((-1)) (0)
set_option maxRecDepth 100000 in
set_option maxHeartbeats 4000000 in
theorem sX11_fitting_118 {K : VC} {al : Al} {r : Int32} {wz : Wd} {k49 : Wd → Int32 → Int32 → Int32 → Option (Int32 × Wd)} (hc49 : ∀ (w : Wd) (x1 : Int32) (x2 : Int32) (x3 : Int32), k49 w x1 x2 x3 = some (r, wz) → V K al w 49 [(0, .ref (al 11 0 0)), (1, .int x1), (2, .int x2), (3, .int x3)] []) (hk : VH K RX11 cX11_fitting 9 202) (hR : VR K al (some (.int)) (some (.int r)) wz) (hn : kn K = 5) (hN : NX (kG K)) : ∀ (n : Nat) (w : Wd) (x1 : Int32) (x2 : Int32) (x3 : Int32) (x4 : Int32), fX11_fitting_118 k49 (gN (kG K) 10) n w x1 x2 x3 x4 = some (r, wz) → V K al w 118 [(0, .ref (al 11 0 0)), (1, .int x1), (2, .int x2), (3, .int x3), (4, .int x4)] [] := by
  intro n
  induction n with
  | zero => intro w x1 x2 x3 x4 h; cases h
  | succ n ih =>
    intro w x1 x2 x3 x4 h
    rw [fX11_fitting_118.eq_2] at h
    refine r_iload 120 hk dX11_fitting_118 rfl 4 rfl ?_
    refine r_aload_n 121 hk dX11_fitting_120 rfl 0 rfl rfl ?_
    refine r_get 124 hk dX11_fitting_121 rfl ff_RX11_260 (mk_11_0 (nx_11 hN (j := 0) (by decide))) (gv_11_3 _ _ _) ?_
    obtain ⟨q21, eq21, lq21, h⟩ := ckp_e h
    refine r_pv1 eq21 ?_
    refine r_get 127 hk dX11_fitting_124 rfl ff_RX11_233 (mk_10_0 lq21) (gv_10_6 _ _ _) ?_
    refine r_icmp_ge 160 130 hk dX11_fitting_127 rfl rfl (fun c22 => ?_) (fun c22 => ?_)
    · have h := if_t c22 h
      obtain ⟨x3_23, ex3_23, h⟩ := lw_e h
      refine r_iinc 163 [(3, .int x3_23), (0, .ref (al 11 0 0)), (1, .int x1), (2, .int x2), (4, .int x4)] hk (j := 3) dX11_fitting_160 rfl hn (by decide) rfl ex3_23 rfl ?_
      refine r_goto 49 hk (x := 0) dX11_fitting_163 rfl ?_
      refine r_sub [1, 2, 3, 0] rfl ?_
      exact hc49 _ _ _ _ h
    · have h := if_f c22 h
      refine r_aload_n 131 hk dX11_fitting_130 rfl 0 rfl rfl ?_
      refine r_get 134 hk dX11_fitting_131 rfl ff_RX11_42 (mk_11_0 (nx_11 hN (j := 0) (by decide))) (gv_11_32 _ _ _) ?_
      refine r_iload 136 hk dX11_fitting_134 rfl 4 rfl ?_
      refine r_dup2 137 hk dX11_fitting_136 rfl rfl rfl ?_
      obtain ⟨b24, h⟩ := ck_e h
      refine r_iald 138 hk dX11_fitting_137 rfl rfl (mk_11_33 (nx_11 hN (j := 0) (by decide))) rfl b24 ?_
      refine r_iload_n 139 hk dX11_fitting_138 rfl 3 rfl rfl ?_
      refine r_iload 141 hk dX11_fitting_139 rfl 4 rfl ?_
      obtain ⟨r25, w26, ew26, h⟩ := ob_e h
      refine r_cSi 144 (As := [.int x3, .int x4]) (rest := [.int (((w 11 0).2.1 32 (x4 : Int32).toNatClampNeg)), .int x4, .ref (al 11 0 33)]) hk (kX11_bit hN ew26) cf_RX11_388 ms_X11_bit dX11_fitting_141 rfl (Nat.le_of_ble_eq_true rfl) (Nat.le_of_ble_eq_true rfl) rfl rfl (Nat.le_of_ble_eq_true rfl) ?_
      refine r_if_eq 151 147 hk dX11_fitting_144 rfl rfl (fun c27 => ?_) (fun c27 => ?_)
      · have h := if_t c27 h
        refine r_iconst 152 hk dX11_fitting_151 rfl ci_0 ?_
        refine r_iadd 153 hk dX11_fitting_152 rfl ?_
        obtain ⟨b28, h⟩ := ck_e h
        obtain ⟨w29, ew29, h⟩ := lw_e h
        refine r_iast 154 w29 hk dX11_fitting_153 rfl rfl (mk_11_33 (nx_11 hN (j := 0) (by decide))) rfl b28 ew29 ?_
        obtain ⟨x4_30, ex4_30, h⟩ := lw_e h
        refine r_iinc 157 [(4, .int x4_30), (0, .ref (al 11 0 0)), (1, .int x1), (2, .int x2), (3, .int x3)] hk (j := 4) dX11_fitting_154 rfl hn (by decide) rfl ex4_30 rfl ?_
        refine r_goto 118 hk (x := 0) dX11_fitting_157 rfl ?_
        refine r_sub [1, 2, 3, 4, 0] rfl ?_
        exact ih _ _ _ _ _ h
      · have h := if_f c27 h
        refine r_iconst 148 hk dX11_fitting_147 rfl ci_1 ?_
        refine r_goto 152 hk (x := 0) dX11_fitting_148 rfl ?_
        refine r_iadd 153 hk dX11_fitting_152 rfl ?_
        obtain ⟨b31, h⟩ := ck_e h
        obtain ⟨w32, ew32, h⟩ := lw_e h
        refine r_iast 154 w32 hk dX11_fitting_153 rfl rfl (mk_11_33 (nx_11 hN (j := 0) (by decide))) rfl b31 ew32 ?_
        obtain ⟨x4_33, ex4_33, h⟩ := lw_e h
        refine r_iinc 157 [(4, .int x4_33), (0, .ref (al 11 0 0)), (1, .int x1), (2, .int x2), (3, .int x3)] hk (j := 4) dX11_fitting_154 rfl hn (by decide) rfl ex4_33 rfl ?_
        refine r_goto 118 hk (x := 0) dX11_fitting_157 rfl ?_
        refine r_sub [1, 2, 3, 4, 0] rfl ?_
        exact ih _ _ _ _ _ h
set_option maxRecDepth 100000 in
set_option maxHeartbeats 4000000 in
theorem sX11_fitting_85 {K : VC} {al : Al} {r : Int32} {wz : Wd} {k49 : Wd → Int32 → Int32 → Int32 → Option (Int32 × Wd)} (hc49 : ∀ (w : Wd) (x1 : Int32) (x2 : Int32) (x3 : Int32), k49 w x1 x2 x3 = some (r, wz) → V K al w 49 [(0, .ref (al 11 0 0)), (1, .int x1), (2, .int x2), (3, .int x3)] []) (hk : VH K RX11 cX11_fitting 9 202) (hR : VR K al (some (.int)) (some (.int r)) wz) (hn : kn K = 5) (hN : NX (kG K)) (w : Wd) (x1 : Int32) (x2 : Int32) (x3 : Int32) (h : fX11_fitting_85 k49 (gN (kG K) 10) w x1 x2 x3 = some (r, wz)) : V K al w 85 [(0, .ref (al 11 0 0)), (1, .int x1), (2, .int x2), (3, .int x3)] [] := by
  rw [fX11_fitting_85.eq_1] at h
  refine r_aload_n 86 hk dX11_fitting_85 rfl 0 rfl rfl ?_
  refine r_dup 87 hk dX11_fitting_86 rfl rfl ?_
  refine r_get 90 hk dX11_fitting_87 rfl ff_RX11_409 (mk_11_0 (nx_11 hN (j := 0) (by decide))) (gv_11_29 _ _ _) ?_
  refine r_iconst 91 hk dX11_fitting_90 rfl ci_1 ?_
  refine r_iadd 92 hk dX11_fitting_91 rfl ?_
  obtain ⟨w18, ew18, h⟩ := lw_e h
  refine r_putI 95 w18 hk dX11_fitting_92 rfl ff_RX11_409 fi_11_29 (mk_11_0 (nx_11 hN (j := 0) (by decide))) ew18 ?_
  refine r_aload_n 96 hk dX11_fitting_95 rfl 0 rfl rfl ?_
  refine r_dup 97 hk dX11_fitting_96 rfl rfl ?_
  refine r_get 100 hk dX11_fitting_97 rfl ff_RX11_412 (mk_11_0 (nx_11 hN (j := 0) (by decide))) (gv_11_30 _ _ _) ?_
  refine r_iload_n 101 hk dX11_fitting_100 rfl 3 rfl rfl ?_
  refine r_ior 102 hk dX11_fitting_101 rfl ?_
  obtain ⟨w19, ew19, h⟩ := lw_e h
  refine r_putI 105 w19 hk dX11_fitting_102 rfl ff_RX11_412 fi_11_30 (mk_11_0 (nx_11 hN (j := 0) (by decide))) ew19 ?_
  refine r_aload_n 106 hk dX11_fitting_105 rfl 0 rfl rfl ?_
  refine r_dup 107 hk dX11_fitting_106 rfl rfl ?_
  refine r_get 110 hk dX11_fitting_107 rfl ff_RX11_415 (mk_11_0 (nx_11 hN (j := 0) (by decide))) (gv_11_31 _ _ _) ?_
  refine r_iload_n 111 hk dX11_fitting_110 rfl 3 rfl rfl ?_
  refine r_iand 112 hk dX11_fitting_111 rfl ?_
  obtain ⟨w20, ew20, h⟩ := lw_e h
  refine r_putI 115 w20 hk dX11_fitting_112 rfl ff_RX11_415 fi_11_31 (mk_11_0 (nx_11 hN (j := 0) (by decide))) ew20 ?_
  refine r_iconst 116 hk dX11_fitting_115 rfl ci_0 ?_
  refine r_istore 118 [(4, .int 0), (0, .ref (al 11 0 0)), (1, .int x1), (2, .int x2), (3, .int x3)] hk dX11_fitting_116 rfl hn (by decide) rfl rfl ?_
  refine r_sub [1, 2, 3, 4, 0] rfl ?_
  exact sX11_fitting_118 hc49 hk hR hn hN _ _ _ _ _ _ h
set_option maxRecDepth 100000 in
set_option maxHeartbeats 4000000 in
theorem sX11_fitting_49 {K : VC} {al : Al} {r : Int32} {wz : Wd}  (hk : VH K RX11 cX11_fitting 9 202) (hR : VR K al (some (.int)) (some (.int r)) wz) (hn : kn K = 5) (hN : NX (kG K)) : ∀ (n : Nat) (w : Wd) (x1 : Int32) (x2 : Int32) (x3 : Int32), fX11_fitting_49 (gN (kG K) 10) n w x1 x2 x3 = some (r, wz) → V K al w 49 [(0, .ref (al 11 0 0)), (1, .int x1), (2, .int x2), (3, .int x3)] [] := by
  intro n
  induction n with
  | zero => intro w x1 x2 x3 h; cases h
  | succ n ih =>
    intro w x1 x2 x3 h
    rw [fX11_fitting_49.eq_2] at h
    refine r_iload_n 50 hk dX11_fitting_49 rfl 3 rfl rfl ?_
    refine r_iconst 51 hk dX11_fitting_50 rfl ci_1 ?_
    refine r_aload_n 52 hk dX11_fitting_51 rfl 0 rfl rfl ?_
    refine r_get 55 hk dX11_fitting_52 rfl ff_RX11_260 (mk_11_0 (nx_11 hN (j := 0) (by decide))) (gv_11_3 _ _ _) ?_
    obtain ⟨q9, eq9, lq9, h⟩ := ckp_e h
    refine r_pv1 eq9 ?_
    refine r_get 58 hk dX11_fitting_55 rfl ff_RX11_233 (mk_10_0 lq9) (gv_10_6 _ _ _) ?_
    refine r_ishl 59 hk dX11_fitting_58 rfl ?_
    refine r_icmp_ge 166 62 hk dX11_fitting_59 rfl rfl (fun c10 => ?_) (fun c10 => ?_)
    · have h := if_t c10 h
      refine r_aload_n 167 hk dX11_fitting_166 rfl 0 rfl rfl ?_
      refine r_get 170 hk dX11_fitting_167 rfl ff_RX11_409 (mk_11_0 (nx_11 hN (j := 0) (by decide))) (gv_11_29 _ _ _) ?_
      refine r_if_ne 178 173 hk dX11_fitting_170 rfl rfl (fun c11 => ?_) (fun c11 => ?_)
      · have h := if_f c11 h
        refine r_iload_n 179 hk dX11_fitting_178 rfl 2 rfl rfl ?_
        exact r_iret hk hR dX11_fitting_179 h
      · have h := if_t c11 h
        refine r_aload_n 174 hk dX11_fitting_173 rfl 0 rfl rfl ?_
        refine r_iconst 175 hk dX11_fitting_174 rfl ci_0 ?_
        obtain ⟨w12, ew12, h⟩ := lw_e h
        refine r_putI 178 w12 hk dX11_fitting_175 rfl ff_RX11_415 fi_11_31 (mk_11_0 (nx_11 hN (j := 0) (by decide))) ew12 ?_
        refine r_iload_n 179 hk dX11_fitting_178 rfl 2 rfl rfl ?_
        exact r_iret hk hR dX11_fitting_179 h
    · have h := if_f c10 h
      refine r_aload_n 63 hk dX11_fitting_62 rfl 0 rfl rfl ?_
      refine r_iload_n 64 hk dX11_fitting_63 rfl 3 rfl rfl ?_
      obtain ⟨r13, w14, ew14, h⟩ := ob_e h
      refine r_cVi 67 (As := [.int x3]) (rest := []) hk (kX11_wrongRead hN ew14) cf_RX11_418 mi_X11_wrongRead ⟨TX11, 36, rfl⟩ dX11_fitting_64 rfl (Nat.le_of_ble_eq_true rfl) (Nat.le_of_ble_eq_true rfl) (mk_11_0 (nx_11 hN (j := 0) (by decide))) rfl rfl (Nat.le_of_ble_eq_true rfl) ?_
      refine r_bipush 69 hk dX11_fitting_67 rfl cb_m2 ?_
      refine r_icmp_eq 75 72 hk dX11_fitting_69 rfl rfl (fun c15 => ?_) (fun c15 => ?_)
      · have h := if_t c15 h
        refine r_aload_n 76 hk dX11_fitting_75 rfl 0 rfl rfl ?_
        refine r_get 79 hk dX11_fitting_76 rfl ff_RX11_409 (mk_11_0 (nx_11 hN (j := 0) (by decide))) (gv_11_29 _ _ _) ?_
        refine r_iload_n 80 hk dX11_fitting_79 rfl 1 rfl rfl ?_
        refine r_icmp_ne 85 83 hk dX11_fitting_80 rfl rfl (fun c16 => ?_) (fun c16 => ?_)
        · have h := if_f c16 h
          exact sX11_fitting_85 (fun _ _ _ _ h => ih _ _ _ _ h) hk hR hn hN _ _ _ _ h
        · have h := if_t c16 h
          refine r_iload_n 84 hk dX11_fitting_83 rfl 3 rfl rfl ?_
          refine r_istore_n 85 [(2, .int x3), (0, .ref (al 11 0 0)), (1, .int x1), (3, .int x3)] hk dX11_fitting_84 rfl rfl hn (by decide) rfl rfl ?_
          refine r_sub [1, 2, 0, 3] rfl ?_
          exact sX11_fitting_85 (fun _ _ _ _ h => ih _ _ _ _ h) hk hR hn hN _ _ _ _ h
      · have h := if_f c15 h
        refine r_goto 160 hk (x := 0) dX11_fitting_72 rfl ?_
        obtain ⟨x3_17, ex3_17, h⟩ := lw_e h
        refine r_iinc 163 [(3, .int x3_17), (0, .ref (al 11 0 0)), (1, .int x1), (2, .int x2)] hk (j := 3) dX11_fitting_160 rfl hn (by decide) rfl ex3_17 rfl ?_
        refine r_goto 49 hk (x := 0) dX11_fitting_163 rfl ?_
        refine r_sub [1, 2, 3, 0] rfl ?_
        exact ih _ _ _ _ h
set_option maxRecDepth 100000 in
set_option maxHeartbeats 4000000 in
theorem sX11_fitting_29 {K : VC} {al : Al} {r : Int32} {wz : Wd}  (hk : VH K RX11 cX11_fitting 9 202) (hR : VR K al (some (.int)) (some (.int r)) wz) (hn : kn K = 5) (hN : NX (kG K)) : ∀ (n : Nat) (w : Wd) (x1 : Int32) (x2 : Int32) (x3 : Int32), fX11_fitting_29 (gN (kG K) 10) n w x1 x2 x3 = some (r, wz) → V K al w 29 [(0, .ref (al 11 0 0)), (1, .int x1), (2, .int x2), (3, .int x3)] [] := by
  intro n
  induction n with
  | zero => intro w x1 x2 x3 h; cases h
  | succ n ih =>
    intro w x1 x2 x3 h
    rw [fX11_fitting_29.eq_2] at h
    refine r_iload_n 30 hk dX11_fitting_29 rfl 3 rfl rfl ?_
    refine r_iconst 31 hk dX11_fitting_30 rfl ci_4 ?_
    refine r_icmp_ge 47 34 hk dX11_fitting_31 rfl rfl (fun c5 => ?_) (fun c5 => ?_)
    · have h := if_t c5 h
      refine r_iconst 48 hk dX11_fitting_47 rfl ci_0 ?_
      refine r_istore_n 49 [(3, .int 0), (0, .ref (al 11 0 0)), (1, .int x1), (2, .int x2)] hk dX11_fitting_48 rfl rfl hn (by decide) rfl rfl ?_
      refine r_sub [1, 2, 3, 0] rfl ?_
      exact sX11_fitting_49 hk hR hn hN _ _ _ _ _ h
    · have h := if_f c5 h
      refine r_aload_n 35 hk dX11_fitting_34 rfl 0 rfl rfl ?_
      refine r_get 38 hk dX11_fitting_35 rfl ff_RX11_42 (mk_11_0 (nx_11 hN (j := 0) (by decide))) (gv_11_32 _ _ _) ?_
      refine r_iload_n 39 hk dX11_fitting_38 rfl 3 rfl rfl ?_
      refine r_iconst 40 hk dX11_fitting_39 rfl ci_0 ?_
      obtain ⟨b6, h⟩ := ck_e h
      obtain ⟨w7, ew7, h⟩ := lw_e h
      refine r_iast 41 w7 hk dX11_fitting_40 rfl rfl (mk_11_33 (nx_11 hN (j := 0) (by decide))) rfl b6 ew7 ?_
      obtain ⟨x3_8, ex3_8, h⟩ := lw_e h
      refine r_iinc 44 [(3, .int x3_8), (0, .ref (al 11 0 0)), (1, .int x1), (2, .int x2)] hk (j := 3) dX11_fitting_41 rfl hn (by decide) rfl ex3_8 rfl ?_
      refine r_goto 29 hk (x := 0) dX11_fitting_44 rfl ?_
      refine r_sub [1, 2, 3, 0] rfl ?_
      exact ih _ _ _ _ h
set_option maxRecDepth 100000 in
set_option maxHeartbeats 4000000 in
theorem kX11_fitting {l : Launch} {G : Gx} {al : Al} {w : Wd} {x1 : Int32} {r : Int32} {wz : Wd} (hN : NX G) (h : fX11_fitting (gN G 10) w x1 = some (r, wz)) : MC l G yX11_fitting cX11_fitting 5 (some (.int)) 9 202 al w [.ref (al 11 0 0), .int x1] (some (.int r)) wz := by
  refine mc_of [(0, .ref (al 11 0 0)), (1, .int x1)] (by decide) (Nat.le_of_ble_eq_true rfl) rfl ?_
  intro K hk hR hn hl hG
  subst hl; subst hG
  have hk : VH K RX11 cX11_fitting 9 202 := hk
  rw [fX11_fitting.eq_1] at h
  refine r_aload_n 1 hk dX11_fitting_0 rfl 0 rfl rfl ?_
  refine r_iconst 2 hk dX11_fitting_1 rfl ci_0 ?_
  obtain ⟨w1, ew1, h⟩ := lw_e h
  refine r_putI 5 w1 hk dX11_fitting_2 rfl ff_RX11_409 fi_11_29 (mk_11_0 (nx_11 hN (j := 0) (by decide))) ew1 ?_
  refine r_aload_n 6 hk dX11_fitting_5 rfl 0 rfl rfl ?_
  refine r_iconst 7 hk dX11_fitting_6 rfl ci_0 ?_
  obtain ⟨w2, ew2, h⟩ := lw_e h
  refine r_putI 10 w2 hk dX11_fitting_7 rfl ff_RX11_412 fi_11_30 (mk_11_0 (nx_11 hN (j := 0) (by decide))) ew2 ?_
  refine r_aload_n 11 hk dX11_fitting_10 rfl 0 rfl rfl ?_
  refine r_iconst 12 hk dX11_fitting_11 rfl ci_1 ?_
  refine r_aload_n 13 hk dX11_fitting_12 rfl 0 rfl rfl ?_
  refine r_get 16 hk dX11_fitting_13 rfl ff_RX11_260 (mk_11_0 (nx_11 hN (j := 0) (by decide))) (gv_11_3 _ _ _) ?_
  obtain ⟨q3, eq3, lq3, h⟩ := ckp_e h
  refine r_pv1 eq3 ?_
  refine r_get 19 hk dX11_fitting_16 rfl ff_RX11_233 (mk_10_0 lq3) (gv_10_6 _ _ _) ?_
  refine r_ishl 20 hk dX11_fitting_19 rfl ?_
  refine r_iconst 21 hk dX11_fitting_20 rfl ci_1 ?_
  refine r_isub 22 hk dX11_fitting_21 rfl ?_
  obtain ⟨w4, ew4, h⟩ := lw_e h
  refine r_putI 25 w4 hk dX11_fitting_22 rfl ff_RX11_415 fi_11_31 (mk_11_0 (nx_11 hN (j := 0) (by decide))) ew4 ?_
  refine r_iconst 26 hk dX11_fitting_25 rfl ci_m1 ?_
  refine r_istore_n 27 [(2, .int (-1)), (0, .ref (al 11 0 0)), (1, .int x1)] hk dX11_fitting_26 rfl rfl hn (by decide) rfl rfl ?_
  refine r_iconst 28 hk dX11_fitting_27 rfl ci_0 ?_
  refine r_istore_n 29 [(3, .int 0), (2, .int (-1)), (0, .ref (al 11 0 0)), (1, .int x1)] hk dX11_fitting_28 rfl rfl hn (by decide) rfl rfl ?_
  refine r_sub [2, 3, 1, 0] rfl ?_
  exact sX11_fitting_29 hk hR hn hN _ _ _ _ _ h
def fX11_fits (nd : Nat) (w : Wd) : Option (Int32 × Wd) :=
  lw (sI w 11 0 0 (0)) fun w1 =>
  if (w1 11 0).2.2.1 3 = 0 then
    ob (fX11_refused nd w1 (1)) fun r3 w4 =>
    some (r3, w4)
  else
    ob (fX11_fitting nd w1 ((-1))) fun r5 w6 =>
    ob (fX11_good nd w6 (((w6 11 0).1 29))) fun r7 w8 =>
    some (r7, w8)
set_option maxRecDepth 100000 in
set_option maxHeartbeats 4000000 in
theorem kX11_fits {l : Launch} {G : Gx} {al : Al} {w : Wd} {r : Int32} {wz : Wd} (hN : NX G) (h : fX11_fits (gN G 10) w = some (r, wz)) : MC l G yX11_fits cX11_fits 1 (some (.int)) 10 226 al w [.ref (al 11 0 0)] (some (.int r)) wz := by
  refine mc_of [(0, .ref (al 11 0 0))] (by decide) (Nat.le_of_ble_eq_true rfl) rfl ?_
  intro K hk hR hn hl hG
  subst hl; subst hG
  have hk : VH K RX11 cX11_fits 10 226 := hk
  rw [fX11_fits.eq_1] at h
  refine r_aload_n 1 hk dX11_fits_0 rfl 0 rfl rfl ?_
  refine r_iconst 2 hk dX11_fits_1 rfl ci_0 ?_
  obtain ⟨w1, ew1, h⟩ := lw_e h
  refine r_putI 5 w1 hk dX11_fits_2 rfl ff_RX11_45 fi_11_0 (mk_11_0 (nx_11 hN (j := 0) (by decide))) ew1 ?_
  refine r_aload_n 6 hk dX11_fits_5 rfl 0 rfl rfl ?_
  refine r_get 9 hk dX11_fits_6 rfl ff_RX11_260 (mk_11_0 (nx_11 hN (j := 0) (by decide))) (gv_11_3 _ _ _) ?_
  by_cases c2 : (w1 11 0).2.2.1 3 = 0
  · have h := if_t c2 h
    refine r_pv0 c2 ?_
    refine r_ifnonnull0 12 hk dX11_fits_9 rfl ?_
    refine r_aload_n 13 hk dX11_fits_12 rfl 0 rfl rfl ?_
    refine r_iconst 14 hk dX11_fits_13 rfl ci_1 ?_
    obtain ⟨r3, w4, ew4, h⟩ := ob_e h
    refine r_cVi 17 (As := [.int 1]) (rest := []) hk (kX11_refused hN ew4) cf_RX11_51 mi_X11_refused ⟨TX11, 36, rfl⟩ dX11_fits_14 rfl (Nat.le_of_ble_eq_true rfl) (Nat.le_of_ble_eq_true rfl) (mk_11_0 (nx_11 hN (j := 0) (by decide))) rfl rfl (Nat.le_of_ble_eq_true rfl) ?_
    exact r_iret hk hR dX11_fits_17 h
  · have h := if_f c2 h
    obtain ⟨q9, eq9⟩ := Nat.exists_eq_succ_of_ne_zero c2
    refine r_pv1 eq9 ?_
    refine r_ifnonnull1 18 hk dX11_fits_9 rfl ?_
    refine r_aload_n 19 hk dX11_fits_18 rfl 0 rfl rfl ?_
    refine r_iconst 20 hk dX11_fits_19 rfl ci_m1 ?_
    obtain ⟨r5, w6, ew6, h⟩ := ob_e h
    refine r_cVi 23 (As := [.int (-1)]) (rest := []) hk (kX11_fitting hN ew6) cf_RX11_421 mi_X11_fitting ⟨TX11, 36, rfl⟩ dX11_fits_20 rfl (Nat.le_of_ble_eq_true rfl) (Nat.le_of_ble_eq_true rfl) (mk_11_0 (nx_11 hN (j := 0) (by decide))) rfl rfl (Nat.le_of_ble_eq_true rfl) ?_
    refine r_pop 24 hk dX11_fits_23 rfl rfl ?_
    refine r_aload_n 25 hk dX11_fits_24 rfl 0 rfl rfl ?_
    refine r_aload_n 26 hk dX11_fits_25 rfl 0 rfl rfl ?_
    refine r_get 29 hk dX11_fits_26 rfl ff_RX11_409 (mk_11_0 (nx_11 hN (j := 0) (by decide))) (gv_11_29 _ _ _) ?_
    obtain ⟨r7, w8, ew8, h⟩ := ob_e h
    refine r_cVi 32 (As := [.int (((w6 11 0).1 29))]) (rest := []) hk (kX11_good hN ew8) cf_RX11_55 mi_X11_good ⟨TX11, 36, rfl⟩ dX11_fits_29 rfl (Nat.le_of_ble_eq_true rfl) (Nat.le_of_ble_eq_true rfl) (mk_11_0 (nx_11 hN (j := 0) (by decide))) rfl rfl (Nat.le_of_ble_eq_true rfl) ?_
    exact r_iret hk hR dX11_fits_32 h
def fX11_fitAt (nd : Nat) (w : Wd) (x1 : Int32) : Option (Int32 × Wd) :=
  lw (sI w 11 0 0 (0)) fun w1 =>
  if (w1 11 0).2.2.1 3 = 0 then
    ob (fX11_refused nd w1 (1)) fun r3 w4 =>
    some (r3, w4)
  else
    if (0 : Int32) ≤ x1 then
      ob (fX11_fitting nd w1 (x1)) fun r6 w7 =>
      if (r6 : Int32) = (-1) then
        ob (fX11_refused nd w7 (1)) fun r11 w12 =>
        some (r11, w12)
      else
        ob (fX11_good nd w7 (r6)) fun r9 w10 =>
        some (r9, w10)
    else
      ob (fX11_refused nd w1 (1)) fun r13 w14 =>
      some (r13, w14)
set_option maxRecDepth 100000 in
set_option maxHeartbeats 4000000 in
theorem kX11_fitAt {l : Launch} {G : Gx} {al : Al} {w : Wd} {x1 : Int32} {r : Int32} {wz : Wd} (hN : NX G) (h : fX11_fitAt (gN G 10) w x1 = some (r, wz)) : MC l G yX11_fitAt cX11_fitAt 3 (some (.int)) 10 226 al w [.ref (al 11 0 0), .int x1] (some (.int r)) wz := by
  refine mc_of [(0, .ref (al 11 0 0)), (1, .int x1)] (by decide) (Nat.le_of_ble_eq_true rfl) rfl ?_
  intro K hk hR hn hl hG
  subst hl; subst hG
  have hk : VH K RX11 cX11_fitAt 10 226 := hk
  rw [fX11_fitAt.eq_1] at h
  refine r_aload_n 1 hk dX11_fitAt_0 rfl 0 rfl rfl ?_
  refine r_iconst 2 hk dX11_fitAt_1 rfl ci_0 ?_
  obtain ⟨w1, ew1, h⟩ := lw_e h
  refine r_putI 5 w1 hk dX11_fitAt_2 rfl ff_RX11_45 fi_11_0 (mk_11_0 (nx_11 hN (j := 0) (by decide))) ew1 ?_
  refine r_aload_n 6 hk dX11_fitAt_5 rfl 0 rfl rfl ?_
  refine r_get 9 hk dX11_fitAt_6 rfl ff_RX11_260 (mk_11_0 (nx_11 hN (j := 0) (by decide))) (gv_11_3 _ _ _) ?_
  by_cases c2 : (w1 11 0).2.2.1 3 = 0
  · have h := if_t c2 h
    refine r_pv0 c2 ?_
    refine r_ifnull1 16 hk (x := 0) dX11_fitAt_9 rfl ?_
    refine r_aload_n 17 hk dX11_fitAt_16 rfl 0 rfl rfl ?_
    refine r_iconst 18 hk dX11_fitAt_17 rfl ci_1 ?_
    obtain ⟨r3, w4, ew4, h⟩ := ob_e h
    refine r_cVi 21 (As := [.int 1]) (rest := []) hk (kX11_refused hN ew4) cf_RX11_51 mi_X11_refused ⟨TX11, 36, rfl⟩ dX11_fitAt_18 rfl (Nat.le_of_ble_eq_true rfl) (Nat.le_of_ble_eq_true rfl) (mk_11_0 (nx_11 hN (j := 0) (by decide))) rfl rfl (Nat.le_of_ble_eq_true rfl) ?_
    exact r_iret hk hR dX11_fitAt_21 h
  · have h := if_f c2 h
    obtain ⟨q15, eq15⟩ := Nat.exists_eq_succ_of_ne_zero c2
    refine r_pv1 eq15 ?_
    refine r_ifnull0 12 hk dX11_fitAt_9 rfl ?_
    refine r_iload_n 13 hk dX11_fitAt_12 rfl 1 rfl rfl ?_
    refine r_if_ge 22 16 hk dX11_fitAt_13 rfl rfl (fun c5 => ?_) (fun c5 => ?_)
    · have h := if_t c5 h
      refine r_aload_n 23 hk dX11_fitAt_22 rfl 0 rfl rfl ?_
      refine r_iload_n 24 hk dX11_fitAt_23 rfl 1 rfl rfl ?_
      obtain ⟨r6, w7, ew7, h⟩ := ob_e h
      refine r_cVi 27 (As := [.int x1]) (rest := []) hk (kX11_fitting hN ew7) cf_RX11_421 mi_X11_fitting ⟨TX11, 36, rfl⟩ dX11_fitAt_24 rfl (Nat.le_of_ble_eq_true rfl) (Nat.le_of_ble_eq_true rfl) (mk_11_0 (nx_11 hN (j := 0) (by decide))) rfl rfl (Nat.le_of_ble_eq_true rfl) ?_
      refine r_istore_n 28 [(2, .int r6), (0, .ref (al 11 0 0)), (1, .int x1)] hk dX11_fitAt_27 rfl rfl hn (by decide) rfl rfl ?_
      refine r_iload_n 29 hk dX11_fitAt_28 rfl 0 rfl rfl ?_
      refine r_iconst 30 hk dX11_fitAt_29 rfl ci_m1 ?_
      refine r_icmp_ne 41 33 hk dX11_fitAt_30 rfl rfl (fun c8 => ?_) (fun c8 => ?_)
      · have h := if_f c8 h
        refine r_aload_n 42 hk dX11_fitAt_41 rfl 1 rfl rfl ?_
        refine r_iload_n 43 hk dX11_fitAt_42 rfl 0 rfl rfl ?_
        obtain ⟨r9, w10, ew10, h⟩ := ob_e h
        refine r_cVi 46 (As := [.int r6]) (rest := []) hk (kX11_good hN ew10) cf_RX11_55 mi_X11_good ⟨TX11, 36, rfl⟩ dX11_fitAt_43 rfl (Nat.le_of_ble_eq_true rfl) (Nat.le_of_ble_eq_true rfl) (mk_11_0 (nx_11 hN (j := 0) (by decide))) rfl rfl (Nat.le_of_ble_eq_true rfl) ?_
        exact r_iret hk hR dX11_fitAt_46 h
      · have h := if_t c8 h
        refine r_aload_n 34 hk dX11_fitAt_33 rfl 1 rfl rfl ?_
        refine r_iconst 35 hk dX11_fitAt_34 rfl ci_1 ?_
        obtain ⟨r11, w12, ew12, h⟩ := ob_e h
        refine r_cVi 38 (As := [.int 1]) (rest := []) hk (kX11_refused hN ew12) cf_RX11_51 mi_X11_refused ⟨TX11, 36, rfl⟩ dX11_fitAt_35 rfl (Nat.le_of_ble_eq_true rfl) (Nat.le_of_ble_eq_true rfl) (mk_11_0 (nx_11 hN (j := 0) (by decide))) rfl rfl (Nat.le_of_ble_eq_true rfl) ?_
        refine r_goto 46 hk (x := 0) dX11_fitAt_38 rfl ?_
        exact r_iret hk hR dX11_fitAt_46 h
    · have h := if_f c5 h
      refine r_aload_n 17 hk dX11_fitAt_16 rfl 0 rfl rfl ?_
      refine r_iconst 18 hk dX11_fitAt_17 rfl ci_1 ?_
      obtain ⟨r13, w14, ew14, h⟩ := ob_e h
      refine r_cVi 21 (As := [.int 1]) (rest := []) hk (kX11_refused hN ew14) cf_RX11_51 mi_X11_refused ⟨TX11, 36, rfl⟩ dX11_fitAt_18 rfl (Nat.le_of_ble_eq_true rfl) (Nat.le_of_ble_eq_true rfl) (mk_11_0 (nx_11 hN (j := 0) (by decide))) rfl rfl (Nat.le_of_ble_eq_true rfl) ?_
      exact r_iret hk hR dX11_fitAt_21 h
def fX11_could (nd : Nat) (w : Wd) : Option (Int32 × Wd) :=
  lw (sI w 11 0 0 (0)) fun w1 =>
  if (w1 11 0).2.2.1 3 = 0 then
    ob (fX11_refused nd w1 (1)) fun r3 w4 =>
    some (r3, w4)
  else
    ob (fX11_fitting nd w1 ((-1))) fun r5 w6 =>
    ob (fX11_good nd w6 (((w6 11 0).1 30))) fun r7 w8 =>
    some (r7, w8)
set_option maxRecDepth 100000 in
set_option maxHeartbeats 4000000 in
theorem kX11_could {l : Launch} {G : Gx} {al : Al} {w : Wd} {r : Int32} {wz : Wd} (hN : NX G) (h : fX11_could (gN G 10) w = some (r, wz)) : MC l G yX11_could cX11_could 1 (some (.int)) 10 226 al w [.ref (al 11 0 0)] (some (.int r)) wz := by
  refine mc_of [(0, .ref (al 11 0 0))] (by decide) (Nat.le_of_ble_eq_true rfl) rfl ?_
  intro K hk hR hn hl hG
  subst hl; subst hG
  have hk : VH K RX11 cX11_could 10 226 := hk
  rw [fX11_could.eq_1] at h
  refine r_aload_n 1 hk dX11_could_0 rfl 0 rfl rfl ?_
  refine r_iconst 2 hk dX11_could_1 rfl ci_0 ?_
  obtain ⟨w1, ew1, h⟩ := lw_e h
  refine r_putI 5 w1 hk dX11_could_2 rfl ff_RX11_45 fi_11_0 (mk_11_0 (nx_11 hN (j := 0) (by decide))) ew1 ?_
  refine r_aload_n 6 hk dX11_could_5 rfl 0 rfl rfl ?_
  refine r_get 9 hk dX11_could_6 rfl ff_RX11_260 (mk_11_0 (nx_11 hN (j := 0) (by decide))) (gv_11_3 _ _ _) ?_
  by_cases c2 : (w1 11 0).2.2.1 3 = 0
  · have h := if_t c2 h
    refine r_pv0 c2 ?_
    refine r_ifnonnull0 12 hk dX11_could_9 rfl ?_
    refine r_aload_n 13 hk dX11_could_12 rfl 0 rfl rfl ?_
    refine r_iconst 14 hk dX11_could_13 rfl ci_1 ?_
    obtain ⟨r3, w4, ew4, h⟩ := ob_e h
    refine r_cVi 17 (As := [.int 1]) (rest := []) hk (kX11_refused hN ew4) cf_RX11_51 mi_X11_refused ⟨TX11, 36, rfl⟩ dX11_could_14 rfl (Nat.le_of_ble_eq_true rfl) (Nat.le_of_ble_eq_true rfl) (mk_11_0 (nx_11 hN (j := 0) (by decide))) rfl rfl (Nat.le_of_ble_eq_true rfl) ?_
    exact r_iret hk hR dX11_could_17 h
  · have h := if_f c2 h
    obtain ⟨q9, eq9⟩ := Nat.exists_eq_succ_of_ne_zero c2
    refine r_pv1 eq9 ?_
    refine r_ifnonnull1 18 hk dX11_could_9 rfl ?_
    refine r_aload_n 19 hk dX11_could_18 rfl 0 rfl rfl ?_
    refine r_iconst 20 hk dX11_could_19 rfl ci_m1 ?_
    obtain ⟨r5, w6, ew6, h⟩ := ob_e h
    refine r_cVi 23 (As := [.int (-1)]) (rest := []) hk (kX11_fitting hN ew6) cf_RX11_421 mi_X11_fitting ⟨TX11, 36, rfl⟩ dX11_could_20 rfl (Nat.le_of_ble_eq_true rfl) (Nat.le_of_ble_eq_true rfl) (mk_11_0 (nx_11 hN (j := 0) (by decide))) rfl rfl (Nat.le_of_ble_eq_true rfl) ?_
    refine r_pop 24 hk dX11_could_23 rfl rfl ?_
    refine r_aload_n 25 hk dX11_could_24 rfl 0 rfl rfl ?_
    refine r_aload_n 26 hk dX11_could_25 rfl 0 rfl rfl ?_
    refine r_get 29 hk dX11_could_26 rfl ff_RX11_412 (mk_11_0 (nx_11 hN (j := 0) (by decide))) (gv_11_30 _ _ _) ?_
    obtain ⟨r7, w8, ew8, h⟩ := ob_e h
    refine r_cVi 32 (As := [.int (((w6 11 0).1 30))]) (rest := []) hk (kX11_good hN ew8) cf_RX11_55 mi_X11_good ⟨TX11, 36, rfl⟩ dX11_could_29 rfl (Nat.le_of_ble_eq_true rfl) (Nat.le_of_ble_eq_true rfl) (mk_11_0 (nx_11 hN (j := 0) (by decide))) rfl rfl (Nat.le_of_ble_eq_true rfl) ?_
    exact r_iret hk hR dX11_could_32 h
def fX11_surely (nd : Nat) (w : Wd) : Option (Int32 × Wd) :=
  lw (sI w 11 0 0 (0)) fun w1 =>
  if (w1 11 0).2.2.1 3 = 0 then
    ob (fX11_refused nd w1 (1)) fun r3 w4 =>
    some (r3, w4)
  else
    ob (fX11_fitting nd w1 ((-1))) fun r5 w6 =>
    ob (fX11_good nd w6 (((w6 11 0).1 31))) fun r7 w8 =>
    some (r7, w8)
set_option maxRecDepth 100000 in
set_option maxHeartbeats 4000000 in
theorem kX11_surely {l : Launch} {G : Gx} {al : Al} {w : Wd} {r : Int32} {wz : Wd} (hN : NX G) (h : fX11_surely (gN G 10) w = some (r, wz)) : MC l G yX11_surely cX11_surely 1 (some (.int)) 10 226 al w [.ref (al 11 0 0)] (some (.int r)) wz := by
  refine mc_of [(0, .ref (al 11 0 0))] (by decide) (Nat.le_of_ble_eq_true rfl) rfl ?_
  intro K hk hR hn hl hG
  subst hl; subst hG
  have hk : VH K RX11 cX11_surely 10 226 := hk
  rw [fX11_surely.eq_1] at h
  refine r_aload_n 1 hk dX11_surely_0 rfl 0 rfl rfl ?_
  refine r_iconst 2 hk dX11_surely_1 rfl ci_0 ?_
  obtain ⟨w1, ew1, h⟩ := lw_e h
  refine r_putI 5 w1 hk dX11_surely_2 rfl ff_RX11_45 fi_11_0 (mk_11_0 (nx_11 hN (j := 0) (by decide))) ew1 ?_
  refine r_aload_n 6 hk dX11_surely_5 rfl 0 rfl rfl ?_
  refine r_get 9 hk dX11_surely_6 rfl ff_RX11_260 (mk_11_0 (nx_11 hN (j := 0) (by decide))) (gv_11_3 _ _ _) ?_
  by_cases c2 : (w1 11 0).2.2.1 3 = 0
  · have h := if_t c2 h
    refine r_pv0 c2 ?_
    refine r_ifnonnull0 12 hk dX11_surely_9 rfl ?_
    refine r_aload_n 13 hk dX11_surely_12 rfl 0 rfl rfl ?_
    refine r_iconst 14 hk dX11_surely_13 rfl ci_1 ?_
    obtain ⟨r3, w4, ew4, h⟩ := ob_e h
    refine r_cVi 17 (As := [.int 1]) (rest := []) hk (kX11_refused hN ew4) cf_RX11_51 mi_X11_refused ⟨TX11, 36, rfl⟩ dX11_surely_14 rfl (Nat.le_of_ble_eq_true rfl) (Nat.le_of_ble_eq_true rfl) (mk_11_0 (nx_11 hN (j := 0) (by decide))) rfl rfl (Nat.le_of_ble_eq_true rfl) ?_
    exact r_iret hk hR dX11_surely_17 h
  · have h := if_f c2 h
    obtain ⟨q9, eq9⟩ := Nat.exists_eq_succ_of_ne_zero c2
    refine r_pv1 eq9 ?_
    refine r_ifnonnull1 18 hk dX11_surely_9 rfl ?_
    refine r_aload_n 19 hk dX11_surely_18 rfl 0 rfl rfl ?_
    refine r_iconst 20 hk dX11_surely_19 rfl ci_m1 ?_
    obtain ⟨r5, w6, ew6, h⟩ := ob_e h
    refine r_cVi 23 (As := [.int (-1)]) (rest := []) hk (kX11_fitting hN ew6) cf_RX11_421 mi_X11_fitting ⟨TX11, 36, rfl⟩ dX11_surely_20 rfl (Nat.le_of_ble_eq_true rfl) (Nat.le_of_ble_eq_true rfl) (mk_11_0 (nx_11 hN (j := 0) (by decide))) rfl rfl (Nat.le_of_ble_eq_true rfl) ?_
    refine r_pop 24 hk dX11_surely_23 rfl rfl ?_
    refine r_aload_n 25 hk dX11_surely_24 rfl 0 rfl rfl ?_
    refine r_aload_n 26 hk dX11_surely_25 rfl 0 rfl rfl ?_
    refine r_get 29 hk dX11_surely_26 rfl ff_RX11_415 (mk_11_0 (nx_11 hN (j := 0) (by decide))) (gv_11_31 _ _ _) ?_
    obtain ⟨r7, w8, ew8, h⟩ := ob_e h
    refine r_cVi 32 (As := [.int (((w6 11 0).1 31))]) (rest := []) hk (kX11_good hN ew8) cf_RX11_55 mi_X11_good ⟨TX11, 36, rfl⟩ dX11_surely_29 rfl (Nat.le_of_ble_eq_true rfl) (Nat.le_of_ble_eq_true rfl) (mk_11_0 (nx_11 hN (j := 0) (by decide))) rfl rfl (Nat.le_of_ble_eq_true rfl) ?_
    exact r_iret hk hR dX11_surely_32 h
def fX11_asks_93 (k17 : Wd → Int32 → Int32 → Option (Int32 × Wd)) (nd : Nat) (w : Wd) (x2 : Int32) (x3 : Int32) : Option (Int32 × Wd) :=
    lw (sI w 11 0 33 (x3)) fun w15 =>
    lw (x2 + 1) fun x2_16 =>
    k17 w15 (x2) (x2_16)
def fX11_asks_75 (k17 : Wd → Int32 → Int32 → Option (Int32 × Wd)) (nd : Nat) (w : Wd) (x1 : Int32) (x2 : Int32) (t0 : Int32) : Option (Int32 × Wd) :=
    if (x1 : Int32) = (-2) then
      fX11_asks_93 (k17) nd w (x2) (t0)
    else
      if (t0 : Int32) < ((w 11 0).1 33) then
        fX11_asks_93 (k17) nd w (x2) (t0)
      else
        lw (x2 + 1) fun x2_14 =>
        k17 w (x1) (x2_14)
def fX11_asks_17 (nd : Nat) : Nat → Wd → Int32 → Int32 → Option (Int32 × Wd)
  | 0, _, _, _ => none
  | n + 1, w, x1, x2 =>
    ckp ((w 11 0).2.2.1 3) nd fun q4 =>
    if (((w 10 q4).1 6) : Int32) ≤ x2 then
      some (x1, w)
    else
      if (((w 11 0).1 29) : Int32) ≤ 0 then
        some (x1, w)
      else
        ck (inb (x2) 4) <|
        ck (inb (x2) 4) <|
        if (((w 11 0).2.1 32 (x2 : Int32).toNatClampNeg) : Int32) ≤ (((w 11 0).1 29) - ((w 11 0).2.1 32 (x2 : Int32).toNatClampNeg)) then
          ck (inb (x2) 4) <|
          fX11_asks_75 (fX11_asks_17 nd n) nd w (x1) (x2) ((((w 11 0).1 29) - ((w 11 0).2.1 32 (x2 : Int32).toNatClampNeg)))
        else
          ck (inb (x2) 4) <|
          fX11_asks_75 (fX11_asks_17 nd n) nd w (x1) (x2) (((w 11 0).2.1 32 (x2 : Int32).toNatClampNeg))
def fX11_asks (nd : Nat) (w : Wd) : Option (Int32 × Wd) :=
  ob (fX11_fitting nd w ((-1))) fun r1 w2 =>
  lw (sI w2 11 0 33 ((-2))) fun w3 =>
  fX11_asks_17 nd fuel0 w3 ((-2)) (0)
set_option maxRecDepth 100000 in
set_option maxHeartbeats 4000000 in
theorem sX11_asks_93 {K : VC} {al : Al} {r : Int32} {wz : Wd} {k17 : Wd → Int32 → Int32 → Option (Int32 × Wd)} (hc17 : ∀ (w : Wd) (x1 : Int32) (x2 : Int32), k17 w x1 x2 = some (r, wz) → V K al w 17 [(0, .ref (al 11 0 0)), (1, .int x1), (2, .int x2)] []) (hk : VH K RX11 cX11_asks 10 226) (hR : VR K al (some (.int)) (some (.int r)) wz) (hn : kn K = 4) (hN : NX (kG K)) (w : Wd) (x2 : Int32) (x3 : Int32) (h : fX11_asks_93 k17 (gN (kG K) 10) w x2 x3 = some (r, wz)) : V K al w 93 [(0, .ref (al 11 0 0)), (2, .int x2), (3, .int x3)] [] := by
  rw [fX11_asks_93.eq_1] at h
  refine r_iload_n 94 hk dX11_asks_93 rfl 1 rfl rfl ?_
  refine r_istore_n 95 [(1, .int x2), (0, .ref (al 11 0 0)), (2, .int x2), (3, .int x3)] hk dX11_asks_94 rfl rfl hn (by decide) rfl rfl ?_
  refine r_aload_n 96 hk dX11_asks_95 rfl 1 rfl rfl ?_
  refine r_iload_n 97 hk dX11_asks_96 rfl 3 rfl rfl ?_
  obtain ⟨w15, ew15, h⟩ := lw_e h
  refine r_putI 100 w15 hk dX11_asks_97 rfl ff_RX11_424 fi_11_33 (mk_11_0 (nx_11 hN (j := 0) (by decide))) ew15 ?_
  obtain ⟨x2_16, ex2_16, h⟩ := lw_e h
  refine r_iinc 103 [(2, .int x2_16), (1, .int x2), (0, .ref (al 11 0 0)), (3, .int x3)] hk (j := 2) dX11_asks_100 rfl hn (by decide) rfl ex2_16 rfl ?_
  refine r_goto 17 hk (x := 0) dX11_asks_103 rfl ?_
  refine r_sub [2, 1, 0] rfl ?_
  exact hc17 _ _ _ h
set_option maxRecDepth 100000 in
set_option maxHeartbeats 4000000 in
theorem sX11_asks_75 {K : VC} {al : Al} {r : Int32} {wz : Wd} {k17 : Wd → Int32 → Int32 → Option (Int32 × Wd)} (hc17 : ∀ (w : Wd) (x1 : Int32) (x2 : Int32), k17 w x1 x2 = some (r, wz) → V K al w 17 [(0, .ref (al 11 0 0)), (1, .int x1), (2, .int x2)] []) (hk : VH K RX11 cX11_asks 10 226) (hR : VR K al (some (.int)) (some (.int r)) wz) (hn : kn K = 4) (hN : NX (kG K)) (w : Wd) (x1 : Int32) (x2 : Int32) (t0 : Int32) (h : fX11_asks_75 k17 (gN (kG K) 10) w x1 x2 t0 = some (r, wz)) : V K al w 75 [(0, .ref (al 11 0 0)), (1, .int x1), (2, .int x2)] [.int t0] := by
  rw [fX11_asks_75.eq_1] at h
  refine r_istore_n 76 [(3, .int t0), (0, .ref (al 11 0 0)), (1, .int x1), (2, .int x2)] hk dX11_asks_75 rfl rfl hn (by decide) rfl rfl ?_
  refine r_iload_n 77 hk dX11_asks_76 rfl 2 rfl rfl ?_
  refine r_bipush 79 hk dX11_asks_77 rfl cb_m2 ?_
  refine r_icmp_eq 93 82 hk dX11_asks_79 rfl rfl (fun c12 => ?_) (fun c12 => ?_)
  · have h := if_t c12 h
    refine r_sub [1, 3, 0] rfl ?_
    exact sX11_asks_93 hc17 hk hR hn hN _ _ _ h
  · have h := if_f c12 h
    refine r_iload_n 83 hk dX11_asks_82 rfl 0 rfl rfl ?_
    refine r_aload_n 84 hk dX11_asks_83 rfl 1 rfl rfl ?_
    refine r_get 87 hk dX11_asks_84 rfl ff_RX11_424 (mk_11_0 (nx_11 hN (j := 0) (by decide))) (gv_11_33 _ _ _) ?_
    refine r_icmp_lt 93 90 hk dX11_asks_87 rfl rfl (fun c13 => ?_) (fun c13 => ?_)
    · have h := if_t c13 h
      refine r_sub [1, 3, 0] rfl ?_
      exact sX11_asks_93 hc17 hk hR hn hN _ _ _ h
    · have h := if_f c13 h
      refine r_goto 100 hk (x := 0) dX11_asks_90 rfl ?_
      obtain ⟨x2_14, ex2_14, h⟩ := lw_e h
      refine r_iinc 103 [(2, .int x2_14), (3, .int t0), (0, .ref (al 11 0 0)), (1, .int x1)] hk (j := 3) dX11_asks_100 rfl hn (by decide) rfl ex2_14 rfl ?_
      refine r_goto 17 hk (x := 0) dX11_asks_103 rfl ?_
      refine r_sub [2, 3, 0] rfl ?_
      exact hc17 _ _ _ h
set_option maxRecDepth 100000 in
set_option maxHeartbeats 4000000 in
theorem sX11_asks_17 {K : VC} {al : Al} {r : Int32} {wz : Wd}  (hk : VH K RX11 cX11_asks 10 226) (hR : VR K al (some (.int)) (some (.int r)) wz) (hn : kn K = 4) (hN : NX (kG K)) : ∀ (n : Nat) (w : Wd) (x1 : Int32) (x2 : Int32), fX11_asks_17 (gN (kG K) 10) n w x1 x2 = some (r, wz) → V K al w 17 [(0, .ref (al 11 0 0)), (1, .int x1), (2, .int x2)] [] := by
  intro n
  induction n with
  | zero => intro w x1 x2 h; cases h
  | succ n ih =>
    intro w x1 x2 h
    rw [fX11_asks_17.eq_2] at h
    refine r_iload_n 18 hk dX11_asks_17 rfl 2 rfl rfl ?_
    refine r_aload_n 19 hk dX11_asks_18 rfl 0 rfl rfl ?_
    refine r_get 22 hk dX11_asks_19 rfl ff_RX11_260 (mk_11_0 (nx_11 hN (j := 0) (by decide))) (gv_11_3 _ _ _) ?_
    obtain ⟨q4, eq4, lq4, h⟩ := ckp_e h
    refine r_pv1 eq4 ?_
    refine r_get 25 hk dX11_asks_22 rfl ff_RX11_233 (mk_10_0 lq4) (gv_10_6 _ _ _) ?_
    refine r_icmp_ge 106 28 hk dX11_asks_25 rfl rfl (fun c5 => ?_) (fun c5 => ?_)
    · have h := if_t c5 h
      refine r_iload_n 107 hk dX11_asks_106 rfl 1 rfl rfl ?_
      exact r_iret hk hR dX11_asks_107 h
    · have h := if_f c5 h
      refine r_aload_n 29 hk dX11_asks_28 rfl 0 rfl rfl ?_
      refine r_get 32 hk dX11_asks_29 rfl ff_RX11_409 (mk_11_0 (nx_11 hN (j := 0) (by decide))) (gv_11_29 _ _ _) ?_
      refine r_if_le 106 35 hk dX11_asks_32 rfl rfl (fun c6 => ?_) (fun c6 => ?_)
      · have h := if_t c6 h
        refine r_iload_n 107 hk dX11_asks_106 rfl 1 rfl rfl ?_
        exact r_iret hk hR dX11_asks_107 h
      · have h := if_f c6 h
        refine r_aload_n 36 hk dX11_asks_35 rfl 0 rfl rfl ?_
        refine r_get 39 hk dX11_asks_36 rfl ff_RX11_42 (mk_11_0 (nx_11 hN (j := 0) (by decide))) (gv_11_32 _ _ _) ?_
        refine r_iload_n 40 hk dX11_asks_39 rfl 2 rfl rfl ?_
        obtain ⟨b7, h⟩ := ck_e h
        refine r_iald 41 hk dX11_asks_40 rfl rfl (mk_11_33 (nx_11 hN (j := 0) (by decide))) rfl b7 ?_
        refine r_aload_n 42 hk dX11_asks_41 rfl 0 rfl rfl ?_
        refine r_get 45 hk dX11_asks_42 rfl ff_RX11_409 (mk_11_0 (nx_11 hN (j := 0) (by decide))) (gv_11_29 _ _ _) ?_
        refine r_aload_n 46 hk dX11_asks_45 rfl 0 rfl rfl ?_
        refine r_get 49 hk dX11_asks_46 rfl ff_RX11_42 (mk_11_0 (nx_11 hN (j := 0) (by decide))) (gv_11_32 _ _ _) ?_
        refine r_iload_n 50 hk dX11_asks_49 rfl 2 rfl rfl ?_
        obtain ⟨b8, h⟩ := ck_e h
        refine r_iald 51 hk dX11_asks_50 rfl rfl (mk_11_33 (nx_11 hN (j := 0) (by decide))) rfl b8 ?_
        refine r_isub 52 hk dX11_asks_51 rfl ?_
        refine r_icmp_le 64 55 hk dX11_asks_52 rfl rfl (fun c9 => ?_) (fun c9 => ?_)
        · have h := if_t c9 h
          refine r_aload_n 65 hk dX11_asks_64 rfl 0 rfl rfl ?_
          refine r_get 68 hk dX11_asks_65 rfl ff_RX11_409 (mk_11_0 (nx_11 hN (j := 0) (by decide))) (gv_11_29 _ _ _) ?_
          refine r_aload_n 69 hk dX11_asks_68 rfl 0 rfl rfl ?_
          refine r_get 72 hk dX11_asks_69 rfl ff_RX11_42 (mk_11_0 (nx_11 hN (j := 0) (by decide))) (gv_11_32 _ _ _) ?_
          refine r_iload_n 73 hk dX11_asks_72 rfl 2 rfl rfl ?_
          obtain ⟨b10, h⟩ := ck_e h
          refine r_iald 74 hk dX11_asks_73 rfl rfl (mk_11_33 (nx_11 hN (j := 0) (by decide))) rfl b10 ?_
          refine r_isub 75 hk dX11_asks_74 rfl ?_
          exact sX11_asks_75 (fun _ _ _ h => ih _ _ _ h) hk hR hn hN _ _ _ _ h
        · have h := if_f c9 h
          refine r_aload_n 56 hk dX11_asks_55 rfl 0 rfl rfl ?_
          refine r_get 59 hk dX11_asks_56 rfl ff_RX11_42 (mk_11_0 (nx_11 hN (j := 0) (by decide))) (gv_11_32 _ _ _) ?_
          refine r_iload_n 60 hk dX11_asks_59 rfl 2 rfl rfl ?_
          obtain ⟨b11, h⟩ := ck_e h
          refine r_iald 61 hk dX11_asks_60 rfl rfl (mk_11_33 (nx_11 hN (j := 0) (by decide))) rfl b11 ?_
          refine r_goto 75 hk (x := 0) dX11_asks_61 rfl ?_
          exact sX11_asks_75 (fun _ _ _ h => ih _ _ _ h) hk hR hn hN _ _ _ _ h
set_option maxRecDepth 100000 in
set_option maxHeartbeats 4000000 in
theorem kX11_asks {l : Launch} {G : Gx} {al : Al} {w : Wd} {r : Int32} {wz : Wd} (hN : NX G) (h : fX11_asks (gN G 10) w = some (r, wz)) : MC l G yX11_asks cX11_asks 4 (some (.int)) 10 226 al w [.ref (al 11 0 0)] (some (.int r)) wz := by
  refine mc_of [(0, .ref (al 11 0 0))] (by decide) (Nat.le_of_ble_eq_true rfl) rfl ?_
  intro K hk hR hn hl hG
  subst hl; subst hG
  have hk : VH K RX11 cX11_asks 10 226 := hk
  rw [fX11_asks.eq_1] at h
  refine r_aload_n 1 hk dX11_asks_0 rfl 0 rfl rfl ?_
  refine r_iconst 2 hk dX11_asks_1 rfl ci_m1 ?_
  obtain ⟨r1, w2, ew2, h⟩ := ob_e h
  refine r_cVi 5 (As := [.int (-1)]) (rest := []) hk (kX11_fitting hN ew2) cf_RX11_421 mi_X11_fitting ⟨TX11, 36, rfl⟩ dX11_asks_2 rfl (Nat.le_of_ble_eq_true rfl) (Nat.le_of_ble_eq_true rfl) (mk_11_0 (nx_11 hN (j := 0) (by decide))) rfl rfl (Nat.le_of_ble_eq_true rfl) ?_
  refine r_pop 6 hk dX11_asks_5 rfl rfl ?_
  refine r_bipush 8 hk dX11_asks_6 rfl cb_m2 ?_
  refine r_istore_n 9 [(1, .int (-2)), (0, .ref (al 11 0 0))] hk dX11_asks_8 rfl rfl hn (by decide) rfl rfl ?_
  refine r_aload_n 10 hk dX11_asks_9 rfl 1 rfl rfl ?_
  refine r_bipush 12 hk dX11_asks_10 rfl cb_m2 ?_
  obtain ⟨w3, ew3, h⟩ := lw_e h
  refine r_putI 15 w3 hk dX11_asks_12 rfl ff_RX11_424 fi_11_33 (mk_11_0 (nx_11 hN (j := 0) (by decide))) ew3 ?_
  refine r_iconst 16 hk dX11_asks_15 rfl ci_0 ?_
  refine r_istore_n 17 [(2, .int 0), (1, .int (-2)), (0, .ref (al 11 0 0))] hk dX11_asks_16 rfl rfl hn (by decide) rfl rfl ?_
  refine r_sub [2, 1, 0] rfl ?_
  exact sX11_asks_17 hk hR hn hN _ _ _ _ h
def fX11_ask (nd : Nat) (w : Wd) : Option (Int32 × Wd) :=
  lw (sI w 11 0 0 (0)) fun w1 =>
  if (w1 11 0).2.2.1 3 = 0 then
    ob (fX11_refused nd w1 (1)) fun r3 w4 =>
    some (r3, w4)
  else
    ob (fX11_asks nd w1 ) fun r5 w6 =>
    ob (fX11_good nd w6 (r5)) fun r7 w8 =>
    some (r7, w8)
set_option maxRecDepth 100000 in
set_option maxHeartbeats 4000000 in
theorem kX11_ask {l : Launch} {G : Gx} {al : Al} {w : Wd} {r : Int32} {wz : Wd} (hN : NX G) (h : fX11_ask (gN G 10) w = some (r, wz)) : MC l G yX11_ask cX11_ask 1 (some (.int)) 11 249 al w [.ref (al 11 0 0)] (some (.int r)) wz := by
  refine mc_of [(0, .ref (al 11 0 0))] (by decide) (Nat.le_of_ble_eq_true rfl) rfl ?_
  intro K hk hR hn hl hG
  subst hl; subst hG
  have hk : VH K RX11 cX11_ask 11 249 := hk
  rw [fX11_ask.eq_1] at h
  refine r_aload_n 1 hk dX11_ask_0 rfl 0 rfl rfl ?_
  refine r_iconst 2 hk dX11_ask_1 rfl ci_0 ?_
  obtain ⟨w1, ew1, h⟩ := lw_e h
  refine r_putI 5 w1 hk dX11_ask_2 rfl ff_RX11_45 fi_11_0 (mk_11_0 (nx_11 hN (j := 0) (by decide))) ew1 ?_
  refine r_aload_n 6 hk dX11_ask_5 rfl 0 rfl rfl ?_
  refine r_get 9 hk dX11_ask_6 rfl ff_RX11_260 (mk_11_0 (nx_11 hN (j := 0) (by decide))) (gv_11_3 _ _ _) ?_
  by_cases c2 : (w1 11 0).2.2.1 3 = 0
  · have h := if_t c2 h
    refine r_pv0 c2 ?_
    refine r_ifnonnull0 12 hk dX11_ask_9 rfl ?_
    refine r_aload_n 13 hk dX11_ask_12 rfl 0 rfl rfl ?_
    refine r_iconst 14 hk dX11_ask_13 rfl ci_1 ?_
    obtain ⟨r3, w4, ew4, h⟩ := ob_e h
    refine r_cVi 17 (As := [.int 1]) (rest := []) hk (kX11_refused hN ew4) cf_RX11_51 mi_X11_refused ⟨TX11, 36, rfl⟩ dX11_ask_14 rfl (Nat.le_of_ble_eq_true rfl) (Nat.le_of_ble_eq_true rfl) (mk_11_0 (nx_11 hN (j := 0) (by decide))) rfl rfl (Nat.le_of_ble_eq_true rfl) ?_
    refine r_goto 28 hk (x := 0) dX11_ask_17 rfl ?_
    exact r_iret hk hR dX11_ask_28 h
  · have h := if_f c2 h
    obtain ⟨q9, eq9⟩ := Nat.exists_eq_succ_of_ne_zero c2
    refine r_pv1 eq9 ?_
    refine r_ifnonnull1 20 hk dX11_ask_9 rfl ?_
    refine r_aload_n 21 hk dX11_ask_20 rfl 0 rfl rfl ?_
    refine r_aload_n 22 hk dX11_ask_21 rfl 0 rfl rfl ?_
    obtain ⟨r5, w6, ew6, h⟩ := ob_e h
    refine r_cVi 25 (As := []) (rest := [.ref (al 11 0 0)]) hk (kX11_asks hN ew6) cf_RX11_427 mi_X11_asks ⟨TX11, 36, rfl⟩ dX11_ask_22 rfl (Nat.le_of_ble_eq_true rfl) (Nat.le_of_ble_eq_true rfl) (mk_11_0 (nx_11 hN (j := 0) (by decide))) rfl rfl (Nat.le_of_ble_eq_true rfl) ?_
    obtain ⟨r7, w8, ew8, h⟩ := ob_e h
    refine r_cVi 28 (As := [.int r5]) (rest := []) hk (kX11_good hN ew8) cf_RX11_55 mi_X11_good ⟨TX11, 36, rfl⟩ dX11_ask_25 rfl (Nat.le_of_ble_eq_true rfl) (Nat.le_of_ble_eq_true rfl) (mk_11_0 (nx_11 hN (j := 0) (by decide))) rfl rfl (Nat.le_of_ble_eq_true rfl) ?_
    exact r_iret hk hR dX11_ask_28 h
def fX11_askLeaves (nd : Nat) (w : Wd) : Option (Int32 × Wd) :=
  lw (sI w 11 0 0 (0)) fun w1 =>
  if (w1 11 0).2.2.1 3 = 0 then
    ob (fX11_refused nd w1 (1)) fun r3 w4 =>
    some (r3, w4)
  else
    ob (fX11_asks nd w1 ) fun r5 w6 =>
    ob (fX11_good nd w6 (((w6 11 0).1 33))) fun r7 w8 =>
    some (r7, w8)
set_option maxRecDepth 100000 in
set_option maxHeartbeats 4000000 in
theorem kX11_askLeaves {l : Launch} {G : Gx} {al : Al} {w : Wd} {r : Int32} {wz : Wd} (hN : NX G) (h : fX11_askLeaves (gN G 10) w = some (r, wz)) : MC l G yX11_askLeaves cX11_askLeaves 1 (some (.int)) 11 249 al w [.ref (al 11 0 0)] (some (.int r)) wz := by
  refine mc_of [(0, .ref (al 11 0 0))] (by decide) (Nat.le_of_ble_eq_true rfl) rfl ?_
  intro K hk hR hn hl hG
  subst hl; subst hG
  have hk : VH K RX11 cX11_askLeaves 11 249 := hk
  rw [fX11_askLeaves.eq_1] at h
  refine r_aload_n 1 hk dX11_askLeaves_0 rfl 0 rfl rfl ?_
  refine r_iconst 2 hk dX11_askLeaves_1 rfl ci_0 ?_
  obtain ⟨w1, ew1, h⟩ := lw_e h
  refine r_putI 5 w1 hk dX11_askLeaves_2 rfl ff_RX11_45 fi_11_0 (mk_11_0 (nx_11 hN (j := 0) (by decide))) ew1 ?_
  refine r_aload_n 6 hk dX11_askLeaves_5 rfl 0 rfl rfl ?_
  refine r_get 9 hk dX11_askLeaves_6 rfl ff_RX11_260 (mk_11_0 (nx_11 hN (j := 0) (by decide))) (gv_11_3 _ _ _) ?_
  by_cases c2 : (w1 11 0).2.2.1 3 = 0
  · have h := if_t c2 h
    refine r_pv0 c2 ?_
    refine r_ifnonnull0 12 hk dX11_askLeaves_9 rfl ?_
    refine r_aload_n 13 hk dX11_askLeaves_12 rfl 0 rfl rfl ?_
    refine r_iconst 14 hk dX11_askLeaves_13 rfl ci_1 ?_
    obtain ⟨r3, w4, ew4, h⟩ := ob_e h
    refine r_cVi 17 (As := [.int 1]) (rest := []) hk (kX11_refused hN ew4) cf_RX11_51 mi_X11_refused ⟨TX11, 36, rfl⟩ dX11_askLeaves_14 rfl (Nat.le_of_ble_eq_true rfl) (Nat.le_of_ble_eq_true rfl) (mk_11_0 (nx_11 hN (j := 0) (by decide))) rfl rfl (Nat.le_of_ble_eq_true rfl) ?_
    exact r_iret hk hR dX11_askLeaves_17 h
  · have h := if_f c2 h
    obtain ⟨q9, eq9⟩ := Nat.exists_eq_succ_of_ne_zero c2
    refine r_pv1 eq9 ?_
    refine r_ifnonnull1 18 hk dX11_askLeaves_9 rfl ?_
    refine r_aload_n 19 hk dX11_askLeaves_18 rfl 0 rfl rfl ?_
    obtain ⟨r5, w6, ew6, h⟩ := ob_e h
    refine r_cVi 22 (As := []) (rest := []) hk (kX11_asks hN ew6) cf_RX11_427 mi_X11_asks ⟨TX11, 36, rfl⟩ dX11_askLeaves_19 rfl (Nat.le_of_ble_eq_true rfl) (Nat.le_of_ble_eq_true rfl) (mk_11_0 (nx_11 hN (j := 0) (by decide))) rfl rfl (Nat.le_of_ble_eq_true rfl) ?_
    refine r_pop 23 hk dX11_askLeaves_22 rfl rfl ?_
    refine r_aload_n 24 hk dX11_askLeaves_23 rfl 0 rfl rfl ?_
    refine r_aload_n 25 hk dX11_askLeaves_24 rfl 0 rfl rfl ?_
    refine r_get 28 hk dX11_askLeaves_25 rfl ff_RX11_424 (mk_11_0 (nx_11 hN (j := 0) (by decide))) (gv_11_33 _ _ _) ?_
    obtain ⟨r7, w8, ew8, h⟩ := ob_e h
    refine r_cVi 31 (As := [.int (((w6 11 0).1 33))]) (rest := []) hk (kX11_good hN ew8) cf_RX11_55 mi_X11_good ⟨TX11, 36, rfl⟩ dX11_askLeaves_28 rfl (Nat.le_of_ble_eq_true rfl) (Nat.le_of_ble_eq_true rfl) (mk_11_0 (nx_11 hN (j := 0) (by decide))) rfl rfl (Nat.le_of_ble_eq_true rfl) ?_
    exact r_iret hk hR dX11_askLeaves_31 h
def fX11_judge (nd : Nat) (w : Wd) : Option (Int32 × Wd) :=
  lw (sI w 11 0 0 (0)) fun w1 =>
  if (w1 11 0).2.2.1 3 = 0 then
    ob (fX11_refused nd w1 (1)) fun r3 w4 =>
    some (r3, w4)
  else
    ob (fX11_wrongRead nd w1 (0)) fun r5 w6 =>
    ob (fX11_good nd w6 (r5)) fun r7 w8 =>
    some (r7, w8)
set_option maxRecDepth 100000 in
set_option maxHeartbeats 4000000 in
theorem kX11_judge {l : Launch} {G : Gx} {al : Al} {w : Wd} {r : Int32} {wz : Wd} (hN : NX G) (h : fX11_judge (gN G 10) w = some (r, wz)) : MC l G yX11_judge cX11_judge 1 (some (.int)) 9 202 al w [.ref (al 11 0 0)] (some (.int r)) wz := by
  refine mc_of [(0, .ref (al 11 0 0))] (by decide) (Nat.le_of_ble_eq_true rfl) rfl ?_
  intro K hk hR hn hl hG
  subst hl; subst hG
  have hk : VH K RX11 cX11_judge 9 202 := hk
  rw [fX11_judge.eq_1] at h
  refine r_aload_n 1 hk dX11_judge_0 rfl 0 rfl rfl ?_
  refine r_iconst 2 hk dX11_judge_1 rfl ci_0 ?_
  obtain ⟨w1, ew1, h⟩ := lw_e h
  refine r_putI 5 w1 hk dX11_judge_2 rfl ff_RX11_45 fi_11_0 (mk_11_0 (nx_11 hN (j := 0) (by decide))) ew1 ?_
  refine r_aload_n 6 hk dX11_judge_5 rfl 0 rfl rfl ?_
  refine r_get 9 hk dX11_judge_6 rfl ff_RX11_260 (mk_11_0 (nx_11 hN (j := 0) (by decide))) (gv_11_3 _ _ _) ?_
  by_cases c2 : (w1 11 0).2.2.1 3 = 0
  · have h := if_t c2 h
    refine r_pv0 c2 ?_
    refine r_ifnonnull0 12 hk dX11_judge_9 rfl ?_
    refine r_aload_n 13 hk dX11_judge_12 rfl 0 rfl rfl ?_
    refine r_iconst 14 hk dX11_judge_13 rfl ci_1 ?_
    obtain ⟨r3, w4, ew4, h⟩ := ob_e h
    refine r_cVi 17 (As := [.int 1]) (rest := []) hk (kX11_refused hN ew4) cf_RX11_51 mi_X11_refused ⟨TX11, 36, rfl⟩ dX11_judge_14 rfl (Nat.le_of_ble_eq_true rfl) (Nat.le_of_ble_eq_true rfl) (mk_11_0 (nx_11 hN (j := 0) (by decide))) rfl rfl (Nat.le_of_ble_eq_true rfl) ?_
    refine r_goto 29 hk (x := 0) dX11_judge_17 rfl ?_
    exact r_iret hk hR dX11_judge_29 h
  · have h := if_f c2 h
    obtain ⟨q9, eq9⟩ := Nat.exists_eq_succ_of_ne_zero c2
    refine r_pv1 eq9 ?_
    refine r_ifnonnull1 20 hk dX11_judge_9 rfl ?_
    refine r_aload_n 21 hk dX11_judge_20 rfl 0 rfl rfl ?_
    refine r_aload_n 22 hk dX11_judge_21 rfl 0 rfl rfl ?_
    refine r_iconst 23 hk dX11_judge_22 rfl ci_0 ?_
    obtain ⟨r5, w6, ew6, h⟩ := ob_e h
    refine r_cVi 26 (As := [.int 0]) (rest := [.ref (al 11 0 0)]) hk (kX11_wrongRead hN ew6) cf_RX11_418 mi_X11_wrongRead ⟨TX11, 36, rfl⟩ dX11_judge_23 rfl (Nat.le_of_ble_eq_true rfl) (Nat.le_of_ble_eq_true rfl) (mk_11_0 (nx_11 hN (j := 0) (by decide))) rfl rfl (Nat.le_of_ble_eq_true rfl) ?_
    obtain ⟨r7, w8, ew8, h⟩ := ob_e h
    refine r_cVi 29 (As := [.int r5]) (rest := []) hk (kX11_good hN ew8) cf_RX11_55 mi_X11_good ⟨TX11, 36, rfl⟩ dX11_judge_26 rfl (Nat.le_of_ble_eq_true rfl) (Nat.le_of_ble_eq_true rfl) (mk_11_0 (nx_11 hN (j := 0) (by decide))) rfl rfl (Nat.le_of_ble_eq_true rfl) ?_
    exact r_iret hk hR dX11_judge_29 h
def fX11_draws (nd : Nat) (w : Wd) (x1 : Int32) : Option (Int32 × Wd) :=
  if (65537 : Int64) = 0 then none else
  lw (sI w 11 0 34 ((((((75 * ((((w 11 0).1 34) : Int32).toInt64)) + 74) - ((75 * ((((w 11 0).1 34) : Int32).toInt64)) + 74) / 65537 * 65537) : Int64).toInt32))) fun w2 =>
  if (x1 : Int32) = 0 then none else
  some ((((w2 11 0).1 34) - ((w2 11 0).1 34) / x1 * x1), w2)
set_option maxRecDepth 100000 in
set_option maxHeartbeats 4000000 in
theorem kX11_draws {l : Launch} {G : Gx} {al : Al} {w : Wd} {x1 : Int32} {r : Int32} {wz : Wd} (hN : NX G) (h : fX11_draws (gN G 10) w x1 = some (r, wz)) : MC l G yX11_draws cX11_draws 2 (some (.int)) 0 0 al w [.ref (al 11 0 0), .int x1] (some (.int r)) wz := by
  refine mc_of [(0, .ref (al 11 0 0)), (1, .int x1)] (by decide) (Nat.le_of_ble_eq_true rfl) rfl ?_
  intro K hk hR hn hl hG
  subst hl; subst hG
  have hk : VH K RX11 cX11_draws 0 0 := hk
  rw [fX11_draws.eq_1] at h
  refine r_aload_n 1 hk dX11_draws_0 rfl 0 rfl rfl ?_
  refine r_ldc2 4 hk dX11_draws_1 rfl kc_RX11_430 ?_
  refine r_aload_n 5 hk dX11_draws_4 rfl 0 rfl rfl ?_
  refine r_get 8 hk dX11_draws_5 rfl ff_RX11_432 (mk_11_0 (nx_11 hN (j := 0) (by decide))) (gv_11_34 _ _ _) ?_
  refine r_i2l 9 hk dX11_draws_8 rfl ?_
  refine r_lmul 10 hk dX11_draws_9 rfl ?_
  refine r_ldc2 13 hk dX11_draws_10 rfl kc_RX11_435 ?_
  refine r_ladd 14 hk dX11_draws_13 rfl ?_
  refine r_ldc2 17 hk dX11_draws_14 rfl kc_RX11_437 ?_
  by_cases z1 : (65537 : Int64) = 0
  · have h := if_t z1 h; cases h
  have h := if_f z1 h
  refine r_lrem 18 hk dX11_draws_17 rfl z1 ?_
  refine r_l2i 19 hk dX11_draws_18 rfl ?_
  obtain ⟨w2, ew2, h⟩ := lw_e h
  refine r_putI 22 w2 hk dX11_draws_19 rfl ff_RX11_432 fi_11_34 (mk_11_0 (nx_11 hN (j := 0) (by decide))) ew2 ?_
  refine r_aload_n 23 hk dX11_draws_22 rfl 0 rfl rfl ?_
  refine r_get 26 hk dX11_draws_23 rfl ff_RX11_432 (mk_11_0 (nx_11 hN (j := 0) (by decide))) (gv_11_34 _ _ _) ?_
  refine r_iload_n 27 hk dX11_draws_26 rfl 1 rfl rfl ?_
  by_cases z3 : (x1 : Int32) = 0
  · have h := if_t z3 h; cases h
  have h := if_f z3 h
  refine r_irem 28 hk dX11_draws_27 rfl z3 ?_
  exact r_iret hk hR dX11_draws_28 h
def fX11_drawnCut (nd : Nat) (w : Wd) : Option (Unit × Wd) :=
  ob (fX11_nextBand nd w ) fun r1 w2 =>
  ob (fX11_stepsOf nd w2 (r1)) fun r3 w4 =>
  ob (fX11_draws nd w4 ((r3 + 1))) fun r5 w6 =>
  ob (fX11_cuts nd w6 (r1) (r5)) fun r7 w8 =>
  ob (fX11_recovers nd w8 ) fun r9 w10 =>
  some ((), w10)
set_option maxRecDepth 100000 in
set_option maxHeartbeats 4000000 in
theorem kX11_drawnCut {l : Launch} {G : Gx} {al : Al} {w : Wd} {r : Unit} {wz : Wd} (hN : NX G) (h : fX11_drawnCut (gN G 10) w = some (r, wz)) : MC l G yX11_drawnCut cX11_drawnCut 2 none 6 135 al w [.ref (al 11 0 0)] none wz := by
  refine mc_of [(0, .ref (al 11 0 0))] (by decide) (Nat.le_of_ble_eq_true rfl) rfl ?_
  intro K hk hR hn hl hG
  subst hl; subst hG
  have hk : VH K RX11 cX11_drawnCut 6 135 := hk
  rw [fX11_drawnCut.eq_1] at h
  refine r_aload_n 1 hk dX11_drawnCut_0 rfl 0 rfl rfl ?_
  obtain ⟨r1, w2, ew2, h⟩ := ob_e h
  refine r_cVi 4 (As := []) (rest := []) hk (kX11_nextBand hN ew2) cf_RX11_340 mi_X11_nextBand ⟨TX11, 36, rfl⟩ dX11_drawnCut_1 rfl (Nat.le_of_ble_eq_true rfl) (Nat.le_of_ble_eq_true rfl) (mk_11_0 (nx_11 hN (j := 0) (by decide))) rfl rfl (Nat.le_of_ble_eq_true rfl) ?_
  refine r_istore_n 5 [(1, .int r1), (0, .ref (al 11 0 0))] hk dX11_drawnCut_4 rfl rfl hn (by decide) rfl rfl ?_
  refine r_aload_n 6 hk dX11_drawnCut_5 rfl 1 rfl rfl ?_
  refine r_iload_n 7 hk dX11_drawnCut_6 rfl 0 rfl rfl ?_
  refine r_aload_n 8 hk dX11_drawnCut_7 rfl 1 rfl rfl ?_
  refine r_aload_n 9 hk dX11_drawnCut_8 rfl 1 rfl rfl ?_
  refine r_iload_n 10 hk dX11_drawnCut_9 rfl 0 rfl rfl ?_
  obtain ⟨r3, w4, ew4, h⟩ := ob_e h
  refine r_cVi 13 (As := [.int r1]) (rest := [.ref (al 11 0 0), .int r1, .ref (al 11 0 0)]) hk (kX11_stepsOf hN ew4) cf_RX11_328 mi_X11_stepsOf ⟨TX11, 36, rfl⟩ dX11_drawnCut_10 rfl (Nat.le_of_ble_eq_true rfl) (Nat.le_of_ble_eq_true rfl) (mk_11_0 (nx_11 hN (j := 0) (by decide))) rfl rfl (Nat.le_of_ble_eq_true rfl) ?_
  refine r_iconst 14 hk dX11_drawnCut_13 rfl ci_1 ?_
  refine r_iadd 15 hk dX11_drawnCut_14 rfl ?_
  obtain ⟨r5, w6, ew6, h⟩ := ob_e h
  refine r_cVi 18 (As := [.int ((r3 + 1))]) (rest := [.int r1, .ref (al 11 0 0)]) hk (kX11_draws hN ew6) cf_RX11_439 mi_X11_draws ⟨TX11, 36, rfl⟩ dX11_drawnCut_15 rfl (Nat.le_of_ble_eq_true rfl) (Nat.le_of_ble_eq_true rfl) (mk_11_0 (nx_11 hN (j := 0) (by decide))) rfl rfl (Nat.le_of_ble_eq_true rfl) ?_
  obtain ⟨r7, w8, ew8, h⟩ := ob_e h
  refine r_cVi 21 (As := [.int r1, .int r5]) (rest := []) hk (kX11_cuts hN ew8) cf_RX11_376 mi_X11_cuts ⟨TX11, 36, rfl⟩ dX11_drawnCut_18 rfl (Nat.le_of_ble_eq_true rfl) (Nat.le_of_ble_eq_true rfl) (mk_11_0 (nx_11 hN (j := 0) (by decide))) rfl rfl (Nat.le_of_ble_eq_true rfl) ?_
  refine r_pop 22 hk dX11_drawnCut_21 rfl rfl ?_
  refine r_aload_n 23 hk dX11_drawnCut_22 rfl 1 rfl rfl ?_
  obtain ⟨r9, w10, ew10, h⟩ := ob_e h
  refine r_cVi 26 (As := []) (rest := []) hk (kX11_recovers hN ew10) cf_RX11_379 mi_X11_recovers ⟨TX11, 36, rfl⟩ dX11_drawnCut_23 rfl (Nat.le_of_ble_eq_true rfl) (Nat.le_of_ble_eq_true rfl) (mk_11_0 (nx_11 hN (j := 0) (by decide))) rfl rfl (Nat.le_of_ble_eq_true rfl) ?_
  refine r_pop 27 hk dX11_drawnCut_26 rfl rfl ?_
  exact r_vret hk hR dX11_drawnCut_27 h
def fX11_drawnTurns_38 (nd : Nat) : Nat → Wd → Int32 → Int32 → Option (Unit × Wd)
  | 0, _, _, _ => none
  | n + 1, w, x2, x3 =>
    if (x2 : Int32) ≤ x3 then
      ck (inb (109) 110) <|
      lw (sI w 11 0 35 ((((w 11 0).2.1 16 (109 : Int32).toNatClampNeg) - ((w 11 0).1 35)))) fun w13 =>
      some ((), w13)
    else
      ckp ((w 11 0).2.2.1 3) nd fun q14 =>
      ob (fX11_draws nd w (((w 10 q14).1 3))) fun r15 w16 =>
      ob (fX11_draws nd w16 (100)) fun r17 w18 =>
      ob (fX11_writes nd w18 (r15) (r17)) fun r19 w20 =>
      ob (fX11_draws nd w20 (8)) fun r21 w22 =>
      if (r21 : Int32) = 0 then
        ob (fX11_drawnCut nd w22 ) fun _ w26 =>
        lw (x3 + 1) fun x3_27 =>
        fX11_drawnTurns_38 nd n w26 (x2) (x3_27)
      else
        lw (x3 + 1) fun x3_24 =>
        fX11_drawnTurns_38 nd n w22 (x2) (x3_24)
def fX11_drawnTurns (nd : Nat) (w : Wd) (x1 : Int32) (x2 : Int32) : Option (Unit × Wd) :=
  ob (fX11_works nd w ) fun _ w2 =>
  ck (inb (109) 110) <|
  lw (sI w2 11 0 35 (((w2 11 0).2.1 16 (109 : Int32).toNatClampNeg))) fun w4 =>
  ck (inb (97) 110) <|
  if (((w4 11 0).2.1 16 (97 : Int32).toNatClampNeg) : Int32) = 1 then
    ob (fX11_recovers nd w4 ) fun r8 w9 =>
    lw (sI w9 11 0 34 (x1)) fun w10 =>
    fX11_drawnTurns_38 nd fuel0 w10 (x2) (0)
  else
    lw (sI w4 11 0 34 (x1)) fun w7 =>
    fX11_drawnTurns_38 nd fuel0 w7 (x2) (0)
set_option maxRecDepth 100000 in
set_option maxHeartbeats 4000000 in
theorem sX11_drawnTurns_38 {K : VC} {al : Al} {r : Unit} {wz : Wd}  (hk : VH K RX11 cX11_drawnTurns 7 158) (hR : VR K al none none wz) (hn : kn K = 5) (hN : NX (kG K)) : ∀ (n : Nat) (w : Wd) (x2 : Int32) (x3 : Int32), fX11_drawnTurns_38 (gN (kG K) 10) n w x2 x3 = some (r, wz) → V K al w 38 [(0, .ref (al 11 0 0)), (2, .int x2), (3, .int x3)] [] := by
  intro n
  induction n with
  | zero => intro w x2 x3 h; cases h
  | succ n ih =>
    intro w x2 x3 h
    rw [fX11_drawnTurns_38.eq_2] at h
    refine r_iload_n 39 hk dX11_drawnTurns_38 rfl 2 rfl rfl ?_
    refine r_iload_n 40 hk dX11_drawnTurns_39 rfl 1 rfl rfl ?_
    refine r_icmp_ge 88 43 hk dX11_drawnTurns_40 rfl rfl (fun c11 => ?_) (fun c11 => ?_)
    · have h := if_t c11 h
      refine r_aload_n 89 hk dX11_drawnTurns_88 rfl 0 rfl rfl ?_
      refine r_aload_n 90 hk dX11_drawnTurns_89 rfl 0 rfl rfl ?_
      refine r_get 93 hk dX11_drawnTurns_90 rfl ff_RX11_21 (mk_11_0 (nx_11 hN (j := 0) (by decide))) (gv_11_16 _ _ _) ?_
      refine r_bipush 95 hk dX11_drawnTurns_93 rfl cb_109 ?_
      obtain ⟨b12, h⟩ := ck_e h
      refine r_iald 96 hk dX11_drawnTurns_95 rfl rfl (mk_11_17 (nx_11 hN (j := 0) (by decide))) rfl b12 ?_
      refine r_aload_n 97 hk dX11_drawnTurns_96 rfl 0 rfl rfl ?_
      refine r_get 100 hk dX11_drawnTurns_97 rfl ff_RX11_442 (mk_11_0 (nx_11 hN (j := 0) (by decide))) (gv_11_35 _ _ _) ?_
      refine r_isub 101 hk dX11_drawnTurns_100 rfl ?_
      obtain ⟨w13, ew13, h⟩ := lw_e h
      refine r_putI 104 w13 hk dX11_drawnTurns_101 rfl ff_RX11_442 fi_11_35 (mk_11_0 (nx_11 hN (j := 0) (by decide))) ew13 ?_
      exact r_vret hk hR dX11_drawnTurns_104 h
    · have h := if_f c11 h
      refine r_aload_n 44 hk dX11_drawnTurns_43 rfl 0 rfl rfl ?_
      refine r_aload_n 45 hk dX11_drawnTurns_44 rfl 0 rfl rfl ?_
      refine r_get 48 hk dX11_drawnTurns_45 rfl ff_RX11_260 (mk_11_0 (nx_11 hN (j := 0) (by decide))) (gv_11_3 _ _ _) ?_
      obtain ⟨q14, eq14, lq14, h⟩ := ckp_e h
      refine r_pv1 eq14 ?_
      refine r_get 51 hk dX11_drawnTurns_48 rfl ff_RX11_209 (mk_10_0 lq14) (gv_10_3 _ _ _) ?_
      obtain ⟨r15, w16, ew16, h⟩ := ob_e h
      refine r_cVi 54 (As := [.int (((w 10 q14).1 3))]) (rest := []) hk (kX11_draws hN ew16) cf_RX11_439 mi_X11_draws ⟨TX11, 36, rfl⟩ dX11_drawnTurns_51 rfl (Nat.le_of_ble_eq_true rfl) (Nat.le_of_ble_eq_true rfl) (mk_11_0 (nx_11 hN (j := 0) (by decide))) rfl rfl (Nat.le_of_ble_eq_true rfl) ?_
      refine r_istore 56 [(4, .int r15), (0, .ref (al 11 0 0)), (2, .int x2), (3, .int x3)] hk dX11_drawnTurns_54 rfl hn (by decide) rfl rfl ?_
      refine r_aload_n 57 hk dX11_drawnTurns_56 rfl 1 rfl rfl ?_
      refine r_iload 59 hk dX11_drawnTurns_57 rfl 0 rfl ?_
      refine r_aload_n 60 hk dX11_drawnTurns_59 rfl 1 rfl rfl ?_
      refine r_bipush 62 hk dX11_drawnTurns_60 rfl cb_100 ?_
      obtain ⟨r17, w18, ew18, h⟩ := ob_e h
      refine r_cVi 65 (As := [.int 100]) (rest := [.int r15, .ref (al 11 0 0)]) hk (kX11_draws hN ew18) cf_RX11_439 mi_X11_draws ⟨TX11, 36, rfl⟩ dX11_drawnTurns_62 rfl (Nat.le_of_ble_eq_true rfl) (Nat.le_of_ble_eq_true rfl) (mk_11_0 (nx_11 hN (j := 0) (by decide))) rfl rfl (Nat.le_of_ble_eq_true rfl) ?_
      obtain ⟨r19, w20, ew20, h⟩ := ob_e h
      refine r_cVi 68 (As := [.int r15, .int r17]) (rest := []) hk (kX11_writes hN ew20) cf_RX11_385 mi_X11_writes ⟨TX11, 36, rfl⟩ dX11_drawnTurns_65 rfl (Nat.le_of_ble_eq_true rfl) (Nat.le_of_ble_eq_true rfl) (mk_11_0 (nx_11 hN (j := 0) (by decide))) rfl rfl (Nat.le_of_ble_eq_true rfl) ?_
      refine r_pop 69 hk dX11_drawnTurns_68 rfl rfl ?_
      refine r_aload_n 70 hk dX11_drawnTurns_69 rfl 1 rfl rfl ?_
      refine r_bipush 72 hk dX11_drawnTurns_70 rfl cb_8 ?_
      obtain ⟨r21, w22, ew22, h⟩ := ob_e h
      refine r_cVi 75 (As := [.int 8]) (rest := []) hk (kX11_draws hN ew22) cf_RX11_439 mi_X11_draws ⟨TX11, 36, rfl⟩ dX11_drawnTurns_72 rfl (Nat.le_of_ble_eq_true rfl) (Nat.le_of_ble_eq_true rfl) (mk_11_0 (nx_11 hN (j := 0) (by decide))) rfl rfl (Nat.le_of_ble_eq_true rfl) ?_
      refine r_if_ne 82 78 hk dX11_drawnTurns_75 rfl rfl (fun c23 => ?_) (fun c23 => ?_)
      · have h := if_f c23 h
        obtain ⟨x3_24, ex3_24, h⟩ := lw_e h
        refine r_iinc 85 [(3, .int x3_24), (4, .int r15), (0, .ref (al 11 0 0)), (2, .int x2)] hk (j := 3) dX11_drawnTurns_82 rfl hn (by decide) rfl ex3_24 rfl ?_
        refine r_goto 38 hk (x := 0) dX11_drawnTurns_85 rfl ?_
        refine r_sub [2, 3, 0] rfl ?_
        exact ih _ _ _ h
      · have h := if_t c23 h
        refine r_aload_n 79 hk dX11_drawnTurns_78 rfl 1 rfl rfl ?_
        obtain ⟨r25, w26, ew26, h⟩ := ob_e h
        refine r_cVv 82 (As := []) (rest := []) hk (kX11_drawnCut hN ew26) cf_RX11_445 mi_X11_drawnCut ⟨TX11, 36, rfl⟩ dX11_drawnTurns_79 rfl (Nat.le_of_ble_eq_true rfl) (Nat.le_of_ble_eq_true rfl) (mk_11_0 (nx_11 hN (j := 0) (by decide))) rfl rfl (Nat.le_of_ble_eq_true rfl) ?_
        obtain ⟨x3_27, ex3_27, h⟩ := lw_e h
        refine r_iinc 85 [(3, .int x3_27), (4, .int r15), (0, .ref (al 11 0 0)), (2, .int x2)] hk (j := 3) dX11_drawnTurns_82 rfl hn (by decide) rfl ex3_27 rfl ?_
        refine r_goto 38 hk (x := 0) dX11_drawnTurns_85 rfl ?_
        refine r_sub [2, 3, 0] rfl ?_
        exact ih _ _ _ h
set_option maxRecDepth 100000 in
set_option maxHeartbeats 4000000 in
theorem kX11_drawnTurns {l : Launch} {G : Gx} {al : Al} {w : Wd} {x1 : Int32} {x2 : Int32} {r : Unit} {wz : Wd} (hN : NX G) (h : fX11_drawnTurns (gN G 10) w x1 x2 = some (r, wz)) : MC l G yX11_drawnTurns cX11_drawnTurns 5 none 7 158 al w [.ref (al 11 0 0), .int x1, .int x2] none wz := by
  refine mc_of [(0, .ref (al 11 0 0)), (1, .int x1), (2, .int x2)] (by decide) (Nat.le_of_ble_eq_true rfl) rfl ?_
  intro K hk hR hn hl hG
  subst hl; subst hG
  have hk : VH K RX11 cX11_drawnTurns 7 158 := hk
  rw [fX11_drawnTurns.eq_1] at h
  refine r_aload_n 1 hk dX11_drawnTurns_0 rfl 0 rfl rfl ?_
  obtain ⟨r1, w2, ew2, h⟩ := ob_e h
  refine r_cVv 4 (As := []) (rest := []) hk (kX11_works hN ew2) cf_RX11_352 mi_X11_works ⟨TX11, 36, rfl⟩ dX11_drawnTurns_1 rfl (Nat.le_of_ble_eq_true rfl) (Nat.le_of_ble_eq_true rfl) (mk_11_0 (nx_11 hN (j := 0) (by decide))) rfl rfl (Nat.le_of_ble_eq_true rfl) ?_
  refine r_aload_n 5 hk dX11_drawnTurns_4 rfl 0 rfl rfl ?_
  refine r_aload_n 6 hk dX11_drawnTurns_5 rfl 0 rfl rfl ?_
  refine r_get 9 hk dX11_drawnTurns_6 rfl ff_RX11_21 (mk_11_0 (nx_11 hN (j := 0) (by decide))) (gv_11_16 _ _ _) ?_
  refine r_bipush 11 hk dX11_drawnTurns_9 rfl cb_109 ?_
  obtain ⟨b3, h⟩ := ck_e h
  refine r_iald 12 hk dX11_drawnTurns_11 rfl rfl (mk_11_17 (nx_11 hN (j := 0) (by decide))) rfl b3 ?_
  obtain ⟨w4, ew4, h⟩ := lw_e h
  refine r_putI 15 w4 hk dX11_drawnTurns_12 rfl ff_RX11_442 fi_11_35 (mk_11_0 (nx_11 hN (j := 0) (by decide))) ew4 ?_
  refine r_aload_n 16 hk dX11_drawnTurns_15 rfl 0 rfl rfl ?_
  refine r_get 19 hk dX11_drawnTurns_16 rfl ff_RX11_21 (mk_11_0 (nx_11 hN (j := 0) (by decide))) (gv_11_16 _ _ _) ?_
  refine r_bipush 21 hk dX11_drawnTurns_19 rfl cb_97 ?_
  obtain ⟨b5, h⟩ := ck_e h
  refine r_iald 22 hk dX11_drawnTurns_21 rfl rfl (mk_11_17 (nx_11 hN (j := 0) (by decide))) rfl b5 ?_
  refine r_iconst 23 hk dX11_drawnTurns_22 rfl ci_1 ?_
  refine r_icmp_ne 31 26 hk dX11_drawnTurns_23 rfl rfl (fun c6 => ?_) (fun c6 => ?_)
  · have h := if_f c6 h
    refine r_aload_n 32 hk dX11_drawnTurns_31 rfl 0 rfl rfl ?_
    refine r_iload_n 33 hk dX11_drawnTurns_32 rfl 1 rfl rfl ?_
    obtain ⟨w7, ew7, h⟩ := lw_e h
    refine r_putI 36 w7 hk dX11_drawnTurns_33 rfl ff_RX11_432 fi_11_34 (mk_11_0 (nx_11 hN (j := 0) (by decide))) ew7 ?_
    refine r_iconst 37 hk dX11_drawnTurns_36 rfl ci_0 ?_
    refine r_istore_n 38 [(3, .int 0), (0, .ref (al 11 0 0)), (1, .int x1), (2, .int x2)] hk dX11_drawnTurns_37 rfl rfl hn (by decide) rfl rfl ?_
    refine r_sub [1, 3, 0] rfl ?_
    exact sX11_drawnTurns_38 hk hR hn hN _ _ _ _ h
  · have h := if_t c6 h
    refine r_aload_n 27 hk dX11_drawnTurns_26 rfl 0 rfl rfl ?_
    obtain ⟨r8, w9, ew9, h⟩ := ob_e h
    refine r_cVi 30 (As := []) (rest := []) hk (kX11_recovers hN ew9) cf_RX11_379 mi_X11_recovers ⟨TX11, 36, rfl⟩ dX11_drawnTurns_27 rfl (Nat.le_of_ble_eq_true rfl) (Nat.le_of_ble_eq_true rfl) (mk_11_0 (nx_11 hN (j := 0) (by decide))) rfl rfl (Nat.le_of_ble_eq_true rfl) ?_
    refine r_pop 31 hk dX11_drawnTurns_30 rfl rfl ?_
    refine r_aload_n 32 hk dX11_drawnTurns_31 rfl 0 rfl rfl ?_
    refine r_iload_n 33 hk dX11_drawnTurns_32 rfl 1 rfl rfl ?_
    obtain ⟨w10, ew10, h⟩ := lw_e h
    refine r_putI 36 w10 hk dX11_drawnTurns_33 rfl ff_RX11_432 fi_11_34 (mk_11_0 (nx_11 hN (j := 0) (by decide))) ew10 ?_
    refine r_iconst 37 hk dX11_drawnTurns_36 rfl ci_0 ?_
    refine r_istore_n 38 [(3, .int 0), (0, .ref (al 11 0 0)), (1, .int x1), (2, .int x2)] hk dX11_drawnTurns_37 rfl rfl hn (by decide) rfl rfl ?_
    refine r_sub [1, 3, 0] rfl ?_
    exact sX11_drawnTurns_38 hk hR hn hN _ _ _ _ h
def fX11_refusesDraw (nd : Nat) (w : Wd) (x1 : Int32) (x2 : Int32) (x3 : Int32) : Option (Int32 × Wd) :=
  if (x1 : Int32) = 0 then
    some (1, w)
  else
    ob (fX11_in nd w (x2) (0) (65536)) fun r2 w3 =>
    if (r2 : Int32) = 0 then
      some (2, w3)
    else
      ob (fX11_in nd w3 (x3) (0) (100)) fun r5 w6 =>
      if (r5 : Int32) = 0 then
        some (2, w6)
      else
        some (0, w6)
set_option maxRecDepth 100000 in
set_option maxHeartbeats 4000000 in
theorem kX11_refusesDraw {l : Launch} {G : Gx} {al : Al} {w : Wd} {x1 : Int32} {x2 : Int32} {x3 : Int32} {r : Int32} {wz : Wd} (hN : NX G) (h : fX11_refusesDraw (gN G 10) w x1 x2 x3 = some (r, wz)) : MC l G yX11_refusesDraw cX11_refusesDraw 4 (some (.int)) 1 22 al w [.ref (al 11 0 0), .int x1, .int x2, .int x3] (some (.int r)) wz := by
  refine mc_of [(0, .ref (al 11 0 0)), (1, .int x1), (2, .int x2), (3, .int x3)] (by decide) (Nat.le_of_ble_eq_true rfl) rfl ?_
  intro K hk hR hn hl hG
  subst hl; subst hG
  have hk : VH K RX11 cX11_refusesDraw 1 22 := hk
  rw [fX11_refusesDraw.eq_1] at h
  refine r_iload_n 1 hk dX11_refusesDraw_0 rfl 1 rfl rfl ?_
  refine r_if_ne 6 4 hk dX11_refusesDraw_1 rfl rfl (fun c1 => ?_) (fun c1 => ?_)
  · have h := if_f c1 h
    refine r_iload_n 7 hk dX11_refusesDraw_6 rfl 2 rfl rfl ?_
    refine r_iconst 8 hk dX11_refusesDraw_7 rfl ci_0 ?_
    refine r_ldcw 11 hk dX11_refusesDraw_8 rfl kc_RX11_448 ?_
    obtain ⟨r2, w3, ew3, h⟩ := ob_e h
    refine r_cSi 14 (As := [.int x2, .int 0, .int 65536]) (rest := []) hk (kX11_in hN ew3) cf_RX11_124 ms_X11_in dX11_refusesDraw_11 rfl (Nat.le_of_ble_eq_true rfl) (Nat.le_of_ble_eq_true rfl) rfl rfl (Nat.le_of_ble_eq_true rfl) ?_
    refine r_if_eq 31 17 hk dX11_refusesDraw_14 rfl rfl (fun c4 => ?_) (fun c4 => ?_)
    · have h := if_t c4 h
      refine r_iconst 32 hk dX11_refusesDraw_31 rfl ci_2 ?_
      exact r_iret hk hR dX11_refusesDraw_32 h
    · have h := if_f c4 h
      refine r_iload_n 18 hk dX11_refusesDraw_17 rfl 3 rfl rfl ?_
      refine r_iconst 19 hk dX11_refusesDraw_18 rfl ci_0 ?_
      refine r_bipush 21 hk dX11_refusesDraw_19 rfl cb_100 ?_
      obtain ⟨r5, w6, ew6, h⟩ := ob_e h
      refine r_cSi 24 (As := [.int x3, .int 0, .int 100]) (rest := []) hk (kX11_in hN ew6) cf_RX11_124 ms_X11_in dX11_refusesDraw_21 rfl (Nat.le_of_ble_eq_true rfl) (Nat.le_of_ble_eq_true rfl) rfl rfl (Nat.le_of_ble_eq_true rfl) ?_
      refine r_if_eq 31 27 hk dX11_refusesDraw_24 rfl rfl (fun c7 => ?_) (fun c7 => ?_)
      · have h := if_t c7 h
        refine r_iconst 32 hk dX11_refusesDraw_31 rfl ci_2 ?_
        exact r_iret hk hR dX11_refusesDraw_32 h
      · have h := if_f c7 h
        refine r_iconst 28 hk dX11_refusesDraw_27 rfl ci_0 ?_
        refine r_goto 32 hk (x := 0) dX11_refusesDraw_28 rfl ?_
        exact r_iret hk hR dX11_refusesDraw_32 h
  · have h := if_t c1 h
    refine r_iconst 5 hk dX11_refusesDraw_4 rfl ci_1 ?_
    exact r_iret hk hR dX11_refusesDraw_5 h
def fX11_drawnRead (nd : Nat) (w : Wd) (x1 : Int32) (x2 : Int32) (x3 : Int32) : Option (Int32 × Wd) :=
  lw (sI w 11 0 0 (0)) fun w1 =>
  ob (fX11_isTrack nd w1 (x1)) fun r2 w3 =>
  ob (fX11_refusesDraw nd w3 (r2) (x2) (x3)) fun r4 w5 =>
  if (r4 : Int32) ≤ 0 then
    ob (fX11_drawnTurns nd w5 (x2) (x3)) fun _ w8 =>
    ob (fX11_readOf nd w8 (x1)) fun r9 w10 =>
    ob (fX11_good nd w10 (r9)) fun r11 w12 =>
    some (r11, w12)
  else
    ob (fX11_refused nd w5 (r4)) fun r13 w14 =>
    some (r13, w14)
set_option maxRecDepth 100000 in
set_option maxHeartbeats 4000000 in
theorem kX11_drawnRead {l : Launch} {G : Gx} {al : Al} {w : Wd} {x1 : Int32} {x2 : Int32} {x3 : Int32} {r : Int32} {wz : Wd} (hN : NX G) (h : fX11_drawnRead (gN G 10) w x1 x2 x3 = some (r, wz)) : MC l G yX11_drawnRead cX11_drawnRead 5 (some (.int)) 8 182 al w [.ref (al 11 0 0), .int x1, .int x2, .int x3] (some (.int r)) wz := by
  refine mc_of [(0, .ref (al 11 0 0)), (1, .int x1), (2, .int x2), (3, .int x3)] (by decide) (Nat.le_of_ble_eq_true rfl) rfl ?_
  intro K hk hR hn hl hG
  subst hl; subst hG
  have hk : VH K RX11 cX11_drawnRead 8 182 := hk
  rw [fX11_drawnRead.eq_1] at h
  refine r_aload_n 1 hk dX11_drawnRead_0 rfl 0 rfl rfl ?_
  refine r_iconst 2 hk dX11_drawnRead_1 rfl ci_0 ?_
  obtain ⟨w1, ew1, h⟩ := lw_e h
  refine r_putI 5 w1 hk dX11_drawnRead_2 rfl ff_RX11_45 fi_11_0 (mk_11_0 (nx_11 hN (j := 0) (by decide))) ew1 ?_
  refine r_aload_n 6 hk dX11_drawnRead_5 rfl 0 rfl rfl ?_
  refine r_aload_n 7 hk dX11_drawnRead_6 rfl 0 rfl rfl ?_
  refine r_iload_n 8 hk dX11_drawnRead_7 rfl 1 rfl rfl ?_
  obtain ⟨r2, w3, ew3, h⟩ := ob_e h
  refine r_cVi 11 (As := [.int x1]) (rest := [.ref (al 11 0 0)]) hk (kX11_isTrack hN ew3) cf_RX11_346 mi_X11_isTrack ⟨TX11, 36, rfl⟩ dX11_drawnRead_8 rfl (Nat.le_of_ble_eq_true rfl) (Nat.le_of_ble_eq_true rfl) (mk_11_0 (nx_11 hN (j := 0) (by decide))) rfl rfl (Nat.le_of_ble_eq_true rfl) ?_
  refine r_iload_n 12 hk dX11_drawnRead_11 rfl 2 rfl rfl ?_
  refine r_iload_n 13 hk dX11_drawnRead_12 rfl 3 rfl rfl ?_
  obtain ⟨r4, w5, ew5, h⟩ := ob_e h
  refine r_cVi 16 (As := [.int r2, .int x2, .int x3]) (rest := []) hk (kX11_refusesDraw hN ew5) cf_RX11_449 mi_X11_refusesDraw ⟨TX11, 36, rfl⟩ dX11_drawnRead_13 rfl (Nat.le_of_ble_eq_true rfl) (Nat.le_of_ble_eq_true rfl) (mk_11_0 (nx_11 hN (j := 0) (by decide))) rfl rfl (Nat.le_of_ble_eq_true rfl) ?_
  refine r_istore 18 [(4, .int r4), (0, .ref (al 11 0 0)), (1, .int x1), (2, .int x2), (3, .int x3)] hk dX11_drawnRead_16 rfl hn (by decide) rfl rfl ?_
  refine r_iload 20 hk dX11_drawnRead_18 rfl 0 rfl ?_
  refine r_if_le 30 23 hk dX11_drawnRead_20 rfl rfl (fun c6 => ?_) (fun c6 => ?_)
  · have h := if_t c6 h
    refine r_aload_n 31 hk dX11_drawnRead_30 rfl 1 rfl rfl ?_
    refine r_iload_n 32 hk dX11_drawnRead_31 rfl 3 rfl rfl ?_
    refine r_iload_n 33 hk dX11_drawnRead_32 rfl 4 rfl rfl ?_
    obtain ⟨r7, w8, ew8, h⟩ := ob_e h
    refine r_cVv 36 (As := [.int x2, .int x3]) (rest := []) hk (kX11_drawnTurns hN ew8) cf_RX11_453 mi_X11_drawnTurns ⟨TX11, 36, rfl⟩ dX11_drawnRead_33 rfl (Nat.le_of_ble_eq_true rfl) (Nat.le_of_ble_eq_true rfl) (mk_11_0 (nx_11 hN (j := 0) (by decide))) rfl rfl (Nat.le_of_ble_eq_true rfl) ?_
    refine r_aload_n 37 hk dX11_drawnRead_36 rfl 1 rfl rfl ?_
    refine r_aload_n 38 hk dX11_drawnRead_37 rfl 1 rfl rfl ?_
    refine r_iload_n 39 hk dX11_drawnRead_38 rfl 2 rfl rfl ?_
    obtain ⟨r9, w10, ew10, h⟩ := ob_e h
    refine r_cVi 42 (As := [.int x1]) (rest := [.ref (al 11 0 0)]) hk (kX11_readOf hN ew10) cf_RX11_316 mi_X11_readOf ⟨TX11, 36, rfl⟩ dX11_drawnRead_39 rfl (Nat.le_of_ble_eq_true rfl) (Nat.le_of_ble_eq_true rfl) (mk_11_0 (nx_11 hN (j := 0) (by decide))) rfl rfl (Nat.le_of_ble_eq_true rfl) ?_
    obtain ⟨r11, w12, ew12, h⟩ := ob_e h
    refine r_cVi 45 (As := [.int r9]) (rest := []) hk (kX11_good hN ew12) cf_RX11_55 mi_X11_good ⟨TX11, 36, rfl⟩ dX11_drawnRead_42 rfl (Nat.le_of_ble_eq_true rfl) (Nat.le_of_ble_eq_true rfl) (mk_11_0 (nx_11 hN (j := 0) (by decide))) rfl rfl (Nat.le_of_ble_eq_true rfl) ?_
    exact r_iret hk hR dX11_drawnRead_45 h
  · have h := if_f c6 h
    refine r_aload_n 24 hk dX11_drawnRead_23 rfl 1 rfl rfl ?_
    refine r_iload 26 hk dX11_drawnRead_24 rfl 0 rfl ?_
    obtain ⟨r13, w14, ew14, h⟩ := ob_e h
    refine r_cVi 29 (As := [.int r4]) (rest := []) hk (kX11_refused hN ew14) cf_RX11_51 mi_X11_refused ⟨TX11, 36, rfl⟩ dX11_drawnRead_26 rfl (Nat.le_of_ble_eq_true rfl) (Nat.le_of_ble_eq_true rfl) (mk_11_0 (nx_11 hN (j := 0) (by decide))) rfl rfl (Nat.le_of_ble_eq_true rfl) ?_
    exact r_iret hk hR dX11_drawnRead_29 h
def fX11_drawnWrites_18 (nd : Nat) (w : Wd) (x1 : Int32) (x2 : Int32) (t1 : Int32) : Option (Int32 × Wd) :=
    ob (fX11_refusesDraw nd w (t1) (x1) (x2)) fun r4 w5 =>
    if (r4 : Int32) ≤ 0 then
      ob (fX11_drawnTurns nd w5 (x1) (x2)) fun _ w8 =>
      ob (fX11_good nd w8 (((w8 11 0).1 35))) fun r9 w10 =>
      some (r9, w10)
    else
      ob (fX11_refused nd w5 (r4)) fun r11 w12 =>
      some (r11, w12)
def fX11_drawnWrites (nd : Nat) (w : Wd) (x1 : Int32) (x2 : Int32) : Option (Int32 × Wd) :=
  lw (sI w 11 0 0 (0)) fun w1 =>
  if (w1 11 0).2.2.1 3 = 0 then
    fX11_drawnWrites_18 nd w1 (x1) (x2) (0)
  else
    fX11_drawnWrites_18 nd w1 (x1) (x2) (1)
set_option maxRecDepth 100000 in
set_option maxHeartbeats 4000000 in
theorem sX11_drawnWrites_18 {K : VC} {al : Al} {r : Int32} {wz : Wd}  (hk : VH K RX11 cX11_drawnWrites 8 182) (hR : VR K al (some (.int)) (some (.int r)) wz) (hn : kn K = 4) (hN : NX (kG K)) (w : Wd) (x1 : Int32) (x2 : Int32) (t1 : Int32) (h : fX11_drawnWrites_18 (gN (kG K) 10) w x1 x2 t1 = some (r, wz)) : V K al w 18 [(0, .ref (al 11 0 0)), (1, .int x1), (2, .int x2)] [.int t1, .ref (al 11 0 0)] := by
  rw [fX11_drawnWrites_18.eq_1] at h
  refine r_iload_n 19 hk dX11_drawnWrites_18 rfl 1 rfl rfl ?_
  refine r_iload_n 20 hk dX11_drawnWrites_19 rfl 2 rfl rfl ?_
  obtain ⟨r4, w5, ew5, h⟩ := ob_e h
  refine r_cVi 23 (As := [.int t1, .int x1, .int x2]) (rest := []) hk (kX11_refusesDraw hN ew5) cf_RX11_449 mi_X11_refusesDraw ⟨TX11, 36, rfl⟩ dX11_drawnWrites_20 rfl (Nat.le_of_ble_eq_true rfl) (Nat.le_of_ble_eq_true rfl) (mk_11_0 (nx_11 hN (j := 0) (by decide))) rfl rfl (Nat.le_of_ble_eq_true rfl) ?_
  refine r_istore_n 24 [(3, .int r4), (0, .ref (al 11 0 0)), (1, .int x1), (2, .int x2)] hk dX11_drawnWrites_23 rfl rfl hn (by decide) rfl rfl ?_
  refine r_iload_n 25 hk dX11_drawnWrites_24 rfl 0 rfl rfl ?_
  refine r_if_le 34 28 hk dX11_drawnWrites_25 rfl rfl (fun c6 => ?_) (fun c6 => ?_)
  · have h := if_t c6 h
    refine r_aload_n 35 hk dX11_drawnWrites_34 rfl 1 rfl rfl ?_
    refine r_iload_n 36 hk dX11_drawnWrites_35 rfl 2 rfl rfl ?_
    refine r_iload_n 37 hk dX11_drawnWrites_36 rfl 3 rfl rfl ?_
    obtain ⟨r7, w8, ew8, h⟩ := ob_e h
    refine r_cVv 40 (As := [.int x1, .int x2]) (rest := []) hk (kX11_drawnTurns hN ew8) cf_RX11_453 mi_X11_drawnTurns ⟨TX11, 36, rfl⟩ dX11_drawnWrites_37 rfl (Nat.le_of_ble_eq_true rfl) (Nat.le_of_ble_eq_true rfl) (mk_11_0 (nx_11 hN (j := 0) (by decide))) rfl rfl (Nat.le_of_ble_eq_true rfl) ?_
    refine r_aload_n 41 hk dX11_drawnWrites_40 rfl 1 rfl rfl ?_
    refine r_aload_n 42 hk dX11_drawnWrites_41 rfl 1 rfl rfl ?_
    refine r_get 45 hk dX11_drawnWrites_42 rfl ff_RX11_442 (mk_11_0 (nx_11 hN (j := 0) (by decide))) (gv_11_35 _ _ _) ?_
    obtain ⟨r9, w10, ew10, h⟩ := ob_e h
    refine r_cVi 48 (As := [.int (((w8 11 0).1 35))]) (rest := []) hk (kX11_good hN ew10) cf_RX11_55 mi_X11_good ⟨TX11, 36, rfl⟩ dX11_drawnWrites_45 rfl (Nat.le_of_ble_eq_true rfl) (Nat.le_of_ble_eq_true rfl) (mk_11_0 (nx_11 hN (j := 0) (by decide))) rfl rfl (Nat.le_of_ble_eq_true rfl) ?_
    exact r_iret hk hR dX11_drawnWrites_48 h
  · have h := if_f c6 h
    refine r_aload_n 29 hk dX11_drawnWrites_28 rfl 1 rfl rfl ?_
    refine r_iload_n 30 hk dX11_drawnWrites_29 rfl 0 rfl rfl ?_
    obtain ⟨r11, w12, ew12, h⟩ := ob_e h
    refine r_cVi 33 (As := [.int r4]) (rest := []) hk (kX11_refused hN ew12) cf_RX11_51 mi_X11_refused ⟨TX11, 36, rfl⟩ dX11_drawnWrites_30 rfl (Nat.le_of_ble_eq_true rfl) (Nat.le_of_ble_eq_true rfl) (mk_11_0 (nx_11 hN (j := 0) (by decide))) rfl rfl (Nat.le_of_ble_eq_true rfl) ?_
    exact r_iret hk hR dX11_drawnWrites_33 h
set_option maxRecDepth 100000 in
set_option maxHeartbeats 4000000 in
theorem kX11_drawnWrites {l : Launch} {G : Gx} {al : Al} {w : Wd} {x1 : Int32} {x2 : Int32} {r : Int32} {wz : Wd} (hN : NX G) (h : fX11_drawnWrites (gN G 10) w x1 x2 = some (r, wz)) : MC l G yX11_drawnWrites cX11_drawnWrites 4 (some (.int)) 8 182 al w [.ref (al 11 0 0), .int x1, .int x2] (some (.int r)) wz := by
  refine mc_of [(0, .ref (al 11 0 0)), (1, .int x1), (2, .int x2)] (by decide) (Nat.le_of_ble_eq_true rfl) rfl ?_
  intro K hk hR hn hl hG
  subst hl; subst hG
  have hk : VH K RX11 cX11_drawnWrites 8 182 := hk
  rw [fX11_drawnWrites.eq_1] at h
  refine r_aload_n 1 hk dX11_drawnWrites_0 rfl 0 rfl rfl ?_
  refine r_iconst 2 hk dX11_drawnWrites_1 rfl ci_0 ?_
  obtain ⟨w1, ew1, h⟩ := lw_e h
  refine r_putI 5 w1 hk dX11_drawnWrites_2 rfl ff_RX11_45 fi_11_0 (mk_11_0 (nx_11 hN (j := 0) (by decide))) ew1 ?_
  refine r_aload_n 6 hk dX11_drawnWrites_5 rfl 0 rfl rfl ?_
  refine r_aload_n 7 hk dX11_drawnWrites_6 rfl 0 rfl rfl ?_
  refine r_get 10 hk dX11_drawnWrites_7 rfl ff_RX11_260 (mk_11_0 (nx_11 hN (j := 0) (by decide))) (gv_11_3 _ _ _) ?_
  by_cases c2 : (w1 11 0).2.2.1 3 = 0
  · have h := if_t c2 h
    refine r_pv0 c2 ?_
    refine r_ifnull1 17 hk (x := 0) dX11_drawnWrites_10 rfl ?_
    refine r_iconst 18 hk dX11_drawnWrites_17 rfl ci_0 ?_
    exact sX11_drawnWrites_18 hk hR hn hN _ _ _ _ h
  · have h := if_f c2 h
    obtain ⟨q3, eq3⟩ := Nat.exists_eq_succ_of_ne_zero c2
    refine r_pv1 eq3 ?_
    refine r_ifnull0 13 hk dX11_drawnWrites_10 rfl ?_
    refine r_iconst 14 hk dX11_drawnWrites_13 rfl ci_1 ?_
    refine r_goto 18 hk (x := 0) dX11_drawnWrites_14 rfl ?_
    exact sX11_drawnWrites_18 hk hR hn hN _ _ _ _ h
def fX11_remembers_51 (nd : Nat) : Nat → Wd → Int32 → Option (Unit × Wd)
  | 0, _, _ => none
  | n + 1, w, x1 =>
    if (110 : Int32) ≤ x1 then
      lw (sI w 11 0 19 ((((w 11 0).1 19) + 1))) fun w3 =>
      ob (fX11_works nd w3 ) fun _ w5 =>
      some ((), w5)
    else
      ck (inb (x1) 110) <|
      ck (inb (((110 * ((w 11 0).1 19)) + x1)) 1760) <|
      lw (sA w 11 0 17 (((110 * ((w 11 0).1 19)) + x1) : Int32).toNatClampNeg (((w 11 0).2.1 15 (x1 : Int32).toNatClampNeg))) fun w8 =>
      lw (x1 + 1) fun x1_9 =>
      fX11_remembers_51 nd n w8 (x1_9)
def fX11_remembers_11 (nd : Nat) : Nat → Wd → Int32 → Option (Unit × Wd)
  | 0, _, _ => none
  | n + 1, w, x1 =>
    if (1650 : Int32) ≤ x1 then
      lw (sI w 11 0 19 ((((w 11 0).1 19) - 1))) fun w11 =>
      fX11_remembers_51 nd fuel0 w11 (0)
    else
      ck (inb ((x1 + 110)) 1760) <|
      ck (inb (x1) 1760) <|
      lw (sA w 11 0 17 (x1 : Int32).toNatClampNeg (((w 11 0).2.1 17 ((x1 + 110) : Int32).toNatClampNeg))) fun w14 =>
      lw (x1 + 1) fun x1_15 =>
      fX11_remembers_11 nd n w14 (x1_15)
def fX11_remembers (nd : Nat) (w : Wd) : Option (Unit × Wd) :=
  if (((w 11 0).1 19) : Int32) = 16 then
    fX11_remembers_11 nd fuel0 w (0)
  else
    fX11_remembers_51 nd fuel0 w (0)
set_option maxRecDepth 100000 in
set_option maxHeartbeats 4000000 in
theorem sX11_remembers_51 {K : VC} {al : Al} {r : Unit} {wz : Wd}  (hk : VH K RX11 cX11_remembers 2 43) (hR : VR K al none none wz) (hn : kn K = 2) (hN : NX (kG K)) : ∀ (n : Nat) (w : Wd) (x1 : Int32), fX11_remembers_51 (gN (kG K) 10) n w x1 = some (r, wz) → V K al w 51 [(0, .ref (al 11 0 0)), (1, .int x1)] [] := by
  intro n
  induction n with
  | zero => intro w x1 h; cases h
  | succ n ih =>
    intro w x1 h
    rw [fX11_remembers_51.eq_2] at h
    refine r_iload_n 52 hk dX11_remembers_51 rfl 1 rfl rfl ?_
    refine r_bipush 54 hk dX11_remembers_52 rfl cb_110 ?_
    refine r_icmp_ge 83 57 hk dX11_remembers_54 rfl rfl (fun c2 => ?_) (fun c2 => ?_)
    · have h := if_t c2 h
      refine r_aload_n 84 hk dX11_remembers_83 rfl 0 rfl rfl ?_
      refine r_dup 85 hk dX11_remembers_84 rfl rfl ?_
      refine r_get 88 hk dX11_remembers_85 rfl ff_RX11_268 (mk_11_0 (nx_11 hN (j := 0) (by decide))) (gv_11_19 _ _ _) ?_
      refine r_iconst 89 hk dX11_remembers_88 rfl ci_1 ?_
      refine r_iadd 90 hk dX11_remembers_89 rfl ?_
      obtain ⟨w3, ew3, h⟩ := lw_e h
      refine r_putI 93 w3 hk dX11_remembers_90 rfl ff_RX11_268 fi_11_19 (mk_11_0 (nx_11 hN (j := 0) (by decide))) ew3 ?_
      refine r_aload_n 94 hk dX11_remembers_93 rfl 0 rfl rfl ?_
      obtain ⟨r4, w5, ew5, h⟩ := ob_e h
      refine r_cVv 97 (As := []) (rest := []) hk (kX11_works hN ew5) cf_RX11_352 mi_X11_works ⟨TX11, 36, rfl⟩ dX11_remembers_94 rfl (Nat.le_of_ble_eq_true rfl) (Nat.le_of_ble_eq_true rfl) (mk_11_0 (nx_11 hN (j := 0) (by decide))) rfl rfl (Nat.le_of_ble_eq_true rfl) ?_
      exact r_vret hk hR dX11_remembers_97 h
    · have h := if_f c2 h
      refine r_aload_n 58 hk dX11_remembers_57 rfl 0 rfl rfl ?_
      refine r_get 61 hk dX11_remembers_58 rfl ff_RX11_24 (mk_11_0 (nx_11 hN (j := 0) (by decide))) (gv_11_17 _ _ _) ?_
      refine r_bipush 63 hk dX11_remembers_61 rfl cb_110 ?_
      refine r_aload_n 64 hk dX11_remembers_63 rfl 0 rfl rfl ?_
      refine r_get 67 hk dX11_remembers_64 rfl ff_RX11_268 (mk_11_0 (nx_11 hN (j := 0) (by decide))) (gv_11_19 _ _ _) ?_
      refine r_imul 68 hk dX11_remembers_67 rfl ?_
      refine r_iload_n 69 hk dX11_remembers_68 rfl 1 rfl rfl ?_
      refine r_iadd 70 hk dX11_remembers_69 rfl ?_
      refine r_aload_n 71 hk dX11_remembers_70 rfl 0 rfl rfl ?_
      refine r_get 74 hk dX11_remembers_71 rfl ff_RX11_17 (mk_11_0 (nx_11 hN (j := 0) (by decide))) (gv_11_15 _ _ _) ?_
      refine r_iload_n 75 hk dX11_remembers_74 rfl 1 rfl rfl ?_
      obtain ⟨b6, h⟩ := ck_e h
      refine r_iald 76 hk dX11_remembers_75 rfl rfl (mk_11_16 (nx_11 hN (j := 0) (by decide))) rfl b6 ?_
      obtain ⟨b7, h⟩ := ck_e h
      obtain ⟨w8, ew8, h⟩ := lw_e h
      refine r_iast 77 w8 hk dX11_remembers_76 rfl rfl (mk_11_18 (nx_11 hN (j := 0) (by decide))) rfl b7 ew8 ?_
      obtain ⟨x1_9, ex1_9, h⟩ := lw_e h
      refine r_iinc 80 [(1, .int x1_9), (0, .ref (al 11 0 0))] hk (j := 1) dX11_remembers_77 rfl hn (by decide) rfl ex1_9 rfl ?_
      refine r_goto 51 hk (x := 0) dX11_remembers_80 rfl ?_
      refine r_sub [1, 0] rfl ?_
      exact ih _ _ h
set_option maxRecDepth 100000 in
set_option maxHeartbeats 4000000 in
theorem sX11_remembers_11 {K : VC} {al : Al} {r : Unit} {wz : Wd}  (hk : VH K RX11 cX11_remembers 2 43) (hR : VR K al none none wz) (hn : kn K = 2) (hN : NX (kG K)) : ∀ (n : Nat) (w : Wd) (x1 : Int32), fX11_remembers_11 (gN (kG K) 10) n w x1 = some (r, wz) → V K al w 11 [(0, .ref (al 11 0 0)), (1, .int x1)] [] := by
  intro n
  induction n with
  | zero => intro w x1 h; cases h
  | succ n ih =>
    intro w x1 h
    rw [fX11_remembers_11.eq_2] at h
    refine r_iload_n 12 hk dX11_remembers_11 rfl 1 rfl rfl ?_
    refine r_sipush 15 hk dX11_remembers_12 rfl cs_1650 ?_
    refine r_icmp_ge 39 18 hk dX11_remembers_15 rfl rfl (fun c10 => ?_) (fun c10 => ?_)
    · have h := if_t c10 h
      refine r_aload_n 40 hk dX11_remembers_39 rfl 0 rfl rfl ?_
      refine r_dup 41 hk dX11_remembers_40 rfl rfl ?_
      refine r_get 44 hk dX11_remembers_41 rfl ff_RX11_268 (mk_11_0 (nx_11 hN (j := 0) (by decide))) (gv_11_19 _ _ _) ?_
      refine r_iconst 45 hk dX11_remembers_44 rfl ci_1 ?_
      refine r_isub 46 hk dX11_remembers_45 rfl ?_
      obtain ⟨w11, ew11, h⟩ := lw_e h
      refine r_putI 49 w11 hk dX11_remembers_46 rfl ff_RX11_268 fi_11_19 (mk_11_0 (nx_11 hN (j := 0) (by decide))) ew11 ?_
      refine r_iconst 50 hk dX11_remembers_49 rfl ci_0 ?_
      refine r_istore_n 51 [(1, .int 0), (0, .ref (al 11 0 0))] hk dX11_remembers_50 rfl rfl hn (by decide) rfl rfl ?_
      refine r_sub [1, 0] rfl ?_
      exact sX11_remembers_51 hk hR hn hN _ _ _ h
    · have h := if_f c10 h
      refine r_aload_n 19 hk dX11_remembers_18 rfl 0 rfl rfl ?_
      refine r_get 22 hk dX11_remembers_19 rfl ff_RX11_24 (mk_11_0 (nx_11 hN (j := 0) (by decide))) (gv_11_17 _ _ _) ?_
      refine r_iload_n 23 hk dX11_remembers_22 rfl 1 rfl rfl ?_
      refine r_aload_n 24 hk dX11_remembers_23 rfl 0 rfl rfl ?_
      refine r_get 27 hk dX11_remembers_24 rfl ff_RX11_24 (mk_11_0 (nx_11 hN (j := 0) (by decide))) (gv_11_17 _ _ _) ?_
      refine r_iload_n 28 hk dX11_remembers_27 rfl 1 rfl rfl ?_
      refine r_bipush 30 hk dX11_remembers_28 rfl cb_110 ?_
      refine r_iadd 31 hk dX11_remembers_30 rfl ?_
      obtain ⟨b12, h⟩ := ck_e h
      refine r_iald 32 hk dX11_remembers_31 rfl rfl (mk_11_18 (nx_11 hN (j := 0) (by decide))) rfl b12 ?_
      obtain ⟨b13, h⟩ := ck_e h
      obtain ⟨w14, ew14, h⟩ := lw_e h
      refine r_iast 33 w14 hk dX11_remembers_32 rfl rfl (mk_11_18 (nx_11 hN (j := 0) (by decide))) rfl b13 ew14 ?_
      obtain ⟨x1_15, ex1_15, h⟩ := lw_e h
      refine r_iinc 36 [(1, .int x1_15), (0, .ref (al 11 0 0))] hk (j := 1) dX11_remembers_33 rfl hn (by decide) rfl ex1_15 rfl ?_
      refine r_goto 11 hk (x := 0) dX11_remembers_36 rfl ?_
      refine r_sub [1, 0] rfl ?_
      exact ih _ _ h
set_option maxRecDepth 100000 in
set_option maxHeartbeats 4000000 in
theorem kX11_remembers {l : Launch} {G : Gx} {al : Al} {w : Wd} {r : Unit} {wz : Wd} (hN : NX G) (h : fX11_remembers (gN G 10) w = some (r, wz)) : MC l G yX11_remembers cX11_remembers 2 none 2 43 al w [.ref (al 11 0 0)] none wz := by
  refine mc_of [(0, .ref (al 11 0 0))] (by decide) (Nat.le_of_ble_eq_true rfl) rfl ?_
  intro K hk hR hn hl hG
  subst hl; subst hG
  have hk : VH K RX11 cX11_remembers 2 43 := hk
  rw [fX11_remembers.eq_1] at h
  refine r_aload_n 1 hk dX11_remembers_0 rfl 0 rfl rfl ?_
  refine r_get 4 hk dX11_remembers_1 rfl ff_RX11_268 (mk_11_0 (nx_11 hN (j := 0) (by decide))) (gv_11_19 _ _ _) ?_
  refine r_bipush 6 hk dX11_remembers_4 rfl cb_16 ?_
  refine r_icmp_ne 49 9 hk dX11_remembers_6 rfl rfl (fun c1 => ?_) (fun c1 => ?_)
  · have h := if_f c1 h
    refine r_iconst 50 hk dX11_remembers_49 rfl ci_0 ?_
    refine r_istore_n 51 [(1, .int 0), (0, .ref (al 11 0 0))] hk dX11_remembers_50 rfl rfl hn (by decide) rfl rfl ?_
    refine r_sub [1, 0] rfl ?_
    exact sX11_remembers_51 hk hR hn hN _ _ _ h
  · have h := if_t c1 h
    refine r_iconst 10 hk dX11_remembers_9 rfl ci_0 ?_
    refine r_istore_n 11 [(1, .int 0), (0, .ref (al 11 0 0))] hk dX11_remembers_10 rfl rfl hn (by decide) rfl rfl ?_
    refine r_sub [1, 0] rfl ?_
    exact sX11_remembers_11 hk hR hn hN _ _ _ h
def fX11_done (nd : Nat) (w : Wd) (x1 : Int32) : Option (Int32 × Wd) :=
  ob (fX11_remains nd w ) fun _ w2 =>
  ob (fX11_good nd w2 (x1)) fun r3 w4 =>
  some (r3, w4)
set_option maxRecDepth 100000 in
set_option maxHeartbeats 4000000 in
theorem kX11_done {l : Launch} {G : Gx} {al : Al} {w : Wd} {x1 : Int32} {r : Int32} {wz : Wd} (hN : NX G) (h : fX11_done (gN G 10) w x1 = some (r, wz)) : MC l G yX11_done cX11_done 2 (some (.int)) 1 21 al w [.ref (al 11 0 0), .int x1] (some (.int r)) wz := by
  refine mc_of [(0, .ref (al 11 0 0)), (1, .int x1)] (by decide) (Nat.le_of_ble_eq_true rfl) rfl ?_
  intro K hk hR hn hl hG
  subst hl; subst hG
  have hk : VH K RX11 cX11_done 1 21 := hk
  rw [fX11_done.eq_1] at h
  refine r_aload_n 1 hk dX11_done_0 rfl 0 rfl rfl ?_
  obtain ⟨r1, w2, ew2, h⟩ := ob_e h
  refine r_cVv 4 (As := []) (rest := []) hk (kX11_remains hN ew2) cf_RX11_265 mi_X11_remains ⟨TX11, 36, rfl⟩ dX11_done_1 rfl (Nat.le_of_ble_eq_true rfl) (Nat.le_of_ble_eq_true rfl) (mk_11_0 (nx_11 hN (j := 0) (by decide))) rfl rfl (Nat.le_of_ble_eq_true rfl) ?_
  refine r_aload_n 5 hk dX11_done_4 rfl 0 rfl rfl ?_
  refine r_iload_n 6 hk dX11_done_5 rfl 1 rfl rfl ?_
  obtain ⟨r3, w4, ew4, h⟩ := ob_e h
  refine r_cVi 9 (As := [.int x1]) (rest := []) hk (kX11_good hN ew4) cf_RX11_55 mi_X11_good ⟨TX11, 36, rfl⟩ dX11_done_6 rfl (Nat.le_of_ble_eq_true rfl) (Nat.le_of_ble_eq_true rfl) (mk_11_0 (nx_11 hN (j := 0) (by decide))) rfl rfl (Nat.le_of_ble_eq_true rfl) ?_
  exact r_iret hk hR dX11_done_9 h
def fX11_write (nd : Nat) (w : Wd) (x1 : Int32) (x2 : Int32) : Option (Int32 × Wd) :=
  lw (sI w 11 0 0 (0)) fun w1 =>
  ob (fX11_isTrack nd w1 (x1)) fun r2 w3 =>
  if (r2 : Int32) = 0 then
    ob (fX11_refused nd w3 (1)) fun r21 w22 =>
    some (r21, w22)
  else
    ob (fX11_in nd w3 (x2) (0) (9999)) fun r5 w6 =>
    if (r5 : Int32) = 0 then
      ob (fX11_refused nd w6 (2)) fun r19 w20 =>
      some (r19, w20)
    else
      ob (fX11_isDown nd w6 ) fun r8 w9 =>
      if (r8 : Int32) = 0 then
        ob (fX11_remembers nd w9 ) fun _ w12 =>
        ob (fX11_writes nd w12 (x1) (x2)) fun r13 w14 =>
        ob (fX11_done nd w14 (r13)) fun r15 w16 =>
        some (r15, w16)
      else
        ob (fX11_refused nd w9 (5)) fun r17 w18 =>
        some (r17, w18)
set_option maxRecDepth 100000 in
set_option maxHeartbeats 4000000 in
theorem kX11_write {l : Launch} {G : Gx} {al : Al} {w : Wd} {x1 : Int32} {x2 : Int32} {r : Int32} {wz : Wd} (hN : NX G) (h : fX11_write (gN G 10) w x1 x2 = some (r, wz)) : MC l G yX11_write cX11_write 3 (some (.int)) 7 158 al w [.ref (al 11 0 0), .int x1, .int x2] (some (.int r)) wz := by
  refine mc_of [(0, .ref (al 11 0 0)), (1, .int x1), (2, .int x2)] (by decide) (Nat.le_of_ble_eq_true rfl) rfl ?_
  intro K hk hR hn hl hG
  subst hl; subst hG
  have hk : VH K RX11 cX11_write 7 158 := hk
  rw [fX11_write.eq_1] at h
  refine r_aload_n 1 hk dX11_write_0 rfl 0 rfl rfl ?_
  refine r_iconst 2 hk dX11_write_1 rfl ci_0 ?_
  obtain ⟨w1, ew1, h⟩ := lw_e h
  refine r_putI 5 w1 hk dX11_write_2 rfl ff_RX11_45 fi_11_0 (mk_11_0 (nx_11 hN (j := 0) (by decide))) ew1 ?_
  refine r_aload_n 6 hk dX11_write_5 rfl 0 rfl rfl ?_
  refine r_iload_n 7 hk dX11_write_6 rfl 1 rfl rfl ?_
  obtain ⟨r2, w3, ew3, h⟩ := ob_e h
  refine r_cVi 10 (As := [.int x1]) (rest := []) hk (kX11_isTrack hN ew3) cf_RX11_346 mi_X11_isTrack ⟨TX11, 36, rfl⟩ dX11_write_7 rfl (Nat.le_of_ble_eq_true rfl) (Nat.le_of_ble_eq_true rfl) (mk_11_0 (nx_11 hN (j := 0) (by decide))) rfl rfl (Nat.le_of_ble_eq_true rfl) ?_
  refine r_if_ne 19 13 hk dX11_write_10 rfl rfl (fun c4 => ?_) (fun c4 => ?_)
  · have h := if_f c4 h
    refine r_iload_n 20 hk dX11_write_19 rfl 2 rfl rfl ?_
    refine r_iconst 21 hk dX11_write_20 rfl ci_0 ?_
    refine r_sipush 24 hk dX11_write_21 rfl cs_9999 ?_
    obtain ⟨r5, w6, ew6, h⟩ := ob_e h
    refine r_cSi 27 (As := [.int x2, .int 0, .int 9999]) (rest := []) hk (kX11_in hN ew6) cf_RX11_124 ms_X11_in dX11_write_24 rfl (Nat.le_of_ble_eq_true rfl) (Nat.le_of_ble_eq_true rfl) rfl rfl (Nat.le_of_ble_eq_true rfl) ?_
    refine r_if_ne 36 30 hk dX11_write_27 rfl rfl (fun c7 => ?_) (fun c7 => ?_)
    · have h := if_f c7 h
      refine r_aload_n 37 hk dX11_write_36 rfl 0 rfl rfl ?_
      obtain ⟨r8, w9, ew9, h⟩ := ob_e h
      refine r_cVi 40 (As := []) (rest := []) hk (kX11_isDown hN ew9) cf_RX11_349 mi_X11_isDown ⟨TX11, 36, rfl⟩ dX11_write_37 rfl (Nat.le_of_ble_eq_true rfl) (Nat.le_of_ble_eq_true rfl) (mk_11_0 (nx_11 hN (j := 0) (by decide))) rfl rfl (Nat.le_of_ble_eq_true rfl) ?_
      refine r_if_eq 49 43 hk dX11_write_40 rfl rfl (fun c10 => ?_) (fun c10 => ?_)
      · have h := if_t c10 h
        refine r_aload_n 50 hk dX11_write_49 rfl 0 rfl rfl ?_
        obtain ⟨r11, w12, ew12, h⟩ := ob_e h
        refine r_cVv 53 (As := []) (rest := []) hk (kX11_remembers hN ew12) cf_RX11_456 mi_X11_remembers ⟨TX11, 36, rfl⟩ dX11_write_50 rfl (Nat.le_of_ble_eq_true rfl) (Nat.le_of_ble_eq_true rfl) (mk_11_0 (nx_11 hN (j := 0) (by decide))) rfl rfl (Nat.le_of_ble_eq_true rfl) ?_
        refine r_aload_n 54 hk dX11_write_53 rfl 0 rfl rfl ?_
        refine r_aload_n 55 hk dX11_write_54 rfl 0 rfl rfl ?_
        refine r_iload_n 56 hk dX11_write_55 rfl 1 rfl rfl ?_
        refine r_iload_n 57 hk dX11_write_56 rfl 2 rfl rfl ?_
        obtain ⟨r13, w14, ew14, h⟩ := ob_e h
        refine r_cVi 60 (As := [.int x1, .int x2]) (rest := [.ref (al 11 0 0)]) hk (kX11_writes hN ew14) cf_RX11_385 mi_X11_writes ⟨TX11, 36, rfl⟩ dX11_write_57 rfl (Nat.le_of_ble_eq_true rfl) (Nat.le_of_ble_eq_true rfl) (mk_11_0 (nx_11 hN (j := 0) (by decide))) rfl rfl (Nat.le_of_ble_eq_true rfl) ?_
        obtain ⟨r15, w16, ew16, h⟩ := ob_e h
        refine r_cVi 63 (As := [.int r13]) (rest := []) hk (kX11_done hN ew16) cf_RX11_459 mi_X11_done ⟨TX11, 36, rfl⟩ dX11_write_60 rfl (Nat.le_of_ble_eq_true rfl) (Nat.le_of_ble_eq_true rfl) (mk_11_0 (nx_11 hN (j := 0) (by decide))) rfl rfl (Nat.le_of_ble_eq_true rfl) ?_
        exact r_iret hk hR dX11_write_63 h
      · have h := if_f c10 h
        refine r_aload_n 44 hk dX11_write_43 rfl 0 rfl rfl ?_
        refine r_iconst 45 hk dX11_write_44 rfl ci_5 ?_
        obtain ⟨r17, w18, ew18, h⟩ := ob_e h
        refine r_cVi 48 (As := [.int 5]) (rest := []) hk (kX11_refused hN ew18) cf_RX11_51 mi_X11_refused ⟨TX11, 36, rfl⟩ dX11_write_45 rfl (Nat.le_of_ble_eq_true rfl) (Nat.le_of_ble_eq_true rfl) (mk_11_0 (nx_11 hN (j := 0) (by decide))) rfl rfl (Nat.le_of_ble_eq_true rfl) ?_
        exact r_iret hk hR dX11_write_48 h
    · have h := if_t c7 h
      refine r_aload_n 31 hk dX11_write_30 rfl 0 rfl rfl ?_
      refine r_iconst 32 hk dX11_write_31 rfl ci_2 ?_
      obtain ⟨r19, w20, ew20, h⟩ := ob_e h
      refine r_cVi 35 (As := [.int 2]) (rest := []) hk (kX11_refused hN ew20) cf_RX11_51 mi_X11_refused ⟨TX11, 36, rfl⟩ dX11_write_32 rfl (Nat.le_of_ble_eq_true rfl) (Nat.le_of_ble_eq_true rfl) (mk_11_0 (nx_11 hN (j := 0) (by decide))) rfl rfl (Nat.le_of_ble_eq_true rfl) ?_
      exact r_iret hk hR dX11_write_35 h
  · have h := if_t c4 h
    refine r_aload_n 14 hk dX11_write_13 rfl 0 rfl rfl ?_
    refine r_iconst 15 hk dX11_write_14 rfl ci_1 ?_
    obtain ⟨r21, w22, ew22, h⟩ := ob_e h
    refine r_cVi 18 (As := [.int 1]) (rest := []) hk (kX11_refused hN ew22) cf_RX11_51 mi_X11_refused ⟨TX11, 36, rfl⟩ dX11_write_15 rfl (Nat.le_of_ble_eq_true rfl) (Nat.le_of_ble_eq_true rfl) (mk_11_0 (nx_11 hN (j := 0) (by decide))) rfl rfl (Nat.le_of_ble_eq_true rfl) ?_
    exact r_iret hk hR dX11_write_18 h
def fX11_clean (nd : Nat) (w : Wd) (x1 : Int32) : Option (Int32 × Wd) :=
  lw (sI w 11 0 0 (0)) fun w1 =>
  ob (fX11_isBand nd w1 (x1)) fun r2 w3 =>
  if (r2 : Int32) = 0 then
    ob (fX11_refused nd w3 (1)) fun r16 w17 =>
    some (r16, w17)
  else
    ob (fX11_isDown nd w3 ) fun r5 w6 =>
    if (r5 : Int32) = 0 then
      ob (fX11_remembers nd w6 ) fun _ w9 =>
      ob (fX11_cleans nd w9 (x1)) fun r10 w11 =>
      ob (fX11_done nd w11 (r10)) fun r12 w13 =>
      some (r12, w13)
    else
      ob (fX11_refused nd w6 (5)) fun r14 w15 =>
      some (r14, w15)
set_option maxRecDepth 100000 in
set_option maxHeartbeats 4000000 in
theorem kX11_clean {l : Launch} {G : Gx} {al : Al} {w : Wd} {x1 : Int32} {r : Int32} {wz : Wd} (hN : NX G) (h : fX11_clean (gN G 10) w x1 = some (r, wz)) : MC l G yX11_clean cX11_clean 2 (some (.int)) 6 135 al w [.ref (al 11 0 0), .int x1] (some (.int r)) wz := by
  refine mc_of [(0, .ref (al 11 0 0)), (1, .int x1)] (by decide) (Nat.le_of_ble_eq_true rfl) rfl ?_
  intro K hk hR hn hl hG
  subst hl; subst hG
  have hk : VH K RX11 cX11_clean 6 135 := hk
  rw [fX11_clean.eq_1] at h
  refine r_aload_n 1 hk dX11_clean_0 rfl 0 rfl rfl ?_
  refine r_iconst 2 hk dX11_clean_1 rfl ci_0 ?_
  obtain ⟨w1, ew1, h⟩ := lw_e h
  refine r_putI 5 w1 hk dX11_clean_2 rfl ff_RX11_45 fi_11_0 (mk_11_0 (nx_11 hN (j := 0) (by decide))) ew1 ?_
  refine r_aload_n 6 hk dX11_clean_5 rfl 0 rfl rfl ?_
  refine r_iload_n 7 hk dX11_clean_6 rfl 1 rfl rfl ?_
  obtain ⟨r2, w3, ew3, h⟩ := ob_e h
  refine r_cVi 10 (As := [.int x1]) (rest := []) hk (kX11_isBand hN ew3) cf_RX11_355 mi_X11_isBand ⟨TX11, 36, rfl⟩ dX11_clean_7 rfl (Nat.le_of_ble_eq_true rfl) (Nat.le_of_ble_eq_true rfl) (mk_11_0 (nx_11 hN (j := 0) (by decide))) rfl rfl (Nat.le_of_ble_eq_true rfl) ?_
  refine r_if_ne 19 13 hk dX11_clean_10 rfl rfl (fun c4 => ?_) (fun c4 => ?_)
  · have h := if_f c4 h
    refine r_aload_n 20 hk dX11_clean_19 rfl 0 rfl rfl ?_
    obtain ⟨r5, w6, ew6, h⟩ := ob_e h
    refine r_cVi 23 (As := []) (rest := []) hk (kX11_isDown hN ew6) cf_RX11_349 mi_X11_isDown ⟨TX11, 36, rfl⟩ dX11_clean_20 rfl (Nat.le_of_ble_eq_true rfl) (Nat.le_of_ble_eq_true rfl) (mk_11_0 (nx_11 hN (j := 0) (by decide))) rfl rfl (Nat.le_of_ble_eq_true rfl) ?_
    refine r_if_eq 32 26 hk dX11_clean_23 rfl rfl (fun c7 => ?_) (fun c7 => ?_)
    · have h := if_t c7 h
      refine r_aload_n 33 hk dX11_clean_32 rfl 0 rfl rfl ?_
      obtain ⟨r8, w9, ew9, h⟩ := ob_e h
      refine r_cVv 36 (As := []) (rest := []) hk (kX11_remembers hN ew9) cf_RX11_456 mi_X11_remembers ⟨TX11, 36, rfl⟩ dX11_clean_33 rfl (Nat.le_of_ble_eq_true rfl) (Nat.le_of_ble_eq_true rfl) (mk_11_0 (nx_11 hN (j := 0) (by decide))) rfl rfl (Nat.le_of_ble_eq_true rfl) ?_
      refine r_aload_n 37 hk dX11_clean_36 rfl 0 rfl rfl ?_
      refine r_aload_n 38 hk dX11_clean_37 rfl 0 rfl rfl ?_
      refine r_iload_n 39 hk dX11_clean_38 rfl 1 rfl rfl ?_
      obtain ⟨r10, w11, ew11, h⟩ := ob_e h
      refine r_cVi 42 (As := [.int x1]) (rest := [.ref (al 11 0 0)]) hk (kX11_cleans hN ew11) cf_RX11_343 mi_X11_cleans ⟨TX11, 36, rfl⟩ dX11_clean_39 rfl (Nat.le_of_ble_eq_true rfl) (Nat.le_of_ble_eq_true rfl) (mk_11_0 (nx_11 hN (j := 0) (by decide))) rfl rfl (Nat.le_of_ble_eq_true rfl) ?_
      obtain ⟨r12, w13, ew13, h⟩ := ob_e h
      refine r_cVi 45 (As := [.int r10]) (rest := []) hk (kX11_done hN ew13) cf_RX11_459 mi_X11_done ⟨TX11, 36, rfl⟩ dX11_clean_42 rfl (Nat.le_of_ble_eq_true rfl) (Nat.le_of_ble_eq_true rfl) (mk_11_0 (nx_11 hN (j := 0) (by decide))) rfl rfl (Nat.le_of_ble_eq_true rfl) ?_
      exact r_iret hk hR dX11_clean_45 h
    · have h := if_f c7 h
      refine r_aload_n 27 hk dX11_clean_26 rfl 0 rfl rfl ?_
      refine r_iconst 28 hk dX11_clean_27 rfl ci_5 ?_
      obtain ⟨r14, w15, ew15, h⟩ := ob_e h
      refine r_cVi 31 (As := [.int 5]) (rest := []) hk (kX11_refused hN ew15) cf_RX11_51 mi_X11_refused ⟨TX11, 36, rfl⟩ dX11_clean_28 rfl (Nat.le_of_ble_eq_true rfl) (Nat.le_of_ble_eq_true rfl) (mk_11_0 (nx_11 hN (j := 0) (by decide))) rfl rfl (Nat.le_of_ble_eq_true rfl) ?_
      exact r_iret hk hR dX11_clean_31 h
  · have h := if_t c4 h
    refine r_aload_n 14 hk dX11_clean_13 rfl 0 rfl rfl ?_
    refine r_iconst 15 hk dX11_clean_14 rfl ci_1 ?_
    obtain ⟨r16, w17, ew17, h⟩ := ob_e h
    refine r_cVi 18 (As := [.int 1]) (rest := []) hk (kX11_refused hN ew17) cf_RX11_51 mi_X11_refused ⟨TX11, 36, rfl⟩ dX11_clean_15 rfl (Nat.le_of_ble_eq_true rfl) (Nat.le_of_ble_eq_true rfl) (mk_11_0 (nx_11 hN (j := 0) (by decide))) rfl rfl (Nat.le_of_ble_eq_true rfl) ?_
    exact r_iret hk hR dX11_clean_18 h
def fX11_cut (nd : Nat) (w : Wd) (x1 : Int32) (x2 : Int32) : Option (Int32 × Wd) :=
  lw (sI w 11 0 0 (0)) fun w1 =>
  ob (fX11_refusesCut nd w1 (x1) (x2)) fun r2 w3 =>
  if (r2 : Int32) ≤ 0 then
    ob (fX11_remembers nd w3 ) fun _ w6 =>
    ob (fX11_cuts nd w6 (x1) (x2)) fun r7 w8 =>
    ob (fX11_done nd w8 (r7)) fun r9 w10 =>
    some (r9, w10)
  else
    ob (fX11_refused nd w3 (r2)) fun r11 w12 =>
    some (r11, w12)
set_option maxRecDepth 100000 in
set_option maxHeartbeats 4000000 in
theorem kX11_cut {l : Launch} {G : Gx} {al : Al} {w : Wd} {x1 : Int32} {x2 : Int32} {r : Int32} {wz : Wd} (hN : NX G) (h : fX11_cut (gN G 10) w x1 x2 = some (r, wz)) : MC l G yX11_cut cX11_cut 4 (some (.int)) 6 135 al w [.ref (al 11 0 0), .int x1, .int x2] (some (.int r)) wz := by
  refine mc_of [(0, .ref (al 11 0 0)), (1, .int x1), (2, .int x2)] (by decide) (Nat.le_of_ble_eq_true rfl) rfl ?_
  intro K hk hR hn hl hG
  subst hl; subst hG
  have hk : VH K RX11 cX11_cut 6 135 := hk
  rw [fX11_cut.eq_1] at h
  refine r_aload_n 1 hk dX11_cut_0 rfl 0 rfl rfl ?_
  refine r_iconst 2 hk dX11_cut_1 rfl ci_0 ?_
  obtain ⟨w1, ew1, h⟩ := lw_e h
  refine r_putI 5 w1 hk dX11_cut_2 rfl ff_RX11_45 fi_11_0 (mk_11_0 (nx_11 hN (j := 0) (by decide))) ew1 ?_
  refine r_aload_n 6 hk dX11_cut_5 rfl 0 rfl rfl ?_
  refine r_iload_n 7 hk dX11_cut_6 rfl 1 rfl rfl ?_
  refine r_iload_n 8 hk dX11_cut_7 rfl 2 rfl rfl ?_
  obtain ⟨r2, w3, ew3, h⟩ := ob_e h
  refine r_cVi 11 (As := [.int x1, .int x2]) (rest := []) hk (kX11_refusesCut hN ew3) cf_RX11_373 mi_X11_refusesCut ⟨TX11, 36, rfl⟩ dX11_cut_8 rfl (Nat.le_of_ble_eq_true rfl) (Nat.le_of_ble_eq_true rfl) (mk_11_0 (nx_11 hN (j := 0) (by decide))) rfl rfl (Nat.le_of_ble_eq_true rfl) ?_
  refine r_istore_n 12 [(3, .int r2), (0, .ref (al 11 0 0)), (1, .int x1), (2, .int x2)] hk dX11_cut_11 rfl rfl hn (by decide) rfl rfl ?_
  refine r_iload_n 13 hk dX11_cut_12 rfl 0 rfl rfl ?_
  refine r_if_le 22 16 hk dX11_cut_13 rfl rfl (fun c4 => ?_) (fun c4 => ?_)
  · have h := if_t c4 h
    refine r_aload_n 23 hk dX11_cut_22 rfl 1 rfl rfl ?_
    obtain ⟨r5, w6, ew6, h⟩ := ob_e h
    refine r_cVv 26 (As := []) (rest := []) hk (kX11_remembers hN ew6) cf_RX11_456 mi_X11_remembers ⟨TX11, 36, rfl⟩ dX11_cut_23 rfl (Nat.le_of_ble_eq_true rfl) (Nat.le_of_ble_eq_true rfl) (mk_11_0 (nx_11 hN (j := 0) (by decide))) rfl rfl (Nat.le_of_ble_eq_true rfl) ?_
    refine r_aload_n 27 hk dX11_cut_26 rfl 1 rfl rfl ?_
    refine r_aload_n 28 hk dX11_cut_27 rfl 1 rfl rfl ?_
    refine r_iload_n 29 hk dX11_cut_28 rfl 2 rfl rfl ?_
    refine r_iload_n 30 hk dX11_cut_29 rfl 3 rfl rfl ?_
    obtain ⟨r7, w8, ew8, h⟩ := ob_e h
    refine r_cVi 33 (As := [.int x1, .int x2]) (rest := [.ref (al 11 0 0)]) hk (kX11_cuts hN ew8) cf_RX11_376 mi_X11_cuts ⟨TX11, 36, rfl⟩ dX11_cut_30 rfl (Nat.le_of_ble_eq_true rfl) (Nat.le_of_ble_eq_true rfl) (mk_11_0 (nx_11 hN (j := 0) (by decide))) rfl rfl (Nat.le_of_ble_eq_true rfl) ?_
    obtain ⟨r9, w10, ew10, h⟩ := ob_e h
    refine r_cVi 36 (As := [.int r7]) (rest := []) hk (kX11_done hN ew10) cf_RX11_459 mi_X11_done ⟨TX11, 36, rfl⟩ dX11_cut_33 rfl (Nat.le_of_ble_eq_true rfl) (Nat.le_of_ble_eq_true rfl) (mk_11_0 (nx_11 hN (j := 0) (by decide))) rfl rfl (Nat.le_of_ble_eq_true rfl) ?_
    exact r_iret hk hR dX11_cut_36 h
  · have h := if_f c4 h
    refine r_aload_n 17 hk dX11_cut_16 rfl 1 rfl rfl ?_
    refine r_iload_n 18 hk dX11_cut_17 rfl 0 rfl rfl ?_
    obtain ⟨r11, w12, ew12, h⟩ := ob_e h
    refine r_cVi 21 (As := [.int r2]) (rest := []) hk (kX11_refused hN ew12) cf_RX11_51 mi_X11_refused ⟨TX11, 36, rfl⟩ dX11_cut_18 rfl (Nat.le_of_ble_eq_true rfl) (Nat.le_of_ble_eq_true rfl) (mk_11_0 (nx_11 hN (j := 0) (by decide))) rfl rfl (Nat.le_of_ble_eq_true rfl) ?_
    exact r_iret hk hR dX11_cut_21 h
def fX11_recover (nd : Nat) (w : Wd) : Option (Int32 × Wd) :=
  lw (sI w 11 0 0 (0)) fun w1 =>
  if (w1 11 0).2.2.1 3 = 0 then
    ob (fX11_refused nd w1 (1)) fun r3 w4 =>
    some (r3, w4)
  else
    ob (fX11_isDown nd w1 ) fun r5 w6 =>
    if (r5 : Int32) = 0 then
      ob (fX11_refused nd w6 (5)) fun r14 w15 =>
      some (r14, w15)
    else
      ob (fX11_remembers nd w6 ) fun _ w9 =>
      ob (fX11_recovers nd w9 ) fun r10 w11 =>
      ob (fX11_done nd w11 (r10)) fun r12 w13 =>
      some (r12, w13)
set_option maxRecDepth 100000 in
set_option maxHeartbeats 4000000 in
theorem kX11_recover {l : Launch} {G : Gx} {al : Al} {w : Wd} {r : Int32} {wz : Wd} (hN : NX G) (h : fX11_recover (gN G 10) w = some (r, wz)) : MC l G yX11_recover cX11_recover 1 (some (.int)) 4 89 al w [.ref (al 11 0 0)] (some (.int r)) wz := by
  refine mc_of [(0, .ref (al 11 0 0))] (by decide) (Nat.le_of_ble_eq_true rfl) rfl ?_
  intro K hk hR hn hl hG
  subst hl; subst hG
  have hk : VH K RX11 cX11_recover 4 89 := hk
  rw [fX11_recover.eq_1] at h
  refine r_aload_n 1 hk dX11_recover_0 rfl 0 rfl rfl ?_
  refine r_iconst 2 hk dX11_recover_1 rfl ci_0 ?_
  obtain ⟨w1, ew1, h⟩ := lw_e h
  refine r_putI 5 w1 hk dX11_recover_2 rfl ff_RX11_45 fi_11_0 (mk_11_0 (nx_11 hN (j := 0) (by decide))) ew1 ?_
  refine r_aload_n 6 hk dX11_recover_5 rfl 0 rfl rfl ?_
  refine r_get 9 hk dX11_recover_6 rfl ff_RX11_260 (mk_11_0 (nx_11 hN (j := 0) (by decide))) (gv_11_3 _ _ _) ?_
  by_cases c2 : (w1 11 0).2.2.1 3 = 0
  · have h := if_t c2 h
    refine r_pv0 c2 ?_
    refine r_ifnonnull0 12 hk dX11_recover_9 rfl ?_
    refine r_aload_n 13 hk dX11_recover_12 rfl 0 rfl rfl ?_
    refine r_iconst 14 hk dX11_recover_13 rfl ci_1 ?_
    obtain ⟨r3, w4, ew4, h⟩ := ob_e h
    refine r_cVi 17 (As := [.int 1]) (rest := []) hk (kX11_refused hN ew4) cf_RX11_51 mi_X11_refused ⟨TX11, 36, rfl⟩ dX11_recover_14 rfl (Nat.le_of_ble_eq_true rfl) (Nat.le_of_ble_eq_true rfl) (mk_11_0 (nx_11 hN (j := 0) (by decide))) rfl rfl (Nat.le_of_ble_eq_true rfl) ?_
    exact r_iret hk hR dX11_recover_17 h
  · have h := if_f c2 h
    obtain ⟨q16, eq16⟩ := Nat.exists_eq_succ_of_ne_zero c2
    refine r_pv1 eq16 ?_
    refine r_ifnonnull1 18 hk dX11_recover_9 rfl ?_
    refine r_aload_n 19 hk dX11_recover_18 rfl 0 rfl rfl ?_
    obtain ⟨r5, w6, ew6, h⟩ := ob_e h
    refine r_cVi 22 (As := []) (rest := []) hk (kX11_isDown hN ew6) cf_RX11_349 mi_X11_isDown ⟨TX11, 36, rfl⟩ dX11_recover_19 rfl (Nat.le_of_ble_eq_true rfl) (Nat.le_of_ble_eq_true rfl) (mk_11_0 (nx_11 hN (j := 0) (by decide))) rfl rfl (Nat.le_of_ble_eq_true rfl) ?_
    refine r_if_ne 31 25 hk dX11_recover_22 rfl rfl (fun c7 => ?_) (fun c7 => ?_)
    · have h := if_f c7 h
      refine r_aload_n 32 hk dX11_recover_31 rfl 0 rfl rfl ?_
      obtain ⟨r8, w9, ew9, h⟩ := ob_e h
      refine r_cVv 35 (As := []) (rest := []) hk (kX11_remembers hN ew9) cf_RX11_456 mi_X11_remembers ⟨TX11, 36, rfl⟩ dX11_recover_32 rfl (Nat.le_of_ble_eq_true rfl) (Nat.le_of_ble_eq_true rfl) (mk_11_0 (nx_11 hN (j := 0) (by decide))) rfl rfl (Nat.le_of_ble_eq_true rfl) ?_
      refine r_aload_n 36 hk dX11_recover_35 rfl 0 rfl rfl ?_
      refine r_aload_n 37 hk dX11_recover_36 rfl 0 rfl rfl ?_
      obtain ⟨r10, w11, ew11, h⟩ := ob_e h
      refine r_cVi 40 (As := []) (rest := [.ref (al 11 0 0)]) hk (kX11_recovers hN ew11) cf_RX11_379 mi_X11_recovers ⟨TX11, 36, rfl⟩ dX11_recover_37 rfl (Nat.le_of_ble_eq_true rfl) (Nat.le_of_ble_eq_true rfl) (mk_11_0 (nx_11 hN (j := 0) (by decide))) rfl rfl (Nat.le_of_ble_eq_true rfl) ?_
      obtain ⟨r12, w13, ew13, h⟩ := ob_e h
      refine r_cVi 43 (As := [.int r10]) (rest := []) hk (kX11_done hN ew13) cf_RX11_459 mi_X11_done ⟨TX11, 36, rfl⟩ dX11_recover_40 rfl (Nat.le_of_ble_eq_true rfl) (Nat.le_of_ble_eq_true rfl) (mk_11_0 (nx_11 hN (j := 0) (by decide))) rfl rfl (Nat.le_of_ble_eq_true rfl) ?_
      exact r_iret hk hR dX11_recover_43 h
    · have h := if_t c7 h
      refine r_aload_n 26 hk dX11_recover_25 rfl 0 rfl rfl ?_
      refine r_iconst 27 hk dX11_recover_26 rfl ci_5 ?_
      obtain ⟨r14, w15, ew15, h⟩ := ob_e h
      refine r_cVi 30 (As := [.int 5]) (rest := []) hk (kX11_refused hN ew15) cf_RX11_51 mi_X11_refused ⟨TX11, 36, rfl⟩ dX11_recover_27 rfl (Nat.le_of_ble_eq_true rfl) (Nat.le_of_ble_eq_true rfl) (mk_11_0 (nx_11 hN (j := 0) (by decide))) rfl rfl (Nat.le_of_ble_eq_true rfl) ?_
      exact r_iret hk hR dX11_recover_30 h
def fX11_undo_38 (nd : Nat) : Nat → Wd → Int32 → Option (Int32 × Wd)
  | 0, _, _ => none
  | n + 1, w, x1 =>
    if (110 : Int32) ≤ x1 then
      ob (fX11_granted nd w ) fun r13 w14 =>
      ck (isb (r13)) <|
      some (r13, w14)
    else
      ck (inb (((110 * ((w 11 0).1 19)) + x1)) 1760) <|
      ck (inb (x1) 110) <|
      lw (sA w 11 0 15 (x1 : Int32).toNatClampNeg (((w 11 0).2.1 17 (((110 * ((w 11 0).1 19)) + x1) : Int32).toNatClampNeg))) fun w18 =>
      lw (x1 + 1) fun x1_19 =>
      fX11_undo_38 nd n w18 (x1_19)
def fX11_undo (nd : Nat) (w : Wd) : Option (Int32 × Wd) :=
  lw (sI w 11 0 0 (0)) fun w1 =>
  if (w1 11 0).2.2.1 3 = 0 then
    ob (fX11_denied nd w1 (6)) fun r3 w4 =>
    ck (isb (r3)) <|
    some (r3, w4)
  else
    if (((w1 11 0).1 19) : Int32) = 0 then
      ob (fX11_denied nd w1 (6)) fun r8 w9 =>
      ck (isb (r8)) <|
      some (r8, w9)
    else
      lw (sI w1 11 0 19 ((((w1 11 0).1 19) - 1))) fun w7 =>
      fX11_undo_38 nd fuel0 w7 (0)
set_option maxRecDepth 100000 in
set_option maxHeartbeats 4000000 in
theorem sX11_undo_38 {K : VC} {al : Al} {r : Int32} {wz : Wd}  (hk : VH K RX11 cX11_undo 2 42) (hR : VR K al (some (.boolean)) (some (.int r)) wz) (hn : kn K = 2) (hN : NX (kG K)) : ∀ (n : Nat) (w : Wd) (x1 : Int32), fX11_undo_38 (gN (kG K) 10) n w x1 = some (r, wz) → V K al w 38 [(0, .ref (al 11 0 0)), (1, .int x1)] [] := by
  intro n
  induction n with
  | zero => intro w x1 h; cases h
  | succ n ih =>
    intro w x1 h
    rw [fX11_undo_38.eq_2] at h
    refine r_iload_n 39 hk dX11_undo_38 rfl 1 rfl rfl ?_
    refine r_bipush 41 hk dX11_undo_39 rfl cb_110 ?_
    refine r_icmp_ge 70 44 hk dX11_undo_41 rfl rfl (fun c12 => ?_) (fun c12 => ?_)
    · have h := if_t c12 h
      refine r_aload_n 71 hk dX11_undo_70 rfl 0 rfl rfl ?_
      obtain ⟨r13, w14, ew14, h⟩ := ob_e h
      refine r_cVi 74 (As := []) (rest := []) hk (kX11_granted hN ew14) cf_RX11_465 mi_X11_granted ⟨TX11, 36, rfl⟩ dX11_undo_71 rfl (Nat.le_of_ble_eq_true rfl) (Nat.le_of_ble_eq_true rfl) (mk_11_0 (nx_11 hN (j := 0) (by decide))) rfl rfl (Nat.le_of_ble_eq_true rfl) ?_
      obtain ⟨b15, h⟩ := ck_e h
      exact r_zret hk hR dX11_undo_74 b15 h
    · have h := if_f c12 h
      refine r_aload_n 45 hk dX11_undo_44 rfl 0 rfl rfl ?_
      refine r_get 48 hk dX11_undo_45 rfl ff_RX11_17 (mk_11_0 (nx_11 hN (j := 0) (by decide))) (gv_11_15 _ _ _) ?_
      refine r_iload_n 49 hk dX11_undo_48 rfl 1 rfl rfl ?_
      refine r_aload_n 50 hk dX11_undo_49 rfl 0 rfl rfl ?_
      refine r_get 53 hk dX11_undo_50 rfl ff_RX11_24 (mk_11_0 (nx_11 hN (j := 0) (by decide))) (gv_11_17 _ _ _) ?_
      refine r_bipush 55 hk dX11_undo_53 rfl cb_110 ?_
      refine r_aload_n 56 hk dX11_undo_55 rfl 0 rfl rfl ?_
      refine r_get 59 hk dX11_undo_56 rfl ff_RX11_268 (mk_11_0 (nx_11 hN (j := 0) (by decide))) (gv_11_19 _ _ _) ?_
      refine r_imul 60 hk dX11_undo_59 rfl ?_
      refine r_iload_n 61 hk dX11_undo_60 rfl 1 rfl rfl ?_
      refine r_iadd 62 hk dX11_undo_61 rfl ?_
      obtain ⟨b16, h⟩ := ck_e h
      refine r_iald 63 hk dX11_undo_62 rfl rfl (mk_11_18 (nx_11 hN (j := 0) (by decide))) rfl b16 ?_
      obtain ⟨b17, h⟩ := ck_e h
      obtain ⟨w18, ew18, h⟩ := lw_e h
      refine r_iast 64 w18 hk dX11_undo_63 rfl rfl (mk_11_16 (nx_11 hN (j := 0) (by decide))) rfl b17 ew18 ?_
      obtain ⟨x1_19, ex1_19, h⟩ := lw_e h
      refine r_iinc 67 [(1, .int x1_19), (0, .ref (al 11 0 0))] hk (j := 1) dX11_undo_64 rfl hn (by decide) rfl ex1_19 rfl ?_
      refine r_goto 38 hk (x := 0) dX11_undo_67 rfl ?_
      refine r_sub [1, 0] rfl ?_
      exact ih _ _ h
set_option maxRecDepth 100000 in
set_option maxHeartbeats 4000000 in
theorem kX11_undo {l : Launch} {G : Gx} {al : Al} {w : Wd} {r : Int32} {wz : Wd} (hN : NX G) (h : fX11_undo (gN G 10) w = some (r, wz)) : MC l G yX11_undo cX11_undo 2 (some (.boolean)) 2 42 al w [.ref (al 11 0 0)] (some (.int r)) wz := by
  refine mc_of [(0, .ref (al 11 0 0))] (by decide) (Nat.le_of_ble_eq_true rfl) rfl ?_
  intro K hk hR hn hl hG
  subst hl; subst hG
  have hk : VH K RX11 cX11_undo 2 42 := hk
  rw [fX11_undo.eq_1] at h
  refine r_aload_n 1 hk dX11_undo_0 rfl 0 rfl rfl ?_
  refine r_iconst 2 hk dX11_undo_1 rfl ci_0 ?_
  obtain ⟨w1, ew1, h⟩ := lw_e h
  refine r_putI 5 w1 hk dX11_undo_2 rfl ff_RX11_45 fi_11_0 (mk_11_0 (nx_11 hN (j := 0) (by decide))) ew1 ?_
  refine r_aload_n 6 hk dX11_undo_5 rfl 0 rfl rfl ?_
  refine r_get 9 hk dX11_undo_6 rfl ff_RX11_260 (mk_11_0 (nx_11 hN (j := 0) (by decide))) (gv_11_3 _ _ _) ?_
  by_cases c2 : (w1 11 0).2.2.1 3 = 0
  · have h := if_t c2 h
    refine r_pv0 c2 ?_
    refine r_ifnull1 19 hk (x := 0) dX11_undo_9 rfl ?_
    refine r_aload_n 20 hk dX11_undo_19 rfl 0 rfl rfl ?_
    refine r_bipush 22 hk dX11_undo_20 rfl cb_6 ?_
    obtain ⟨r3, w4, ew4, h⟩ := ob_e h
    refine r_cVi 25 (As := [.int 6]) (rest := []) hk (kX11_denied hN ew4) cf_RX11_462 mi_X11_denied ⟨TX11, 36, rfl⟩ dX11_undo_22 rfl (Nat.le_of_ble_eq_true rfl) (Nat.le_of_ble_eq_true rfl) (mk_11_0 (nx_11 hN (j := 0) (by decide))) rfl rfl (Nat.le_of_ble_eq_true rfl) ?_
    obtain ⟨b5, h⟩ := ck_e h
    exact r_zret hk hR dX11_undo_25 b5 h
  · have h := if_f c2 h
    obtain ⟨q11, eq11⟩ := Nat.exists_eq_succ_of_ne_zero c2
    refine r_pv1 eq11 ?_
    refine r_ifnull0 12 hk dX11_undo_9 rfl ?_
    refine r_aload_n 13 hk dX11_undo_12 rfl 0 rfl rfl ?_
    refine r_get 16 hk dX11_undo_13 rfl ff_RX11_268 (mk_11_0 (nx_11 hN (j := 0) (by decide))) (gv_11_19 _ _ _) ?_
    refine r_if_ne 26 19 hk dX11_undo_16 rfl rfl (fun c6 => ?_) (fun c6 => ?_)
    · have h := if_f c6 h
      refine r_aload_n 27 hk dX11_undo_26 rfl 0 rfl rfl ?_
      refine r_dup 28 hk dX11_undo_27 rfl rfl ?_
      refine r_get 31 hk dX11_undo_28 rfl ff_RX11_268 (mk_11_0 (nx_11 hN (j := 0) (by decide))) (gv_11_19 _ _ _) ?_
      refine r_iconst 32 hk dX11_undo_31 rfl ci_1 ?_
      refine r_isub 33 hk dX11_undo_32 rfl ?_
      obtain ⟨w7, ew7, h⟩ := lw_e h
      refine r_putI 36 w7 hk dX11_undo_33 rfl ff_RX11_268 fi_11_19 (mk_11_0 (nx_11 hN (j := 0) (by decide))) ew7 ?_
      refine r_iconst 37 hk dX11_undo_36 rfl ci_0 ?_
      refine r_istore_n 38 [(1, .int 0), (0, .ref (al 11 0 0))] hk dX11_undo_37 rfl rfl hn (by decide) rfl rfl ?_
      refine r_sub [1, 0] rfl ?_
      exact sX11_undo_38 hk hR hn hN _ _ _ h
    · have h := if_t c6 h
      refine r_aload_n 20 hk dX11_undo_19 rfl 0 rfl rfl ?_
      refine r_bipush 22 hk dX11_undo_20 rfl cb_6 ?_
      obtain ⟨r8, w9, ew9, h⟩ := ob_e h
      refine r_cVi 25 (As := [.int 6]) (rest := []) hk (kX11_denied hN ew9) cf_RX11_462 mi_X11_denied ⟨TX11, 36, rfl⟩ dX11_undo_22 rfl (Nat.le_of_ble_eq_true rfl) (Nat.le_of_ble_eq_true rfl) (mk_11_0 (nx_11 hN (j := 0) (by decide))) rfl rfl (Nat.le_of_ble_eq_true rfl) ?_
      obtain ⟨b10, h⟩ := ck_e h
      exact r_zret hk hR dX11_undo_25 b10 h
def fX11_image_34 (nd : Nat) : Nat → Wd → Int32 → Option (Int32 × Wd)
  | 0, _, _ => none
  | n + 1, w, x1 =>
    if (110 : Int32) ≤ x1 then
      lw (sI w 11 0 20 ((((w 11 0).1 20) + 1))) fun w10 =>
      ob (fX11_good nd w10 ((((w10 11 0).1 20) - 1))) fun r11 w12 =>
      some (r11, w12)
    else
      ck (inb (x1) 110) <|
      ck (inb (((110 * ((w 11 0).1 20)) + x1)) 330) <|
      lw (sA w 11 0 18 (((110 * ((w 11 0).1 20)) + x1) : Int32).toNatClampNeg (((w 11 0).2.1 15 (x1 : Int32).toNatClampNeg))) fun w15 =>
      lw (x1 + 1) fun x1_16 =>
      fX11_image_34 nd n w15 (x1_16)
def fX11_image (nd : Nat) (w : Wd) : Option (Int32 × Wd) :=
  lw (sI w 11 0 0 (0)) fun w1 =>
  if (w1 11 0).2.2.1 3 = 0 then
    ob (fX11_refused nd w1 (1)) fun r3 w4 =>
    some (r3, w4)
  else
    if (((w1 11 0).1 20) : Int32) = 3 then
      ob (fX11_refused nd w1 (3)) fun r6 w7 =>
      some (r6, w7)
    else
      fX11_image_34 nd fuel0 w1 (0)
set_option maxRecDepth 100000 in
set_option maxHeartbeats 4000000 in
theorem sX11_image_34 {K : VC} {al : Al} {r : Int32} {wz : Wd}  (hk : VH K RX11 cX11_image 1 21) (hR : VR K al (some (.int)) (some (.int r)) wz) (hn : kn K = 2) (hN : NX (kG K)) : ∀ (n : Nat) (w : Wd) (x1 : Int32), fX11_image_34 (gN (kG K) 10) n w x1 = some (r, wz) → V K al w 34 [(0, .ref (al 11 0 0)), (1, .int x1)] [] := by
  intro n
  induction n with
  | zero => intro w x1 h; cases h
  | succ n ih =>
    intro w x1 h
    rw [fX11_image_34.eq_2] at h
    refine r_iload_n 35 hk dX11_image_34 rfl 1 rfl rfl ?_
    refine r_bipush 37 hk dX11_image_35 rfl cb_110 ?_
    refine r_icmp_ge 66 40 hk dX11_image_37 rfl rfl (fun c9 => ?_) (fun c9 => ?_)
    · have h := if_t c9 h
      refine r_aload_n 67 hk dX11_image_66 rfl 0 rfl rfl ?_
      refine r_dup 68 hk dX11_image_67 rfl rfl ?_
      refine r_get 71 hk dX11_image_68 rfl ff_RX11_271 (mk_11_0 (nx_11 hN (j := 0) (by decide))) (gv_11_20 _ _ _) ?_
      refine r_iconst 72 hk dX11_image_71 rfl ci_1 ?_
      refine r_iadd 73 hk dX11_image_72 rfl ?_
      obtain ⟨w10, ew10, h⟩ := lw_e h
      refine r_putI 76 w10 hk dX11_image_73 rfl ff_RX11_271 fi_11_20 (mk_11_0 (nx_11 hN (j := 0) (by decide))) ew10 ?_
      refine r_aload_n 77 hk dX11_image_76 rfl 0 rfl rfl ?_
      refine r_aload_n 78 hk dX11_image_77 rfl 0 rfl rfl ?_
      refine r_get 81 hk dX11_image_78 rfl ff_RX11_271 (mk_11_0 (nx_11 hN (j := 0) (by decide))) (gv_11_20 _ _ _) ?_
      refine r_iconst 82 hk dX11_image_81 rfl ci_1 ?_
      refine r_isub 83 hk dX11_image_82 rfl ?_
      obtain ⟨r11, w12, ew12, h⟩ := ob_e h
      refine r_cVi 86 (As := [.int ((((w10 11 0).1 20) - 1))]) (rest := []) hk (kX11_good hN ew12) cf_RX11_55 mi_X11_good ⟨TX11, 36, rfl⟩ dX11_image_83 rfl (Nat.le_of_ble_eq_true rfl) (Nat.le_of_ble_eq_true rfl) (mk_11_0 (nx_11 hN (j := 0) (by decide))) rfl rfl (Nat.le_of_ble_eq_true rfl) ?_
      exact r_iret hk hR dX11_image_86 h
    · have h := if_f c9 h
      refine r_aload_n 41 hk dX11_image_40 rfl 0 rfl rfl ?_
      refine r_get 44 hk dX11_image_41 rfl ff_RX11_27 (mk_11_0 (nx_11 hN (j := 0) (by decide))) (gv_11_18 _ _ _) ?_
      refine r_bipush 46 hk dX11_image_44 rfl cb_110 ?_
      refine r_aload_n 47 hk dX11_image_46 rfl 0 rfl rfl ?_
      refine r_get 50 hk dX11_image_47 rfl ff_RX11_271 (mk_11_0 (nx_11 hN (j := 0) (by decide))) (gv_11_20 _ _ _) ?_
      refine r_imul 51 hk dX11_image_50 rfl ?_
      refine r_iload_n 52 hk dX11_image_51 rfl 1 rfl rfl ?_
      refine r_iadd 53 hk dX11_image_52 rfl ?_
      refine r_aload_n 54 hk dX11_image_53 rfl 0 rfl rfl ?_
      refine r_get 57 hk dX11_image_54 rfl ff_RX11_17 (mk_11_0 (nx_11 hN (j := 0) (by decide))) (gv_11_15 _ _ _) ?_
      refine r_iload_n 58 hk dX11_image_57 rfl 1 rfl rfl ?_
      obtain ⟨b13, h⟩ := ck_e h
      refine r_iald 59 hk dX11_image_58 rfl rfl (mk_11_16 (nx_11 hN (j := 0) (by decide))) rfl b13 ?_
      obtain ⟨b14, h⟩ := ck_e h
      obtain ⟨w15, ew15, h⟩ := lw_e h
      refine r_iast 60 w15 hk dX11_image_59 rfl rfl (mk_11_19 (nx_11 hN (j := 0) (by decide))) rfl b14 ew15 ?_
      obtain ⟨x1_16, ex1_16, h⟩ := lw_e h
      refine r_iinc 63 [(1, .int x1_16), (0, .ref (al 11 0 0))] hk (j := 1) dX11_image_60 rfl hn (by decide) rfl ex1_16 rfl ?_
      refine r_goto 34 hk (x := 0) dX11_image_63 rfl ?_
      refine r_sub [1, 0] rfl ?_
      exact ih _ _ h
set_option maxRecDepth 100000 in
set_option maxHeartbeats 4000000 in
theorem kX11_image {l : Launch} {G : Gx} {al : Al} {w : Wd} {r : Int32} {wz : Wd} (hN : NX G) (h : fX11_image (gN G 10) w = some (r, wz)) : MC l G yX11_image cX11_image 2 (some (.int)) 1 21 al w [.ref (al 11 0 0)] (some (.int r)) wz := by
  refine mc_of [(0, .ref (al 11 0 0))] (by decide) (Nat.le_of_ble_eq_true rfl) rfl ?_
  intro K hk hR hn hl hG
  subst hl; subst hG
  have hk : VH K RX11 cX11_image 1 21 := hk
  rw [fX11_image.eq_1] at h
  refine r_aload_n 1 hk dX11_image_0 rfl 0 rfl rfl ?_
  refine r_iconst 2 hk dX11_image_1 rfl ci_0 ?_
  obtain ⟨w1, ew1, h⟩ := lw_e h
  refine r_putI 5 w1 hk dX11_image_2 rfl ff_RX11_45 fi_11_0 (mk_11_0 (nx_11 hN (j := 0) (by decide))) ew1 ?_
  refine r_aload_n 6 hk dX11_image_5 rfl 0 rfl rfl ?_
  refine r_get 9 hk dX11_image_6 rfl ff_RX11_260 (mk_11_0 (nx_11 hN (j := 0) (by decide))) (gv_11_3 _ _ _) ?_
  by_cases c2 : (w1 11 0).2.2.1 3 = 0
  · have h := if_t c2 h
    refine r_pv0 c2 ?_
    refine r_ifnonnull0 12 hk dX11_image_9 rfl ?_
    refine r_aload_n 13 hk dX11_image_12 rfl 0 rfl rfl ?_
    refine r_iconst 14 hk dX11_image_13 rfl ci_1 ?_
    obtain ⟨r3, w4, ew4, h⟩ := ob_e h
    refine r_cVi 17 (As := [.int 1]) (rest := []) hk (kX11_refused hN ew4) cf_RX11_51 mi_X11_refused ⟨TX11, 36, rfl⟩ dX11_image_14 rfl (Nat.le_of_ble_eq_true rfl) (Nat.le_of_ble_eq_true rfl) (mk_11_0 (nx_11 hN (j := 0) (by decide))) rfl rfl (Nat.le_of_ble_eq_true rfl) ?_
    exact r_iret hk hR dX11_image_17 h
  · have h := if_f c2 h
    obtain ⟨q8, eq8⟩ := Nat.exists_eq_succ_of_ne_zero c2
    refine r_pv1 eq8 ?_
    refine r_ifnonnull1 18 hk dX11_image_9 rfl ?_
    refine r_aload_n 19 hk dX11_image_18 rfl 0 rfl rfl ?_
    refine r_get 22 hk dX11_image_19 rfl ff_RX11_271 (mk_11_0 (nx_11 hN (j := 0) (by decide))) (gv_11_20 _ _ _) ?_
    refine r_iconst 23 hk dX11_image_22 rfl ci_3 ?_
    refine r_icmp_ne 32 26 hk dX11_image_23 rfl rfl (fun c5 => ?_) (fun c5 => ?_)
    · have h := if_f c5 h
      refine r_iconst 33 hk dX11_image_32 rfl ci_0 ?_
      refine r_istore_n 34 [(1, .int 0), (0, .ref (al 11 0 0))] hk dX11_image_33 rfl rfl hn (by decide) rfl rfl ?_
      refine r_sub [1, 0] rfl ?_
      exact sX11_image_34 hk hR hn hN _ _ _ h
    · have h := if_t c5 h
      refine r_aload_n 27 hk dX11_image_26 rfl 0 rfl rfl ?_
      refine r_iconst 28 hk dX11_image_27 rfl ci_3 ?_
      obtain ⟨r6, w7, ew7, h⟩ := ob_e h
      refine r_cVi 31 (As := [.int 3]) (rest := []) hk (kX11_refused hN ew7) cf_RX11_51 mi_X11_refused ⟨TX11, 36, rfl⟩ dX11_image_28 rfl (Nat.le_of_ble_eq_true rfl) (Nat.le_of_ble_eq_true rfl) (mk_11_0 (nx_11 hN (j := 0) (by decide))) rfl rfl (Nat.le_of_ble_eq_true rfl) ?_
      exact r_iret hk hR dX11_image_31 h
