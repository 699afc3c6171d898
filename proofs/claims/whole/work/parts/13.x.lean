def fX9_readThen (w : Wd) (x1 : Int32) (x2 : Int32) (x3 : Int32) : Option (Int32 × Wd) :=
  ob (fX9_hasTrack w (x3)) fun r1 w2 =>
  if (r1 : Int32) = 0 then
    ob (fX9_refuse w2 (1)) fun r18 w19 =>
    some (r18, w19)
  else
    ob (fX9_whyNoCut w2 (x1) (x2)) fun r4 w5 =>
    if (r4 : Int32) = 0 then
      ob (fX9_tryCut w5 (x1) (x2)) fun _ w8 =>
      ckp ((w8 9 0).2.2.1 2) 2 fun q9 =>
      ob (fX7_comeBack 1 q9 w8 ) fun r10 w11 =>
      ob (fX7_valueOf 1 w11 (x3)) fun r12 w13 =>
      ob (fX9_accept w13 (r12)) fun r14 w15 =>
      some (r14, w15)
    else
      ob (fX9_refuse w5 (r4)) fun r16 w17 =>
      some (r16, w17)
set_option maxRecDepth 100000 in
set_option maxHeartbeats 4000000 in
theorem kX9_readThen {l : Launch} {G : Gx} {al : Al} {w : Wd} {x1 : Int32} {x2 : Int32} {x3 : Int32} {r : Int32} {wz : Wd} (hN : NX G) (h : fX9_readThen w x1 x2 x3 = some (r, wz)) : MC l G yX9_readThen cX9_readThen 5 (some (.int)) 6 137 al w [.ref (al 9 0 0), .int x1, .int x2, .int x3] (some (.int r)) wz := by
  refine mc_of [(0, .ref (al 9 0 0)), (1, .int x1), (2, .int x2), (3, .int x3)] (by decide) (Nat.le_of_ble_eq_true rfl) rfl ?_
  intro K hk hR hn hl hG
  subst hl; subst hG
  have hk : VH K RX9 cX9_readThen 6 137 := hk
  rw [fX9_readThen.eq_1] at h
  refine r_aload_n 1 hk dX9_readThen_0 rfl 0 rfl rfl ?_
  refine r_iload_n 2 hk dX9_readThen_1 rfl 3 rfl rfl ?_
  obtain ⟨r1, w2, ew2, h⟩ := ob_e h
  refine r_cVi 5 (As := [.int x3]) (rest := []) hk (kX9_hasTrack hN ew2) cf_RX9_158 mi_X9_hasTrack ⟨TX9, 16, rfl⟩ dX9_readThen_2 rfl (Nat.le_of_ble_eq_true rfl) (Nat.le_of_ble_eq_true rfl) (mk_9_0 (nx_9 hN (j := 0) (by decide))) rfl rfl (Nat.le_of_ble_eq_true rfl) ?_
  refine r_if_ne 14 8 hk dX9_readThen_5 rfl rfl (fun c3 => ?_) (fun c3 => ?_)
  · have h := if_f c3 h
    refine r_aload_n 15 hk dX9_readThen_14 rfl 0 rfl rfl ?_
    refine r_iload_n 16 hk dX9_readThen_15 rfl 1 rfl rfl ?_
    refine r_iload_n 17 hk dX9_readThen_16 rfl 2 rfl rfl ?_
    obtain ⟨r4, w5, ew5, h⟩ := ob_e h
    refine r_cVi 20 (As := [.int x1, .int x2]) (rest := []) hk (kX9_whyNoCut hN ew5) cf_RX9_248 mi_X9_whyNoCut ⟨TX9, 16, rfl⟩ dX9_readThen_17 rfl (Nat.le_of_ble_eq_true rfl) (Nat.le_of_ble_eq_true rfl) (mk_9_0 (nx_9 hN (j := 0) (by decide))) rfl rfl (Nat.le_of_ble_eq_true rfl) ?_
    refine r_istore 22 [(4, .int r4), (0, .ref (al 9 0 0)), (1, .int x1), (2, .int x2), (3, .int x3)] hk dX9_readThen_20 rfl hn (by decide) rfl rfl ?_
    refine r_iload 24 hk dX9_readThen_22 rfl 0 rfl ?_
    refine r_if_eq 34 27 hk dX9_readThen_24 rfl rfl (fun c6 => ?_) (fun c6 => ?_)
    · have h := if_t c6 h
      refine r_aload_n 35 hk dX9_readThen_34 rfl 1 rfl rfl ?_
      refine r_iload_n 36 hk dX9_readThen_35 rfl 2 rfl rfl ?_
      refine r_iload_n 37 hk dX9_readThen_36 rfl 3 rfl rfl ?_
      obtain ⟨r7, w8, ew8, h⟩ := ob_e h
      refine r_cVv 40 (As := [.int x1, .int x2]) (rest := []) hk (kX9_tryCut hN ew8) cf_RX9_251 mi_X9_tryCut ⟨TX9, 16, rfl⟩ dX9_readThen_37 rfl (Nat.le_of_ble_eq_true rfl) (Nat.le_of_ble_eq_true rfl) (mk_9_0 (nx_9 hN (j := 0) (by decide))) rfl rfl (Nat.le_of_ble_eq_true rfl) ?_
      refine r_aload_n 41 hk dX9_readThen_40 rfl 1 rfl rfl ?_
      refine r_get 44 hk dX9_readThen_41 rfl ff_RX9_46 (mk_9_0 (nx_9 hN (j := 0) (by decide))) (gv_9_7 _ _ _) ?_
      refine r_aload_n 45 hk dX9_readThen_44 rfl 1 rfl rfl ?_
      refine r_get 48 hk dX9_readThen_45 rfl ff_RX9_16 (mk_9_0 (nx_9 hN (j := 0) (by decide))) (gv_9_2 _ _ _) ?_
      obtain ⟨q9, eq9, lq9, h⟩ := ckp_e h
      refine r_pv1 eq9 ?_
      refine r_get 51 hk dX9_readThen_48 rfl ff_RX9_109 (mk_8_0 (nx_8 hN lq9)) (gv_8_0 _ _ _) ?_
      obtain ⟨r10, w11, ew11, h⟩ := ob_e h
      refine r_cVi 54 (As := [.ref (al 5 q9 0)]) (rest := []) hk (kX7_comeBack hN (nx_7 hN (j := 1) (by decide)) (nx_sh hN (nx_8 hN lq9)) ew11) cf_RX9_261 mi_X7_comeBack ⟨TX7, 11, rfl⟩ dX9_readThen_51 rfl (Nat.le_of_ble_eq_true rfl) (Nat.le_of_ble_eq_true rfl) (mk_7_0 (nx_7 hN (j := 1) (by decide))) rfl rfl (Nat.le_of_ble_eq_true rfl) ?_
      refine r_pop 55 hk dX9_readThen_54 rfl rfl ?_
      refine r_aload_n 56 hk dX9_readThen_55 rfl 1 rfl rfl ?_
      refine r_aload_n 57 hk dX9_readThen_56 rfl 1 rfl rfl ?_
      refine r_get 60 hk dX9_readThen_57 rfl ff_RX9_46 (mk_9_0 (nx_9 hN (j := 0) (by decide))) (gv_9_7 _ _ _) ?_
      refine r_iload_n 61 hk dX9_readThen_60 rfl 4 rfl rfl ?_
      obtain ⟨r12, w13, ew13, h⟩ := ob_e h
      refine r_cVi 64 (As := [.int x3]) (rest := [.ref (al 9 0 0)]) hk (kX7_valueOf hN (nx_7 hN (j := 1) (by decide)) ew13) cf_RX9_166 mi_X7_valueOf ⟨TX7, 11, rfl⟩ dX9_readThen_61 rfl (Nat.le_of_ble_eq_true rfl) (Nat.le_of_ble_eq_true rfl) (mk_7_0 (nx_7 hN (j := 1) (by decide))) rfl rfl (Nat.le_of_ble_eq_true rfl) ?_
      obtain ⟨r14, w15, ew15, h⟩ := ob_e h
      refine r_cVi 67 (As := [.int r12]) (rest := []) hk (kX9_accept hN ew15) cf_RX9_115 mi_X9_accept ⟨TX9, 16, rfl⟩ dX9_readThen_64 rfl (Nat.le_of_ble_eq_true rfl) (Nat.le_of_ble_eq_true rfl) (mk_9_0 (nx_9 hN (j := 0) (by decide))) rfl rfl (Nat.le_of_ble_eq_true rfl) ?_
      exact r_iret hk hR dX9_readThen_67 h
    · have h := if_f c6 h
      refine r_aload_n 28 hk dX9_readThen_27 rfl 1 rfl rfl ?_
      refine r_iload 30 hk dX9_readThen_28 rfl 0 rfl ?_
      obtain ⟨r16, w17, ew17, h⟩ := ob_e h
      refine r_cVi 33 (As := [.int r4]) (rest := []) hk (kX9_refuse hN ew17) cf_RX9_86 mi_X9_refuse ⟨TX9, 16, rfl⟩ dX9_readThen_30 rfl (Nat.le_of_ble_eq_true rfl) (Nat.le_of_ble_eq_true rfl) (mk_9_0 (nx_9 hN (j := 0) (by decide))) rfl rfl (Nat.le_of_ble_eq_true rfl) ?_
      exact r_iret hk hR dX9_readThen_33 h
  · have h := if_t c3 h
    refine r_aload_n 9 hk dX9_readThen_8 rfl 0 rfl rfl ?_
    refine r_iconst 10 hk dX9_readThen_9 rfl ci_1 ?_
    obtain ⟨r18, w19, ew19, h⟩ := ob_e h
    refine r_cVi 13 (As := [.int 1]) (rest := []) hk (kX9_refuse hN ew19) cf_RX9_86 mi_X9_refuse ⟨TX9, 16, rfl⟩ dX9_readThen_10 rfl (Nat.le_of_ble_eq_true rfl) (Nat.le_of_ble_eq_true rfl) (mk_9_0 (nx_9 hN (j := 0) (by decide))) rfl rfl (Nat.le_of_ble_eq_true rfl) ?_
    exact r_iret hk hR dX9_readThen_13 h
def fX9_recoversBy (w : Wd) (x1 : Int32) (x2 : Int32) : Option (Int32 × Wd) :=
  ob (fX9_whyNoCut w (x1) (x2)) fun r1 w2 =>
  if (r1 : Int32) = 0 then
    ob (fX9_tryCut w2 (x1) (x2)) fun _ w5 =>
    lw (((w5 7 1).1 9)) fun x4_6 =>
    ckp ((w5 9 0).2.2.1 2) 2 fun q7 =>
    ob (fX7_comeBack 1 q7 w5 ) fun r8 w9 =>
    ob (fX9_accept w9 ((((w9 7 1).1 9) - x4_6))) fun r10 w11 =>
    some (r10, w11)
  else
    ob (fX9_refuse w2 (r1)) fun r12 w13 =>
    some (r12, w13)
set_option maxRecDepth 100000 in
set_option maxHeartbeats 4000000 in
theorem kX9_recoversBy {l : Launch} {G : Gx} {al : Al} {w : Wd} {x1 : Int32} {x2 : Int32} {r : Int32} {wz : Wd} (hN : NX G) (h : fX9_recoversBy w x1 x2 = some (r, wz)) : MC l G yX9_recoversBy cX9_recoversBy 5 (some (.int)) 6 137 al w [.ref (al 9 0 0), .int x1, .int x2] (some (.int r)) wz := by
  refine mc_of [(0, .ref (al 9 0 0)), (1, .int x1), (2, .int x2)] (by decide) (Nat.le_of_ble_eq_true rfl) rfl ?_
  intro K hk hR hn hl hG
  subst hl; subst hG
  have hk : VH K RX9 cX9_recoversBy 6 137 := hk
  rw [fX9_recoversBy.eq_1] at h
  refine r_aload_n 1 hk dX9_recoversBy_0 rfl 0 rfl rfl ?_
  refine r_iload_n 2 hk dX9_recoversBy_1 rfl 1 rfl rfl ?_
  refine r_iload_n 3 hk dX9_recoversBy_2 rfl 2 rfl rfl ?_
  obtain ⟨r1, w2, ew2, h⟩ := ob_e h
  refine r_cVi 6 (As := [.int x1, .int x2]) (rest := []) hk (kX9_whyNoCut hN ew2) cf_RX9_248 mi_X9_whyNoCut ⟨TX9, 16, rfl⟩ dX9_recoversBy_3 rfl (Nat.le_of_ble_eq_true rfl) (Nat.le_of_ble_eq_true rfl) (mk_9_0 (nx_9 hN (j := 0) (by decide))) rfl rfl (Nat.le_of_ble_eq_true rfl) ?_
  refine r_istore_n 7 [(3, .int r1), (0, .ref (al 9 0 0)), (1, .int x1), (2, .int x2)] hk dX9_recoversBy_6 rfl rfl hn (by decide) rfl rfl ?_
  refine r_iload_n 8 hk dX9_recoversBy_7 rfl 0 rfl rfl ?_
  refine r_if_eq 17 11 hk dX9_recoversBy_8 rfl rfl (fun c3 => ?_) (fun c3 => ?_)
  · have h := if_t c3 h
    refine r_aload_n 18 hk dX9_recoversBy_17 rfl 1 rfl rfl ?_
    refine r_iload_n 19 hk dX9_recoversBy_18 rfl 2 rfl rfl ?_
    refine r_iload_n 20 hk dX9_recoversBy_19 rfl 3 rfl rfl ?_
    obtain ⟨r4, w5, ew5, h⟩ := ob_e h
    refine r_cVv 23 (As := [.int x1, .int x2]) (rest := []) hk (kX9_tryCut hN ew5) cf_RX9_251 mi_X9_tryCut ⟨TX9, 16, rfl⟩ dX9_recoversBy_20 rfl (Nat.le_of_ble_eq_true rfl) (Nat.le_of_ble_eq_true rfl) (mk_9_0 (nx_9 hN (j := 0) (by decide))) rfl rfl (Nat.le_of_ble_eq_true rfl) ?_
    refine r_aload_n 24 hk dX9_recoversBy_23 rfl 1 rfl rfl ?_
    refine r_get 27 hk dX9_recoversBy_24 rfl ff_RX9_46 (mk_9_0 (nx_9 hN (j := 0) (by decide))) (gv_9_7 _ _ _) ?_
    refine r_get 30 hk dX9_recoversBy_27 rfl ff_RX9_264 (mk_7_0 (nx_7 hN (j := 1) (by decide))) (gv_7_9 _ _ _) ?_
    obtain ⟨x4_6, ex4_6, h⟩ := lw_e h
    refine r_istore 32 [(4, .int x4_6), (3, .int r1), (0, .ref (al 9 0 0)), (1, .int x1), (2, .int x2)] hk dX9_recoversBy_30 rfl hn (by decide) ex4_6 rfl ?_
    refine r_aload_n 33 hk dX9_recoversBy_32 rfl 2 rfl rfl ?_
    refine r_get 36 hk dX9_recoversBy_33 rfl ff_RX9_46 (mk_9_0 (nx_9 hN (j := 0) (by decide))) (gv_9_7 _ _ _) ?_
    refine r_aload_n 37 hk dX9_recoversBy_36 rfl 2 rfl rfl ?_
    refine r_get 40 hk dX9_recoversBy_37 rfl ff_RX9_16 (mk_9_0 (nx_9 hN (j := 0) (by decide))) (gv_9_2 _ _ _) ?_
    obtain ⟨q7, eq7, lq7, h⟩ := ckp_e h
    refine r_pv1 eq7 ?_
    refine r_get 43 hk dX9_recoversBy_40 rfl ff_RX9_109 (mk_8_0 (nx_8 hN lq7)) (gv_8_0 _ _ _) ?_
    obtain ⟨r8, w9, ew9, h⟩ := ob_e h
    refine r_cVi 46 (As := [.ref (al 5 q7 0)]) (rest := []) hk (kX7_comeBack hN (nx_7 hN (j := 1) (by decide)) (nx_sh hN (nx_8 hN lq7)) ew9) cf_RX9_261 mi_X7_comeBack ⟨TX7, 11, rfl⟩ dX9_recoversBy_43 rfl (Nat.le_of_ble_eq_true rfl) (Nat.le_of_ble_eq_true rfl) (mk_7_0 (nx_7 hN (j := 1) (by decide))) rfl rfl (Nat.le_of_ble_eq_true rfl) ?_
    refine r_pop 47 hk dX9_recoversBy_46 rfl rfl ?_
    refine r_aload_n 48 hk dX9_recoversBy_47 rfl 2 rfl rfl ?_
    refine r_aload_n 49 hk dX9_recoversBy_48 rfl 2 rfl rfl ?_
    refine r_get 52 hk dX9_recoversBy_49 rfl ff_RX9_46 (mk_9_0 (nx_9 hN (j := 0) (by decide))) (gv_9_7 _ _ _) ?_
    refine r_get 55 hk dX9_recoversBy_52 rfl ff_RX9_264 (mk_7_0 (nx_7 hN (j := 1) (by decide))) (gv_7_9 _ _ _) ?_
    refine r_iload 57 hk dX9_recoversBy_55 rfl 0 rfl ?_
    refine r_isub 58 hk dX9_recoversBy_57 rfl ?_
    obtain ⟨r10, w11, ew11, h⟩ := ob_e h
    refine r_cVi 61 (As := [.int ((((w9 7 1).1 9) - x4_6))]) (rest := []) hk (kX9_accept hN ew11) cf_RX9_115 mi_X9_accept ⟨TX9, 16, rfl⟩ dX9_recoversBy_58 rfl (Nat.le_of_ble_eq_true rfl) (Nat.le_of_ble_eq_true rfl) (mk_9_0 (nx_9 hN (j := 0) (by decide))) rfl rfl (Nat.le_of_ble_eq_true rfl) ?_
    exact r_iret hk hR dX9_recoversBy_61 h
  · have h := if_f c3 h
    refine r_aload_n 12 hk dX9_recoversBy_11 rfl 1 rfl rfl ?_
    refine r_iload_n 13 hk dX9_recoversBy_12 rfl 0 rfl rfl ?_
    obtain ⟨r12, w13, ew13, h⟩ := ob_e h
    refine r_cVi 16 (As := [.int r1]) (rest := []) hk (kX9_refuse hN ew13) cf_RX9_86 mi_X9_refuse ⟨TX9, 16, rfl⟩ dX9_recoversBy_13 rfl (Nat.le_of_ble_eq_true rfl) (Nat.le_of_ble_eq_true rfl) (mk_9_0 (nx_9 hN (j := 0) (by decide))) rfl rfl (Nat.le_of_ble_eq_true rfl) ?_
    exact r_iret hk hR dX9_recoversBy_16 h
def fX9_runWrites (w : Wd) : Option (Int32 × Wd) :=
  ob (fX9_hasDisk w ) fun r1 w2 =>
  if (r1 : Int32) = 0 then
    ob (fX9_refuse w2 (1)) fun r9 w10 =>
    some (r9, w10)
  else
    ckp ((w2 9 0).2.2.1 2) 2 fun q4 =>
    ob (fX9_runOn q4 w2 (0)) fun _ w6 =>
    ob (fX9_accept w6 (((w6 7 1).1 9))) fun r7 w8 =>
    some (r7, w8)
set_option maxRecDepth 100000 in
set_option maxHeartbeats 4000000 in
theorem kX9_runWrites {l : Launch} {G : Gx} {al : Al} {w : Wd} {r : Int32} {wz : Wd} (hN : NX G) (h : fX9_runWrites w = some (r, wz)) : MC l G yX9_runWrites cX9_runWrites 1 (some (.int)) 6 139 al w [.ref (al 9 0 0)] (some (.int r)) wz := by
  refine mc_of [(0, .ref (al 9 0 0))] (by decide) (Nat.le_of_ble_eq_true rfl) rfl ?_
  intro K hk hR hn hl hG
  subst hl; subst hG
  have hk : VH K RX9 cX9_runWrites 6 139 := hk
  rw [fX9_runWrites.eq_1] at h
  refine r_aload_n 1 hk dX9_runWrites_0 rfl 0 rfl rfl ?_
  obtain ⟨r1, w2, ew2, h⟩ := ob_e h
  refine r_cVi 4 (As := []) (rest := []) hk (kX9_hasDisk hN ew2) cf_RX9_199 mi_X9_hasDisk ⟨TX9, 16, rfl⟩ dX9_runWrites_1 rfl (Nat.le_of_ble_eq_true rfl) (Nat.le_of_ble_eq_true rfl) (mk_9_0 (nx_9 hN (j := 0) (by decide))) rfl rfl (Nat.le_of_ble_eq_true rfl) ?_
  refine r_if_ne 13 7 hk dX9_runWrites_4 rfl rfl (fun c3 => ?_) (fun c3 => ?_)
  · have h := if_f c3 h
    refine r_aload_n 14 hk dX9_runWrites_13 rfl 0 rfl rfl ?_
    refine r_aload_n 15 hk dX9_runWrites_14 rfl 0 rfl rfl ?_
    refine r_get 18 hk dX9_runWrites_15 rfl ff_RX9_16 (mk_9_0 (nx_9 hN (j := 0) (by decide))) (gv_9_2 _ _ _) ?_
    obtain ⟨q4, eq4, lq4, h⟩ := ckp_e h
    refine r_pv1 eq4 ?_
    refine r_get 21 hk dX9_runWrites_18 rfl ff_RX9_109 (mk_8_0 (nx_8 hN lq4)) (gv_8_0 _ _ _) ?_
    refine r_iconst 22 hk dX9_runWrites_21 rfl ci_0 ?_
    obtain ⟨r5, w6, ew6, h⟩ := ob_e h
    refine r_cVv 25 (As := [.ref (al 5 q4 0), .int 0]) (rest := []) hk (kX9_runOn hN (nx_sh hN (nx_8 hN lq4)) ew6) cf_RX9_141 mi_X9_runOn ⟨TX9, 16, rfl⟩ dX9_runWrites_22 rfl (Nat.le_of_ble_eq_true rfl) (Nat.le_of_ble_eq_true rfl) (mk_9_0 (nx_9 hN (j := 0) (by decide))) rfl rfl (Nat.le_of_ble_eq_true rfl) ?_
    refine r_aload_n 26 hk dX9_runWrites_25 rfl 0 rfl rfl ?_
    refine r_aload_n 27 hk dX9_runWrites_26 rfl 0 rfl rfl ?_
    refine r_get 30 hk dX9_runWrites_27 rfl ff_RX9_46 (mk_9_0 (nx_9 hN (j := 0) (by decide))) (gv_9_7 _ _ _) ?_
    refine r_get 33 hk dX9_runWrites_30 rfl ff_RX9_264 (mk_7_0 (nx_7 hN (j := 1) (by decide))) (gv_7_9 _ _ _) ?_
    obtain ⟨r7, w8, ew8, h⟩ := ob_e h
    refine r_cVi 36 (As := [.int (((w6 7 1).1 9))]) (rest := []) hk (kX9_accept hN ew8) cf_RX9_115 mi_X9_accept ⟨TX9, 16, rfl⟩ dX9_runWrites_33 rfl (Nat.le_of_ble_eq_true rfl) (Nat.le_of_ble_eq_true rfl) (mk_9_0 (nx_9 hN (j := 0) (by decide))) rfl rfl (Nat.le_of_ble_eq_true rfl) ?_
    exact r_iret hk hR dX9_runWrites_36 h
  · have h := if_t c3 h
    refine r_aload_n 8 hk dX9_runWrites_7 rfl 0 rfl rfl ?_
    refine r_iconst 9 hk dX9_runWrites_8 rfl ci_1 ?_
    obtain ⟨r9, w10, ew10, h⟩ := ob_e h
    refine r_cVi 12 (As := [.int 1]) (rest := []) hk (kX9_refuse hN ew10) cf_RX9_86 mi_X9_refuse ⟨TX9, 16, rfl⟩ dX9_runWrites_9 rfl (Nat.le_of_ble_eq_true rfl) (Nat.le_of_ble_eq_true rfl) (mk_9_0 (nx_9 hN (j := 0) (by decide))) rfl rfl (Nat.le_of_ble_eq_true rfl) ?_
    exact r_iret hk hR dX9_runWrites_12 h
def fX9_runCleans (w : Wd) : Option (Int32 × Wd) :=
  ob (fX9_hasDisk w ) fun r1 w2 =>
  if (r1 : Int32) = 0 then
    ob (fX9_refuse w2 (1)) fun r9 w10 =>
    some (r9, w10)
  else
    ckp ((w2 9 0).2.2.1 2) 2 fun q4 =>
    ob (fX9_runOn q4 w2 (0)) fun _ w6 =>
    ob (fX9_accept w6 (((w6 7 1).1 10))) fun r7 w8 =>
    some (r7, w8)
set_option maxRecDepth 100000 in
set_option maxHeartbeats 4000000 in
theorem kX9_runCleans {l : Launch} {G : Gx} {al : Al} {w : Wd} {r : Int32} {wz : Wd} (hN : NX G) (h : fX9_runCleans w = some (r, wz)) : MC l G yX9_runCleans cX9_runCleans 1 (some (.int)) 6 139 al w [.ref (al 9 0 0)] (some (.int r)) wz := by
  refine mc_of [(0, .ref (al 9 0 0))] (by decide) (Nat.le_of_ble_eq_true rfl) rfl ?_
  intro K hk hR hn hl hG
  subst hl; subst hG
  have hk : VH K RX9 cX9_runCleans 6 139 := hk
  rw [fX9_runCleans.eq_1] at h
  refine r_aload_n 1 hk dX9_runCleans_0 rfl 0 rfl rfl ?_
  obtain ⟨r1, w2, ew2, h⟩ := ob_e h
  refine r_cVi 4 (As := []) (rest := []) hk (kX9_hasDisk hN ew2) cf_RX9_199 mi_X9_hasDisk ⟨TX9, 16, rfl⟩ dX9_runCleans_1 rfl (Nat.le_of_ble_eq_true rfl) (Nat.le_of_ble_eq_true rfl) (mk_9_0 (nx_9 hN (j := 0) (by decide))) rfl rfl (Nat.le_of_ble_eq_true rfl) ?_
  refine r_if_ne 13 7 hk dX9_runCleans_4 rfl rfl (fun c3 => ?_) (fun c3 => ?_)
  · have h := if_f c3 h
    refine r_aload_n 14 hk dX9_runCleans_13 rfl 0 rfl rfl ?_
    refine r_aload_n 15 hk dX9_runCleans_14 rfl 0 rfl rfl ?_
    refine r_get 18 hk dX9_runCleans_15 rfl ff_RX9_16 (mk_9_0 (nx_9 hN (j := 0) (by decide))) (gv_9_2 _ _ _) ?_
    obtain ⟨q4, eq4, lq4, h⟩ := ckp_e h
    refine r_pv1 eq4 ?_
    refine r_get 21 hk dX9_runCleans_18 rfl ff_RX9_109 (mk_8_0 (nx_8 hN lq4)) (gv_8_0 _ _ _) ?_
    refine r_iconst 22 hk dX9_runCleans_21 rfl ci_0 ?_
    obtain ⟨r5, w6, ew6, h⟩ := ob_e h
    refine r_cVv 25 (As := [.ref (al 5 q4 0), .int 0]) (rest := []) hk (kX9_runOn hN (nx_sh hN (nx_8 hN lq4)) ew6) cf_RX9_141 mi_X9_runOn ⟨TX9, 16, rfl⟩ dX9_runCleans_22 rfl (Nat.le_of_ble_eq_true rfl) (Nat.le_of_ble_eq_true rfl) (mk_9_0 (nx_9 hN (j := 0) (by decide))) rfl rfl (Nat.le_of_ble_eq_true rfl) ?_
    refine r_aload_n 26 hk dX9_runCleans_25 rfl 0 rfl rfl ?_
    refine r_aload_n 27 hk dX9_runCleans_26 rfl 0 rfl rfl ?_
    refine r_get 30 hk dX9_runCleans_27 rfl ff_RX9_46 (mk_9_0 (nx_9 hN (j := 0) (by decide))) (gv_9_7 _ _ _) ?_
    refine r_get 33 hk dX9_runCleans_30 rfl ff_RX9_271 (mk_7_0 (nx_7 hN (j := 1) (by decide))) (gv_7_10 _ _ _) ?_
    obtain ⟨r7, w8, ew8, h⟩ := ob_e h
    refine r_cVi 36 (As := [.int (((w6 7 1).1 10))]) (rest := []) hk (kX9_accept hN ew8) cf_RX9_115 mi_X9_accept ⟨TX9, 16, rfl⟩ dX9_runCleans_33 rfl (Nat.le_of_ble_eq_true rfl) (Nat.le_of_ble_eq_true rfl) (mk_9_0 (nx_9 hN (j := 0) (by decide))) rfl rfl (Nat.le_of_ble_eq_true rfl) ?_
    exact r_iret hk hR dX9_runCleans_36 h
  · have h := if_t c3 h
    refine r_aload_n 8 hk dX9_runCleans_7 rfl 0 rfl rfl ?_
    refine r_iconst 9 hk dX9_runCleans_8 rfl ci_1 ?_
    obtain ⟨r9, w10, ew10, h⟩ := ob_e h
    refine r_cVi 12 (As := [.int 1]) (rest := []) hk (kX9_refuse hN ew10) cf_RX9_86 mi_X9_refuse ⟨TX9, 16, rfl⟩ dX9_runCleans_9 rfl (Nat.le_of_ble_eq_true rfl) (Nat.le_of_ble_eq_true rfl) (mk_9_0 (nx_9 hN (j := 0) (by decide))) rfl rfl (Nat.le_of_ble_eq_true rfl) ?_
    exact r_iret hk hR dX9_runCleans_12 h
def fX9_runRead (w : Wd) (x1 : Int32) : Option (Int32 × Wd) :=
  ob (fX9_hasTrack w (x1)) fun r1 w2 =>
  if (r1 : Int32) = 0 then
    ob (fX9_refuse w2 (1)) fun r11 w12 =>
    some (r11, w12)
  else
    ckp ((w2 9 0).2.2.1 2) 2 fun q4 =>
    ob (fX9_runOn q4 w2 (0)) fun _ w6 =>
    ob (fX7_valueOf 1 w6 (x1)) fun r7 w8 =>
    ob (fX9_accept w8 (r7)) fun r9 w10 =>
    some (r9, w10)
set_option maxRecDepth 100000 in
set_option maxHeartbeats 4000000 in
theorem kX9_runRead {l : Launch} {G : Gx} {al : Al} {w : Wd} {x1 : Int32} {r : Int32} {wz : Wd} (hN : NX G) (h : fX9_runRead w x1 = some (r, wz)) : MC l G yX9_runRead cX9_runRead 2 (some (.int)) 6 139 al w [.ref (al 9 0 0), .int x1] (some (.int r)) wz := by
  refine mc_of [(0, .ref (al 9 0 0)), (1, .int x1)] (by decide) (Nat.le_of_ble_eq_true rfl) rfl ?_
  intro K hk hR hn hl hG
  subst hl; subst hG
  have hk : VH K RX9 cX9_runRead 6 139 := hk
  rw [fX9_runRead.eq_1] at h
  refine r_aload_n 1 hk dX9_runRead_0 rfl 0 rfl rfl ?_
  refine r_iload_n 2 hk dX9_runRead_1 rfl 1 rfl rfl ?_
  obtain ⟨r1, w2, ew2, h⟩ := ob_e h
  refine r_cVi 5 (As := [.int x1]) (rest := []) hk (kX9_hasTrack hN ew2) cf_RX9_158 mi_X9_hasTrack ⟨TX9, 16, rfl⟩ dX9_runRead_2 rfl (Nat.le_of_ble_eq_true rfl) (Nat.le_of_ble_eq_true rfl) (mk_9_0 (nx_9 hN (j := 0) (by decide))) rfl rfl (Nat.le_of_ble_eq_true rfl) ?_
  refine r_if_ne 14 8 hk dX9_runRead_5 rfl rfl (fun c3 => ?_) (fun c3 => ?_)
  · have h := if_f c3 h
    refine r_aload_n 15 hk dX9_runRead_14 rfl 0 rfl rfl ?_
    refine r_aload_n 16 hk dX9_runRead_15 rfl 0 rfl rfl ?_
    refine r_get 19 hk dX9_runRead_16 rfl ff_RX9_16 (mk_9_0 (nx_9 hN (j := 0) (by decide))) (gv_9_2 _ _ _) ?_
    obtain ⟨q4, eq4, lq4, h⟩ := ckp_e h
    refine r_pv1 eq4 ?_
    refine r_get 22 hk dX9_runRead_19 rfl ff_RX9_109 (mk_8_0 (nx_8 hN lq4)) (gv_8_0 _ _ _) ?_
    refine r_iconst 23 hk dX9_runRead_22 rfl ci_0 ?_
    obtain ⟨r5, w6, ew6, h⟩ := ob_e h
    refine r_cVv 26 (As := [.ref (al 5 q4 0), .int 0]) (rest := []) hk (kX9_runOn hN (nx_sh hN (nx_8 hN lq4)) ew6) cf_RX9_141 mi_X9_runOn ⟨TX9, 16, rfl⟩ dX9_runRead_23 rfl (Nat.le_of_ble_eq_true rfl) (Nat.le_of_ble_eq_true rfl) (mk_9_0 (nx_9 hN (j := 0) (by decide))) rfl rfl (Nat.le_of_ble_eq_true rfl) ?_
    refine r_aload_n 27 hk dX9_runRead_26 rfl 0 rfl rfl ?_
    refine r_aload_n 28 hk dX9_runRead_27 rfl 0 rfl rfl ?_
    refine r_get 31 hk dX9_runRead_28 rfl ff_RX9_46 (mk_9_0 (nx_9 hN (j := 0) (by decide))) (gv_9_7 _ _ _) ?_
    refine r_iload_n 32 hk dX9_runRead_31 rfl 1 rfl rfl ?_
    obtain ⟨r7, w8, ew8, h⟩ := ob_e h
    refine r_cVi 35 (As := [.int x1]) (rest := [.ref (al 9 0 0)]) hk (kX7_valueOf hN (nx_7 hN (j := 1) (by decide)) ew8) cf_RX9_166 mi_X7_valueOf ⟨TX7, 11, rfl⟩ dX9_runRead_32 rfl (Nat.le_of_ble_eq_true rfl) (Nat.le_of_ble_eq_true rfl) (mk_7_0 (nx_7 hN (j := 1) (by decide))) rfl rfl (Nat.le_of_ble_eq_true rfl) ?_
    obtain ⟨r9, w10, ew10, h⟩ := ob_e h
    refine r_cVi 38 (As := [.int r7]) (rest := []) hk (kX9_accept hN ew10) cf_RX9_115 mi_X9_accept ⟨TX9, 16, rfl⟩ dX9_runRead_35 rfl (Nat.le_of_ble_eq_true rfl) (Nat.le_of_ble_eq_true rfl) (mk_9_0 (nx_9 hN (j := 0) (by decide))) rfl rfl (Nat.le_of_ble_eq_true rfl) ?_
    exact r_iret hk hR dX9_runRead_38 h
  · have h := if_t c3 h
    refine r_aload_n 9 hk dX9_runRead_8 rfl 0 rfl rfl ?_
    refine r_iconst 10 hk dX9_runRead_9 rfl ci_1 ?_
    obtain ⟨r11, w12, ew12, h⟩ := ob_e h
    refine r_cVi 13 (As := [.int 1]) (rest := []) hk (kX9_refuse hN ew12) cf_RX9_86 mi_X9_refuse ⟨TX9, 16, rfl⟩ dX9_runRead_10 rfl (Nat.le_of_ble_eq_true rfl) (Nat.le_of_ble_eq_true rfl) (mk_9_0 (nx_9 hN (j := 0) (by decide))) rfl rfl (Nat.le_of_ble_eq_true rfl) ?_
    exact r_iret hk hR dX9_runRead_13 h
def fX9_greatestDivisor_7  : Nat → Wd → Int32 → Int32 → Int32 → Option (Int32 × Wd)
  | 0, _, _, _, _ => none
  | n + 1, w, x2, x3, x4 =>
    if (64 : Int32) ≤ x4 then
      some (x2, w)
    else
      if (x3 : Int32) = 0 then
        some (x2, w)
      else
        if (x3 : Int32) = 0 then none else
        lw ((x2 - x2 / x3 * x3)) fun x5_4 =>
        lw (x4 + 1) fun x4_5 =>
        fX9_greatestDivisor_7  n w (x3) (x5_4) (x4_5)
def fX9_greatestDivisor (w : Wd) (x0 : Int32) (x1 : Int32) : Option (Int32 × Wd) :=
  fX9_greatestDivisor_7  fuel0 w (x0) (x1) (0)
set_option maxRecDepth 100000 in
set_option maxHeartbeats 4000000 in
theorem sX9_greatestDivisor_7 {K : VC} {al : Al} {r : Int32} {wz : Wd}  (hk : VH K RX9 cX9_greatestDivisor 0 0) (hR : VR K al (some (.int)) (some (.int r)) wz) (hn : kn K = 6) (hN : NX (kG K)) : ∀ (n : Nat) (w : Wd) (x2 : Int32) (x3 : Int32) (x4 : Int32), fX9_greatestDivisor_7  n w x2 x3 x4 = some (r, wz) → V K al w 7 [(2, .int x2), (3, .int x3), (4, .int x4)] [] := by
  intro n
  induction n with
  | zero => intro w x2 x3 x4 h; cases h
  | succ n ih =>
    intro w x2 x3 x4 h
    rw [fX9_greatestDivisor_7.eq_2] at h
    refine r_iload 9 hk dX9_greatestDivisor_7 rfl 2 rfl ?_
    refine r_bipush 11 hk dX9_greatestDivisor_9 rfl cb_64 ?_
    refine r_icmp_ge 34 14 hk dX9_greatestDivisor_11 rfl rfl (fun c1 => ?_) (fun c1 => ?_)
    · have h := if_t c1 h
      refine r_iload_n 35 hk dX9_greatestDivisor_34 rfl 0 rfl rfl ?_
      exact r_iret hk hR dX9_greatestDivisor_35 h
    · have h := if_f c1 h
      refine r_iload_n 15 hk dX9_greatestDivisor_14 rfl 1 rfl rfl ?_
      refine r_if_eq 34 18 hk dX9_greatestDivisor_15 rfl rfl (fun c2 => ?_) (fun c2 => ?_)
      · have h := if_t c2 h
        refine r_iload_n 35 hk dX9_greatestDivisor_34 rfl 0 rfl rfl ?_
        exact r_iret hk hR dX9_greatestDivisor_35 h
      · have h := if_f c2 h
        refine r_iload_n 19 hk dX9_greatestDivisor_18 rfl 0 rfl rfl ?_
        refine r_iload_n 20 hk dX9_greatestDivisor_19 rfl 1 rfl rfl ?_
        by_cases z3 : (x3 : Int32) = 0
        · have h := if_t z3 h; cases h
        have h := if_f z3 h
        refine r_irem 21 hk dX9_greatestDivisor_20 rfl z3 ?_
        obtain ⟨x5_4, ex5_4, h⟩ := lw_e h
        refine r_istore 23 [(5, .int x5_4), (2, .int x2), (3, .int x3), (4, .int x4)] hk dX9_greatestDivisor_21 rfl hn (by decide) ex5_4 rfl ?_
        refine r_iload_n 24 hk dX9_greatestDivisor_23 rfl 2 rfl rfl ?_
        refine r_istore_n 25 [(2, .int x3), (5, .int x5_4), (3, .int x3), (4, .int x4)] hk dX9_greatestDivisor_24 rfl rfl hn (by decide) rfl rfl ?_
        refine r_iload 27 hk dX9_greatestDivisor_25 rfl 1 rfl ?_
        refine r_istore_n 28 [(3, .int x5_4), (2, .int x3), (5, .int x5_4), (4, .int x4)] hk dX9_greatestDivisor_27 rfl rfl hn (by decide) rfl rfl ?_
        obtain ⟨x4_5, ex4_5, h⟩ := lw_e h
        refine r_iinc 31 [(4, .int x4_5), (3, .int x5_4), (2, .int x3), (5, .int x5_4)] hk (j := 3) dX9_greatestDivisor_28 rfl hn (by decide) rfl ex4_5 rfl ?_
        refine r_goto 7 hk (x := 0) dX9_greatestDivisor_31 rfl ?_
        refine r_sub [2, 1, 0] rfl ?_
        exact ih _ _ _ _ h
set_option maxRecDepth 100000 in
set_option maxHeartbeats 4000000 in
theorem kX9_greatestDivisor {l : Launch} {G : Gx} {al : Al} {w : Wd} {x0 : Int32} {x1 : Int32} {r : Int32} {wz : Wd} (hN : NX G) (h : fX9_greatestDivisor w x0 x1 = some (r, wz)) : MC l G yX9_greatestDivisor cX9_greatestDivisor 6 (some (.int)) 0 0 al w [.int x0, .int x1] (some (.int r)) wz := by
  refine mc_of [(0, .int x0), (1, .int x1)] (by decide) (Nat.le_of_ble_eq_true rfl) rfl ?_
  intro K hk hR hn hl hG
  subst hl; subst hG
  have hk : VH K RX9 cX9_greatestDivisor 0 0 := hk
  rw [fX9_greatestDivisor.eq_1] at h
  refine r_iload_n 1 hk dX9_greatestDivisor_0 rfl 0 rfl rfl ?_
  refine r_istore_n 2 [(2, .int x0), (0, .int x0), (1, .int x1)] hk dX9_greatestDivisor_1 rfl rfl hn (by decide) rfl rfl ?_
  refine r_iload_n 3 hk dX9_greatestDivisor_2 rfl 2 rfl rfl ?_
  refine r_istore_n 4 [(3, .int x1), (2, .int x0), (0, .int x0), (1, .int x1)] hk dX9_greatestDivisor_3 rfl rfl hn (by decide) rfl rfl ?_
  refine r_iconst 5 hk dX9_greatestDivisor_4 rfl ci_0 ?_
  refine r_istore 7 [(4, .int 0), (3, .int x1), (2, .int x0), (0, .int x0), (1, .int x1)] hk dX9_greatestDivisor_5 rfl hn (by decide) rfl rfl ?_
  refine r_sub [2, 1, 0] rfl ?_
  exact sX9_greatestDivisor_7 hk hR hn hN _ _ _ _ _ h
def fX9_factor_61  (w : Wd) (x1 : Int32) : Option (Int64 × Wd) :=
    if (x1 : Int32) = 0 then
      ob (fX9_accept w (0)) fun r24 w25 =>
      some (((r24 : Int32).toInt64), w25)
    else
      ob (fX9_accept w (1)) fun r26 w27 =>
      some (((r26 : Int32).toInt64), w27)
def fX9_factor (w : Wd) (x1 : Int32) : Option (Int64 × Wd) :=
  ob (fX9_hasDisk w ) fun r1 w2 =>
  if (r1 : Int32) = 0 then
    ob (fX9_refuse w2 (1)) fun r21 w22 =>
    some (((r21 : Int32).toInt64), w22)
  else
    ckp ((w2 9 0).2.2.1 2) 2 fun q4 =>
    ob (fX9_runOn q4 w2 (0)) fun _ w6 =>
    lw (((w6 7 1).1 9)) fun x2_7 =>
    ckp ((w6 9 0).2.2.1 2) 2 fun q8 =>
    lw (((w6 3 (4 * q8 + 1)).1 2)) fun x3_9 =>
    ob (fX9_greatestDivisor w6 (x2_7) (x3_9)) fun r10 w11 =>
    if (x3_9 : Int32) = 0 then
      fX9_factor_61  w11 (x1)
    else
      if (r10 : Int32) = 0 then
        fX9_factor_61  w11 (x1)
      else
        if (x1 : Int32) = 0 then
          if (r10 : Int32) = 0 then none else
          ob (fX9_accept w11 ((x2_7 / r10))) fun r16 w17 =>
          some (((r16 : Int32).toInt64), w17)
        else
          if (r10 : Int32) = 0 then none else
          ob (fX9_accept w11 ((x3_9 / r10))) fun r19 w20 =>
          some (((r19 : Int32).toInt64), w20)
set_option maxRecDepth 100000 in
set_option maxHeartbeats 4000000 in
theorem sX9_factor_61 {K : VC} {al : Al} {r : Int64} {wz : Wd}  (hk : VH K RX9 cX9_factor 6 139) (hR : VR K al (some (.long)) (some (.long r)) wz) (hn : kn K = 5) (hN : NX (kG K)) (w : Wd) (x1 : Int32) (h : fX9_factor_61  w x1 = some (r, wz)) : V K al w 61 [(0, .ref (al 9 0 0)), (1, .int x1)] [] := by
  rw [fX9_factor_61.eq_1] at h
  refine r_aload_n 62 hk dX9_factor_61 rfl 0 rfl rfl ?_
  refine r_iload_n 63 hk dX9_factor_62 rfl 1 rfl rfl ?_
  refine r_if_eq 70 66 hk dX9_factor_63 rfl rfl (fun c23 => ?_) (fun c23 => ?_)
  · have h := if_t c23 h
    refine r_iconst 71 hk dX9_factor_70 rfl ci_0 ?_
    obtain ⟨r24, w25, ew25, h⟩ := ob_e h
    refine r_cVi 74 (As := [.int 0]) (rest := []) hk (kX9_accept hN ew25) cf_RX9_115 mi_X9_accept ⟨TX9, 16, rfl⟩ dX9_factor_71 rfl (Nat.le_of_ble_eq_true rfl) (Nat.le_of_ble_eq_true rfl) (mk_9_0 (nx_9 hN (j := 0) (by decide))) rfl rfl (Nat.le_of_ble_eq_true rfl) ?_
    refine r_i2l 75 hk dX9_factor_74 rfl ?_
    exact r_lret hk hR dX9_factor_75 h
  · have h := if_f c23 h
    refine r_iconst 67 hk dX9_factor_66 rfl ci_1 ?_
    refine r_goto 71 hk (x := 0) dX9_factor_67 rfl ?_
    obtain ⟨r26, w27, ew27, h⟩ := ob_e h
    refine r_cVi 74 (As := [.int 1]) (rest := []) hk (kX9_accept hN ew27) cf_RX9_115 mi_X9_accept ⟨TX9, 16, rfl⟩ dX9_factor_71 rfl (Nat.le_of_ble_eq_true rfl) (Nat.le_of_ble_eq_true rfl) (mk_9_0 (nx_9 hN (j := 0) (by decide))) rfl rfl (Nat.le_of_ble_eq_true rfl) ?_
    refine r_i2l 75 hk dX9_factor_74 rfl ?_
    exact r_lret hk hR dX9_factor_75 h
set_option maxRecDepth 100000 in
set_option maxHeartbeats 4000000 in
theorem kX9_factor {l : Launch} {G : Gx} {al : Al} {w : Wd} {x1 : Int32} {r : Int64} {wz : Wd} (hN : NX G) (h : fX9_factor w x1 = some (r, wz)) : MC l G yX9_factor cX9_factor 5 (some (.long)) 6 139 al w [.ref (al 9 0 0), .int x1] (some (.long r)) wz := by
  refine mc_of [(0, .ref (al 9 0 0)), (1, .int x1)] (by decide) (Nat.le_of_ble_eq_true rfl) rfl ?_
  intro K hk hR hn hl hG
  subst hl; subst hG
  have hk : VH K RX9 cX9_factor 6 139 := hk
  rw [fX9_factor.eq_1] at h
  refine r_aload_n 1 hk dX9_factor_0 rfl 0 rfl rfl ?_
  obtain ⟨r1, w2, ew2, h⟩ := ob_e h
  refine r_cVi 4 (As := []) (rest := []) hk (kX9_hasDisk hN ew2) cf_RX9_199 mi_X9_hasDisk ⟨TX9, 16, rfl⟩ dX9_factor_1 rfl (Nat.le_of_ble_eq_true rfl) (Nat.le_of_ble_eq_true rfl) (mk_9_0 (nx_9 hN (j := 0) (by decide))) rfl rfl (Nat.le_of_ble_eq_true rfl) ?_
  refine r_if_ne 14 7 hk dX9_factor_4 rfl rfl (fun c3 => ?_) (fun c3 => ?_)
  · have h := if_f c3 h
    refine r_aload_n 15 hk dX9_factor_14 rfl 0 rfl rfl ?_
    refine r_aload_n 16 hk dX9_factor_15 rfl 0 rfl rfl ?_
    refine r_get 19 hk dX9_factor_16 rfl ff_RX9_16 (mk_9_0 (nx_9 hN (j := 0) (by decide))) (gv_9_2 _ _ _) ?_
    obtain ⟨q4, eq4, lq4, h⟩ := ckp_e h
    refine r_pv1 eq4 ?_
    refine r_get 22 hk dX9_factor_19 rfl ff_RX9_109 (mk_8_0 (nx_8 hN lq4)) (gv_8_0 _ _ _) ?_
    refine r_iconst 23 hk dX9_factor_22 rfl ci_0 ?_
    obtain ⟨r5, w6, ew6, h⟩ := ob_e h
    refine r_cVv 26 (As := [.ref (al 5 q4 0), .int 0]) (rest := []) hk (kX9_runOn hN (nx_sh hN (nx_8 hN lq4)) ew6) cf_RX9_141 mi_X9_runOn ⟨TX9, 16, rfl⟩ dX9_factor_23 rfl (Nat.le_of_ble_eq_true rfl) (Nat.le_of_ble_eq_true rfl) (mk_9_0 (nx_9 hN (j := 0) (by decide))) rfl rfl (Nat.le_of_ble_eq_true rfl) ?_
    refine r_aload_n 27 hk dX9_factor_26 rfl 0 rfl rfl ?_
    refine r_get 30 hk dX9_factor_27 rfl ff_RX9_46 (mk_9_0 (nx_9 hN (j := 0) (by decide))) (gv_9_7 _ _ _) ?_
    refine r_get 33 hk dX9_factor_30 rfl ff_RX9_264 (mk_7_0 (nx_7 hN (j := 1) (by decide))) (gv_7_9 _ _ _) ?_
    obtain ⟨x2_7, ex2_7, h⟩ := lw_e h
    refine r_istore_n 34 [(2, .int x2_7), (0, .ref (al 9 0 0)), (1, .int x1)] hk dX9_factor_33 rfl rfl hn (by decide) ex2_7 rfl ?_
    refine r_aload_n 35 hk dX9_factor_34 rfl 1 rfl rfl ?_
    refine r_get 38 hk dX9_factor_35 rfl ff_RX9_16 (mk_9_0 (nx_9 hN (j := 0) (by decide))) (gv_9_2 _ _ _) ?_
    obtain ⟨q8, eq8, lq8, h⟩ := ckp_e h
    refine r_pv1 eq8 ?_
    refine r_get 41 hk dX9_factor_38 rfl ff_RX9_274 (mk_8_0 (nx_8 hN lq8)) (gv_8_2 _ _ _) ?_
    refine r_get 44 hk dX9_factor_41 rfl ff_RX9_138 (mk_3_0 (nx_pr1 hN (nx_8 hN lq8))) (gv_3_2 _ _ _) ?_
    obtain ⟨x3_9, ex3_9, h⟩ := lw_e h
    refine r_istore_n 45 [(3, .int x3_9), (2, .int x2_7), (0, .ref (al 9 0 0)), (1, .int x1)] hk dX9_factor_44 rfl rfl hn (by decide) ex3_9 rfl ?_
    refine r_iload_n 46 hk dX9_factor_45 rfl 1 rfl rfl ?_
    refine r_iload_n 47 hk dX9_factor_46 rfl 0 rfl rfl ?_
    obtain ⟨r10, w11, ew11, h⟩ := ob_e h
    refine r_cSi 50 (As := [.int x2_7, .int x3_9]) (rest := []) hk (kX9_greatestDivisor hN ew11) cf_RX9_277 ms_X9_greatestDivisor dX9_factor_47 rfl (Nat.le_of_ble_eq_true rfl) (Nat.le_of_ble_eq_true rfl) rfl rfl (Nat.le_of_ble_eq_true rfl) ?_
    refine r_istore 52 [(4, .int r10), (3, .int x3_9), (2, .int x2_7), (0, .ref (al 9 0 0)), (1, .int x1)] hk dX9_factor_50 rfl hn (by decide) rfl rfl ?_
    refine r_iload_n 53 hk dX9_factor_52 rfl 1 rfl rfl ?_
    refine r_if_eq 61 56 hk dX9_factor_53 rfl rfl (fun c12 => ?_) (fun c12 => ?_)
    · have h := if_t c12 h
      refine r_sub [3, 4] rfl ?_
      exact sX9_factor_61 hk hR hn hN _ _ h
    · have h := if_f c12 h
      refine r_iload 58 hk dX9_factor_56 rfl 0 rfl ?_
      refine r_if_ne 76 61 hk dX9_factor_58 rfl rfl (fun c13 => ?_) (fun c13 => ?_)
      · have h := if_f c13 h
        refine r_aload_n 77 hk dX9_factor_76 rfl 3 rfl rfl ?_
        refine r_iload_n 78 hk dX9_factor_77 rfl 4 rfl rfl ?_
        refine r_if_eq 85 81 hk dX9_factor_78 rfl rfl (fun c14 => ?_) (fun c14 => ?_)
        · have h := if_t c14 h
          refine r_iload_n 86 hk dX9_factor_85 rfl 2 rfl rfl ?_
          refine r_iload 88 hk dX9_factor_86 rfl 0 rfl ?_
          by_cases z15 : (r10 : Int32) = 0
          · have h := if_t z15 h; cases h
          have h := if_f z15 h
          refine r_idiv 89 hk dX9_factor_88 rfl z15 ?_
          obtain ⟨r16, w17, ew17, h⟩ := ob_e h
          refine r_cVi 92 (As := [.int ((x2_7 / r10))]) (rest := []) hk (kX9_accept hN ew17) cf_RX9_115 mi_X9_accept ⟨TX9, 16, rfl⟩ dX9_factor_89 rfl (Nat.le_of_ble_eq_true rfl) (Nat.le_of_ble_eq_true rfl) (mk_9_0 (nx_9 hN (j := 0) (by decide))) rfl rfl (Nat.le_of_ble_eq_true rfl) ?_
          refine r_i2l 93 hk dX9_factor_92 rfl ?_
          exact r_lret hk hR dX9_factor_93 h
        · have h := if_f c14 h
          refine r_iload_n 82 hk dX9_factor_81 rfl 1 rfl rfl ?_
          refine r_goto 86 hk (x := 0) dX9_factor_82 rfl ?_
          refine r_iload 88 hk dX9_factor_86 rfl 0 rfl ?_
          by_cases z18 : (r10 : Int32) = 0
          · have h := if_t z18 h; cases h
          have h := if_f z18 h
          refine r_idiv 89 hk dX9_factor_88 rfl z18 ?_
          obtain ⟨r19, w20, ew20, h⟩ := ob_e h
          refine r_cVi 92 (As := [.int ((x3_9 / r10))]) (rest := []) hk (kX9_accept hN ew20) cf_RX9_115 mi_X9_accept ⟨TX9, 16, rfl⟩ dX9_factor_89 rfl (Nat.le_of_ble_eq_true rfl) (Nat.le_of_ble_eq_true rfl) (mk_9_0 (nx_9 hN (j := 0) (by decide))) rfl rfl (Nat.le_of_ble_eq_true rfl) ?_
          refine r_i2l 93 hk dX9_factor_92 rfl ?_
          exact r_lret hk hR dX9_factor_93 h
      · have h := if_t c13 h
        refine r_sub [3, 4] rfl ?_
        exact sX9_factor_61 hk hR hn hN _ _ h
  · have h := if_t c3 h
    refine r_aload_n 8 hk dX9_factor_7 rfl 0 rfl rfl ?_
    refine r_iconst 9 hk dX9_factor_8 rfl ci_1 ?_
    obtain ⟨r21, w22, ew22, h⟩ := ob_e h
    refine r_cVi 12 (As := [.int 1]) (rest := []) hk (kX9_refuse hN ew22) cf_RX9_86 mi_X9_refuse ⟨TX9, 16, rfl⟩ dX9_factor_9 rfl (Nat.le_of_ble_eq_true rfl) (Nat.le_of_ble_eq_true rfl) (mk_9_0 (nx_9 hN (j := 0) (by decide))) rfl rfl (Nat.le_of_ble_eq_true rfl) ?_
    refine r_i2l 13 hk dX9_factor_12 rfl ?_
    exact r_lret hk hR dX9_factor_13 h
def fX9_trackWritesBySize (w : Wd) (x1 : Int32) : Option (Int32 × Wd) :=
  ckp ((w 9 0).2.2.1 2) 2 fun q1 =>
  ob (fX5_becomeBySize 2 q1 w (x1)) fun _ w3 =>
  ob (fX9_runOn 2 w3 (0)) fun _ w5 =>
  some (((w5 7 1).1 9), w5)
set_option maxRecDepth 100000 in
set_option maxHeartbeats 4000000 in
theorem kX9_trackWritesBySize {l : Launch} {G : Gx} {al : Al} {w : Wd} {x1 : Int32} {r : Int32} {wz : Wd} (hN : NX G) (h : fX9_trackWritesBySize w x1 = some (r, wz)) : MC l G yX9_trackWritesBySize cX9_trackWritesBySize 2 (some (.int)) 6 139 al w [.ref (al 9 0 0), .int x1] (some (.int r)) wz := by
  refine mc_of [(0, .ref (al 9 0 0)), (1, .int x1)] (by decide) (Nat.le_of_ble_eq_true rfl) rfl ?_
  intro K hk hR hn hl hG
  subst hl; subst hG
  have hk : VH K RX9 cX9_trackWritesBySize 6 139 := hk
  rw [fX9_trackWritesBySize.eq_1] at h
  refine r_aload_n 1 hk dX9_trackWritesBySize_0 rfl 0 rfl rfl ?_
  refine r_get 4 hk dX9_trackWritesBySize_1 rfl ff_RX9_52 (mk_9_0 (nx_9 hN (j := 0) (by decide))) (gv_9_8 _ _ _) ?_
  refine r_aload_n 5 hk dX9_trackWritesBySize_4 rfl 0 rfl rfl ?_
  refine r_get 8 hk dX9_trackWritesBySize_5 rfl ff_RX9_16 (mk_9_0 (nx_9 hN (j := 0) (by decide))) (gv_9_2 _ _ _) ?_
  obtain ⟨q1, eq1, lq1, h⟩ := ckp_e h
  refine r_pv1 eq1 ?_
  refine r_get 11 hk dX9_trackWritesBySize_8 rfl ff_RX9_109 (mk_8_0 (nx_8 hN lq1)) (gv_8_0 _ _ _) ?_
  refine r_iload_n 12 hk dX9_trackWritesBySize_11 rfl 1 rfl rfl ?_
  obtain ⟨r2, w3, ew3, h⟩ := ob_e h
  refine r_cVv 15 (As := [.ref (al 5 q1 0), .int x1]) (rest := []) hk (kX5_becomeBySize hN (nx_5 hN (j := 2) (by decide)) (nx_sh hN (nx_8 hN lq1)) ew3) cf_RX9_283 mi_X5_becomeBySize ⟨TX5, 8, rfl⟩ dX9_trackWritesBySize_12 rfl (Nat.le_of_ble_eq_true rfl) (Nat.le_of_ble_eq_true rfl) (mk_5_0 (nx_5 hN (j := 2) (by decide))) rfl rfl (Nat.le_of_ble_eq_true rfl) ?_
  refine r_aload_n 16 hk dX9_trackWritesBySize_15 rfl 0 rfl rfl ?_
  refine r_aload_n 17 hk dX9_trackWritesBySize_16 rfl 0 rfl rfl ?_
  refine r_get 20 hk dX9_trackWritesBySize_17 rfl ff_RX9_52 (mk_9_0 (nx_9 hN (j := 0) (by decide))) (gv_9_8 _ _ _) ?_
  refine r_iconst 21 hk dX9_trackWritesBySize_20 rfl ci_0 ?_
  obtain ⟨r4, w5, ew5, h⟩ := ob_e h
  refine r_cVv 24 (As := [.ref (al 5 2 0), .int 0]) (rest := []) hk (kX9_runOn hN (nx_5 hN (j := 2) (by decide)) ew5) cf_RX9_141 mi_X9_runOn ⟨TX9, 16, rfl⟩ dX9_trackWritesBySize_21 rfl (Nat.le_of_ble_eq_true rfl) (Nat.le_of_ble_eq_true rfl) (mk_9_0 (nx_9 hN (j := 0) (by decide))) rfl rfl (Nat.le_of_ble_eq_true rfl) ?_
  refine r_aload_n 25 hk dX9_trackWritesBySize_24 rfl 0 rfl rfl ?_
  refine r_get 28 hk dX9_trackWritesBySize_25 rfl ff_RX9_46 (mk_9_0 (nx_9 hN (j := 0) (by decide))) (gv_9_7 _ _ _) ?_
  refine r_get 31 hk dX9_trackWritesBySize_28 rfl ff_RX9_264 (mk_7_0 (nx_7 hN (j := 1) (by decide))) (gv_7_9 _ _ _) ?_
  exact r_iret hk hR dX9_trackWritesBySize_31 h
def fX9_bySize (w : Wd) (x1 : Int32) : Option (Int32 × Wd) :=
  ob (fX9_hasDisk w ) fun r1 w2 =>
  if (r1 : Int32) = 0 then
    ob (fX9_refuse w2 (1)) fun r14 w15 =>
    some (r14, w15)
  else
    if (x1 : Int32) < 2 then
      ob (fX9_refuse w2 (2)) fun r5 w6 =>
      some (r5, w6)
    else
      if (x1 : Int32) ≤ 8 then
        ob (fX9_trackWritesBySize w2 (x1)) fun r8 w9 =>
        ob (fX9_accept w9 (r8)) fun r10 w11 =>
        some (r10, w11)
      else
        ob (fX9_refuse w2 (2)) fun r12 w13 =>
        some (r12, w13)
set_option maxRecDepth 100000 in
set_option maxHeartbeats 4000000 in
theorem kX9_bySize {l : Launch} {G : Gx} {al : Al} {w : Wd} {x1 : Int32} {r : Int32} {wz : Wd} (hN : NX G) (h : fX9_bySize w x1 = some (r, wz)) : MC l G yX9_bySize cX9_bySize 2 (some (.int)) 7 160 al w [.ref (al 9 0 0), .int x1] (some (.int r)) wz := by
  refine mc_of [(0, .ref (al 9 0 0)), (1, .int x1)] (by decide) (Nat.le_of_ble_eq_true rfl) rfl ?_
  intro K hk hR hn hl hG
  subst hl; subst hG
  have hk : VH K RX9 cX9_bySize 7 160 := hk
  rw [fX9_bySize.eq_1] at h
  refine r_aload_n 1 hk dX9_bySize_0 rfl 0 rfl rfl ?_
  obtain ⟨r1, w2, ew2, h⟩ := ob_e h
  refine r_cVi 4 (As := []) (rest := []) hk (kX9_hasDisk hN ew2) cf_RX9_199 mi_X9_hasDisk ⟨TX9, 16, rfl⟩ dX9_bySize_1 rfl (Nat.le_of_ble_eq_true rfl) (Nat.le_of_ble_eq_true rfl) (mk_9_0 (nx_9 hN (j := 0) (by decide))) rfl rfl (Nat.le_of_ble_eq_true rfl) ?_
  refine r_if_ne 13 7 hk dX9_bySize_4 rfl rfl (fun c3 => ?_) (fun c3 => ?_)
  · have h := if_f c3 h
    refine r_iload_n 14 hk dX9_bySize_13 rfl 1 rfl rfl ?_
    refine r_iconst 15 hk dX9_bySize_14 rfl ci_2 ?_
    refine r_icmp_lt 24 18 hk dX9_bySize_15 rfl rfl (fun c4 => ?_) (fun c4 => ?_)
    · have h := if_t c4 h
      refine r_aload_n 25 hk dX9_bySize_24 rfl 0 rfl rfl ?_
      refine r_iconst 26 hk dX9_bySize_25 rfl ci_2 ?_
      obtain ⟨r5, w6, ew6, h⟩ := ob_e h
      refine r_cVi 29 (As := [.int 2]) (rest := []) hk (kX9_refuse hN ew6) cf_RX9_86 mi_X9_refuse ⟨TX9, 16, rfl⟩ dX9_bySize_26 rfl (Nat.le_of_ble_eq_true rfl) (Nat.le_of_ble_eq_true rfl) (mk_9_0 (nx_9 hN (j := 0) (by decide))) rfl rfl (Nat.le_of_ble_eq_true rfl) ?_
      exact r_iret hk hR dX9_bySize_29 h
    · have h := if_f c4 h
      refine r_iload_n 19 hk dX9_bySize_18 rfl 1 rfl rfl ?_
      refine r_bipush 21 hk dX9_bySize_19 rfl cb_8 ?_
      refine r_icmp_le 30 24 hk dX9_bySize_21 rfl rfl (fun c7 => ?_) (fun c7 => ?_)
      · have h := if_t c7 h
        refine r_aload_n 31 hk dX9_bySize_30 rfl 0 rfl rfl ?_
        refine r_aload_n 32 hk dX9_bySize_31 rfl 0 rfl rfl ?_
        refine r_iload_n 33 hk dX9_bySize_32 rfl 1 rfl rfl ?_
        obtain ⟨r8, w9, ew9, h⟩ := ob_e h
        refine r_cVi 36 (As := [.int x1]) (rest := [.ref (al 9 0 0)]) hk (kX9_trackWritesBySize hN ew9) cf_RX9_280 mi_X9_trackWritesBySize ⟨TX9, 16, rfl⟩ dX9_bySize_33 rfl (Nat.le_of_ble_eq_true rfl) (Nat.le_of_ble_eq_true rfl) (mk_9_0 (nx_9 hN (j := 0) (by decide))) rfl rfl (Nat.le_of_ble_eq_true rfl) ?_
        obtain ⟨r10, w11, ew11, h⟩ := ob_e h
        refine r_cVi 39 (As := [.int r8]) (rest := []) hk (kX9_accept hN ew11) cf_RX9_115 mi_X9_accept ⟨TX9, 16, rfl⟩ dX9_bySize_36 rfl (Nat.le_of_ble_eq_true rfl) (Nat.le_of_ble_eq_true rfl) (mk_9_0 (nx_9 hN (j := 0) (by decide))) rfl rfl (Nat.le_of_ble_eq_true rfl) ?_
        exact r_iret hk hR dX9_bySize_39 h
      · have h := if_f c7 h
        refine r_aload_n 25 hk dX9_bySize_24 rfl 0 rfl rfl ?_
        refine r_iconst 26 hk dX9_bySize_25 rfl ci_2 ?_
        obtain ⟨r12, w13, ew13, h⟩ := ob_e h
        refine r_cVi 29 (As := [.int 2]) (rest := []) hk (kX9_refuse hN ew13) cf_RX9_86 mi_X9_refuse ⟨TX9, 16, rfl⟩ dX9_bySize_26 rfl (Nat.le_of_ble_eq_true rfl) (Nat.le_of_ble_eq_true rfl) (mk_9_0 (nx_9 hN (j := 0) (by decide))) rfl rfl (Nat.le_of_ble_eq_true rfl) ?_
        exact r_iret hk hR dX9_bySize_29 h
  · have h := if_t c3 h
    refine r_aload_n 8 hk dX9_bySize_7 rfl 0 rfl rfl ?_
    refine r_iconst 9 hk dX9_bySize_8 rfl ci_1 ?_
    obtain ⟨r14, w15, ew15, h⟩ := ob_e h
    refine r_cVi 12 (As := [.int 1]) (rest := []) hk (kX9_refuse hN ew15) cf_RX9_86 mi_X9_refuse ⟨TX9, 16, rfl⟩ dX9_bySize_9 rfl (Nat.le_of_ble_eq_true rfl) (Nat.le_of_ble_eq_true rfl) (mk_9_0 (nx_9 hN (j := 0) (by decide))) rfl rfl (Nat.le_of_ble_eq_true rfl) ?_
    exact r_iret hk hR dX9_bySize_12 h
def fX9_bestSize_26  : Nat → Wd → Int32 → Int32 → Int32 → Option (Int32 × Wd)
  | 0, _, _, _, _ => none
  | n + 1, w, x1, x2, x3 =>
    if (x3 : Int32) < 2 then
      ob (fX9_accept w (x1)) fun r9 w10 =>
      some (r9, w10)
    else
      ob (fX9_trackWritesBySize w (x3)) fun r11 w12 =>
      if (x2 : Int32) ≤ r11 then
        lw (x3 + (-1)) fun x3_14 =>
        fX9_bestSize_26  n w12 (x1) (x2) (x3_14)
      else
        lw (x3 + (-1)) fun x3_15 =>
        fX9_bestSize_26  n w12 (x3) (r11) (x3_15)
def fX9_bestSize (w : Wd) : Option (Int32 × Wd) :=
  ob (fX9_hasDisk w ) fun r1 w2 =>
  if (r1 : Int32) = 0 then
    ob (fX9_refuse w2 (1)) fun r6 w7 =>
    some (r6, w7)
  else
    ob (fX9_trackWritesBySize w2 (8)) fun r4 w5 =>
    fX9_bestSize_26  fuel0 w5 (8) (r4) (7)
set_option maxRecDepth 100000 in
set_option maxHeartbeats 4000000 in
theorem sX9_bestSize_26 {K : VC} {al : Al} {r : Int32} {wz : Wd}  (hk : VH K RX9 cX9_bestSize 7 160) (hR : VR K al (some (.int)) (some (.int r)) wz) (hn : kn K = 5) (hN : NX (kG K)) : ∀ (n : Nat) (w : Wd) (x1 : Int32) (x2 : Int32) (x3 : Int32), fX9_bestSize_26  n w x1 x2 x3 = some (r, wz) → V K al w 26 [(0, .ref (al 9 0 0)), (1, .int x1), (2, .int x2), (3, .int x3)] [] := by
  intro n
  induction n with
  | zero => intro w x1 x2 x3 h; cases h
  | succ n ih =>
    intro w x1 x2 x3 h
    rw [fX9_bestSize_26.eq_2] at h
    refine r_iload_n 27 hk dX9_bestSize_26 rfl 3 rfl rfl ?_
    refine r_iconst 28 hk dX9_bestSize_27 rfl ci_2 ?_
    refine r_icmp_lt 55 31 hk dX9_bestSize_28 rfl rfl (fun c8 => ?_) (fun c8 => ?_)
    · have h := if_t c8 h
      refine r_aload_n 56 hk dX9_bestSize_55 rfl 0 rfl rfl ?_
      refine r_iload_n 57 hk dX9_bestSize_56 rfl 1 rfl rfl ?_
      obtain ⟨r9, w10, ew10, h⟩ := ob_e h
      refine r_cVi 60 (As := [.int x1]) (rest := []) hk (kX9_accept hN ew10) cf_RX9_115 mi_X9_accept ⟨TX9, 16, rfl⟩ dX9_bestSize_57 rfl (Nat.le_of_ble_eq_true rfl) (Nat.le_of_ble_eq_true rfl) (mk_9_0 (nx_9 hN (j := 0) (by decide))) rfl rfl (Nat.le_of_ble_eq_true rfl) ?_
      exact r_iret hk hR dX9_bestSize_60 h
    · have h := if_f c8 h
      refine r_aload_n 32 hk dX9_bestSize_31 rfl 0 rfl rfl ?_
      refine r_iload_n 33 hk dX9_bestSize_32 rfl 3 rfl rfl ?_
      obtain ⟨r11, w12, ew12, h⟩ := ob_e h
      refine r_cVi 36 (As := [.int x3]) (rest := []) hk (kX9_trackWritesBySize hN ew12) cf_RX9_280 mi_X9_trackWritesBySize ⟨TX9, 16, rfl⟩ dX9_bestSize_33 rfl (Nat.le_of_ble_eq_true rfl) (Nat.le_of_ble_eq_true rfl) (mk_9_0 (nx_9 hN (j := 0) (by decide))) rfl rfl (Nat.le_of_ble_eq_true rfl) ?_
      refine r_istore 38 [(4, .int r11), (0, .ref (al 9 0 0)), (1, .int x1), (2, .int x2), (3, .int x3)] hk dX9_bestSize_36 rfl hn (by decide) rfl rfl ?_
      refine r_iload 40 hk dX9_bestSize_38 rfl 0 rfl ?_
      refine r_iload_n 41 hk dX9_bestSize_40 rfl 3 rfl rfl ?_
      refine r_icmp_ge 49 44 hk dX9_bestSize_41 rfl rfl (fun c13 => ?_) (fun c13 => ?_)
      · have h := if_t c13 h
        obtain ⟨x3_14, ex3_14, h⟩ := lw_e h
        refine r_iinc 52 [(3, .int x3_14), (4, .int r11), (0, .ref (al 9 0 0)), (1, .int x1), (2, .int x2)] hk (j := 4) dX9_bestSize_49 rfl hn (by decide) rfl ex3_14 rfl ?_
        refine r_goto 26 hk (x := 0) dX9_bestSize_52 rfl ?_
        refine r_sub [2, 3, 4, 0] rfl ?_
        exact ih _ _ _ _ h
      · have h := if_f c13 h
        refine r_iload 46 hk dX9_bestSize_44 rfl 0 rfl ?_
        refine r_istore_n 47 [(2, .int r11), (4, .int r11), (0, .ref (al 9 0 0)), (1, .int x1), (3, .int x3)] hk dX9_bestSize_46 rfl rfl hn (by decide) rfl rfl ?_
        refine r_iload_n 48 hk dX9_bestSize_47 rfl 4 rfl rfl ?_
        refine r_istore_n 49 [(1, .int x3), (2, .int r11), (4, .int r11), (0, .ref (al 9 0 0)), (3, .int x3)] hk dX9_bestSize_48 rfl rfl hn (by decide) rfl rfl ?_
        obtain ⟨x3_15, ex3_15, h⟩ := lw_e h
        refine r_iinc 52 [(3, .int x3_15), (1, .int x3), (2, .int r11), (4, .int r11), (0, .ref (al 9 0 0))] hk (j := 4) dX9_bestSize_49 rfl hn (by decide) rfl ex3_15 rfl ?_
        refine r_goto 26 hk (x := 0) dX9_bestSize_52 rfl ?_
        refine r_sub [4, 1, 2, 0] rfl ?_
        exact ih _ _ _ _ h
set_option maxRecDepth 100000 in
set_option maxHeartbeats 4000000 in
theorem kX9_bestSize {l : Launch} {G : Gx} {al : Al} {w : Wd} {r : Int32} {wz : Wd} (hN : NX G) (h : fX9_bestSize w = some (r, wz)) : MC l G yX9_bestSize cX9_bestSize 5 (some (.int)) 7 160 al w [.ref (al 9 0 0)] (some (.int r)) wz := by
  refine mc_of [(0, .ref (al 9 0 0))] (by decide) (Nat.le_of_ble_eq_true rfl) rfl ?_
  intro K hk hR hn hl hG
  subst hl; subst hG
  have hk : VH K RX9 cX9_bestSize 7 160 := hk
  rw [fX9_bestSize.eq_1] at h
  refine r_aload_n 1 hk dX9_bestSize_0 rfl 0 rfl rfl ?_
  obtain ⟨r1, w2, ew2, h⟩ := ob_e h
  refine r_cVi 4 (As := []) (rest := []) hk (kX9_hasDisk hN ew2) cf_RX9_199 mi_X9_hasDisk ⟨TX9, 16, rfl⟩ dX9_bestSize_1 rfl (Nat.le_of_ble_eq_true rfl) (Nat.le_of_ble_eq_true rfl) (mk_9_0 (nx_9 hN (j := 0) (by decide))) rfl rfl (Nat.le_of_ble_eq_true rfl) ?_
  refine r_if_ne 13 7 hk dX9_bestSize_4 rfl rfl (fun c3 => ?_) (fun c3 => ?_)
  · have h := if_f c3 h
    refine r_bipush 15 hk dX9_bestSize_13 rfl cb_8 ?_
    refine r_istore_n 16 [(1, .int 8), (0, .ref (al 9 0 0))] hk dX9_bestSize_15 rfl rfl hn (by decide) rfl rfl ?_
    refine r_aload_n 17 hk dX9_bestSize_16 rfl 1 rfl rfl ?_
    refine r_bipush 19 hk dX9_bestSize_17 rfl cb_8 ?_
    obtain ⟨r4, w5, ew5, h⟩ := ob_e h
    refine r_cVi 22 (As := [.int 8]) (rest := []) hk (kX9_trackWritesBySize hN ew5) cf_RX9_280 mi_X9_trackWritesBySize ⟨TX9, 16, rfl⟩ dX9_bestSize_19 rfl (Nat.le_of_ble_eq_true rfl) (Nat.le_of_ble_eq_true rfl) (mk_9_0 (nx_9 hN (j := 0) (by decide))) rfl rfl (Nat.le_of_ble_eq_true rfl) ?_
    refine r_istore_n 23 [(2, .int r4), (1, .int 8), (0, .ref (al 9 0 0))] hk dX9_bestSize_22 rfl rfl hn (by decide) rfl rfl ?_
    refine r_bipush 25 hk dX9_bestSize_23 rfl cb_7 ?_
    refine r_istore_n 26 [(3, .int 7), (2, .int r4), (1, .int 8), (0, .ref (al 9 0 0))] hk dX9_bestSize_25 rfl rfl hn (by decide) rfl rfl ?_
    refine r_sub [3, 2, 1, 0] rfl ?_
    exact sX9_bestSize_26 hk hR hn hN _ _ _ _ _ h
  · have h := if_t c3 h
    refine r_aload_n 8 hk dX9_bestSize_7 rfl 0 rfl rfl ?_
    refine r_iconst 9 hk dX9_bestSize_8 rfl ci_1 ?_
    obtain ⟨r6, w7, ew7, h⟩ := ob_e h
    refine r_cVi 12 (As := [.int 1]) (rest := []) hk (kX9_refuse hN ew7) cf_RX9_86 mi_X9_refuse ⟨TX9, 16, rfl⟩ dX9_bestSize_9 rfl (Nat.le_of_ble_eq_true rfl) (Nat.le_of_ble_eq_true rfl) (mk_9_0 (nx_9 hN (j := 0) (by decide))) rfl rfl (Nat.le_of_ble_eq_true rfl) ?_
    exact r_iret hk hR dX9_bestSize_12 h
def fX9_cleaningsByLog (w : Wd) (x1 : Int32) : Option (Int32 × Wd) :=
  ckp ((w 9 0).2.2.1 2) 2 fun q1 =>
  ob (fX5_becomeByLog 2 q1 w (x1)) fun _ w3 =>
  ob (fX9_runOn 2 w3 (0)) fun _ w5 =>
  some (((w5 7 1).1 10), w5)
set_option maxRecDepth 100000 in
set_option maxHeartbeats 4000000 in
theorem kX9_cleaningsByLog {l : Launch} {G : Gx} {al : Al} {w : Wd} {x1 : Int32} {r : Int32} {wz : Wd} (hN : NX G) (h : fX9_cleaningsByLog w x1 = some (r, wz)) : MC l G yX9_cleaningsByLog cX9_cleaningsByLog 2 (some (.int)) 6 139 al w [.ref (al 9 0 0), .int x1] (some (.int r)) wz := by
  refine mc_of [(0, .ref (al 9 0 0)), (1, .int x1)] (by decide) (Nat.le_of_ble_eq_true rfl) rfl ?_
  intro K hk hR hn hl hG
  subst hl; subst hG
  have hk : VH K RX9 cX9_cleaningsByLog 6 139 := hk
  rw [fX9_cleaningsByLog.eq_1] at h
  refine r_aload_n 1 hk dX9_cleaningsByLog_0 rfl 0 rfl rfl ?_
  refine r_get 4 hk dX9_cleaningsByLog_1 rfl ff_RX9_52 (mk_9_0 (nx_9 hN (j := 0) (by decide))) (gv_9_8 _ _ _) ?_
  refine r_aload_n 5 hk dX9_cleaningsByLog_4 rfl 0 rfl rfl ?_
  refine r_get 8 hk dX9_cleaningsByLog_5 rfl ff_RX9_16 (mk_9_0 (nx_9 hN (j := 0) (by decide))) (gv_9_2 _ _ _) ?_
  obtain ⟨q1, eq1, lq1, h⟩ := ckp_e h
  refine r_pv1 eq1 ?_
  refine r_get 11 hk dX9_cleaningsByLog_8 rfl ff_RX9_109 (mk_8_0 (nx_8 hN lq1)) (gv_8_0 _ _ _) ?_
  refine r_iload_n 12 hk dX9_cleaningsByLog_11 rfl 1 rfl rfl ?_
  obtain ⟨r2, w3, ew3, h⟩ := ob_e h
  refine r_cVv 15 (As := [.ref (al 5 q1 0), .int x1]) (rest := []) hk (kX5_becomeByLog hN (nx_5 hN (j := 2) (by decide)) (nx_sh hN (nx_8 hN lq1)) ew3) cf_RX9_289 mi_X5_becomeByLog ⟨TX5, 8, rfl⟩ dX9_cleaningsByLog_12 rfl (Nat.le_of_ble_eq_true rfl) (Nat.le_of_ble_eq_true rfl) (mk_5_0 (nx_5 hN (j := 2) (by decide))) rfl rfl (Nat.le_of_ble_eq_true rfl) ?_
  refine r_aload_n 16 hk dX9_cleaningsByLog_15 rfl 0 rfl rfl ?_
  refine r_aload_n 17 hk dX9_cleaningsByLog_16 rfl 0 rfl rfl ?_
  refine r_get 20 hk dX9_cleaningsByLog_17 rfl ff_RX9_52 (mk_9_0 (nx_9 hN (j := 0) (by decide))) (gv_9_8 _ _ _) ?_
  refine r_iconst 21 hk dX9_cleaningsByLog_20 rfl ci_0 ?_
  obtain ⟨r4, w5, ew5, h⟩ := ob_e h
  refine r_cVv 24 (As := [.ref (al 5 2 0), .int 0]) (rest := []) hk (kX9_runOn hN (nx_5 hN (j := 2) (by decide)) ew5) cf_RX9_141 mi_X9_runOn ⟨TX9, 16, rfl⟩ dX9_cleaningsByLog_21 rfl (Nat.le_of_ble_eq_true rfl) (Nat.le_of_ble_eq_true rfl) (mk_9_0 (nx_9 hN (j := 0) (by decide))) rfl rfl (Nat.le_of_ble_eq_true rfl) ?_
  refine r_aload_n 25 hk dX9_cleaningsByLog_24 rfl 0 rfl rfl ?_
  refine r_get 28 hk dX9_cleaningsByLog_25 rfl ff_RX9_46 (mk_9_0 (nx_9 hN (j := 0) (by decide))) (gv_9_7 _ _ _) ?_
  refine r_get 31 hk dX9_cleaningsByLog_28 rfl ff_RX9_271 (mk_7_0 (nx_7 hN (j := 1) (by decide))) (gv_7_10 _ _ _) ?_
  exact r_iret hk hR dX9_cleaningsByLog_31 h
def fX9_byLog (w : Wd) (x1 : Int32) : Option (Int32 × Wd) :=
  ob (fX9_hasDisk w ) fun r1 w2 =>
  if (r1 : Int32) = 0 then
    ob (fX9_refuse w2 (1)) fun r14 w15 =>
    some (r14, w15)
  else
    if (x1 : Int32) < 2 then
      ob (fX9_refuse w2 (2)) fun r5 w6 =>
      some (r5, w6)
    else
      if (x1 : Int32) ≤ 24 then
        ob (fX9_cleaningsByLog w2 (x1)) fun r8 w9 =>
        ob (fX9_accept w9 (r8)) fun r10 w11 =>
        some (r10, w11)
      else
        ob (fX9_refuse w2 (2)) fun r12 w13 =>
        some (r12, w13)
set_option maxRecDepth 100000 in
set_option maxHeartbeats 4000000 in
theorem kX9_byLog {l : Launch} {G : Gx} {al : Al} {w : Wd} {x1 : Int32} {r : Int32} {wz : Wd} (hN : NX G) (h : fX9_byLog w x1 = some (r, wz)) : MC l G yX9_byLog cX9_byLog 2 (some (.int)) 7 160 al w [.ref (al 9 0 0), .int x1] (some (.int r)) wz := by
  refine mc_of [(0, .ref (al 9 0 0)), (1, .int x1)] (by decide) (Nat.le_of_ble_eq_true rfl) rfl ?_
  intro K hk hR hn hl hG
  subst hl; subst hG
  have hk : VH K RX9 cX9_byLog 7 160 := hk
  rw [fX9_byLog.eq_1] at h
  refine r_aload_n 1 hk dX9_byLog_0 rfl 0 rfl rfl ?_
  obtain ⟨r1, w2, ew2, h⟩ := ob_e h
  refine r_cVi 4 (As := []) (rest := []) hk (kX9_hasDisk hN ew2) cf_RX9_199 mi_X9_hasDisk ⟨TX9, 16, rfl⟩ dX9_byLog_1 rfl (Nat.le_of_ble_eq_true rfl) (Nat.le_of_ble_eq_true rfl) (mk_9_0 (nx_9 hN (j := 0) (by decide))) rfl rfl (Nat.le_of_ble_eq_true rfl) ?_
  refine r_if_ne 13 7 hk dX9_byLog_4 rfl rfl (fun c3 => ?_) (fun c3 => ?_)
  · have h := if_f c3 h
    refine r_iload_n 14 hk dX9_byLog_13 rfl 1 rfl rfl ?_
    refine r_iconst 15 hk dX9_byLog_14 rfl ci_2 ?_
    refine r_icmp_lt 24 18 hk dX9_byLog_15 rfl rfl (fun c4 => ?_) (fun c4 => ?_)
    · have h := if_t c4 h
      refine r_aload_n 25 hk dX9_byLog_24 rfl 0 rfl rfl ?_
      refine r_iconst 26 hk dX9_byLog_25 rfl ci_2 ?_
      obtain ⟨r5, w6, ew6, h⟩ := ob_e h
      refine r_cVi 29 (As := [.int 2]) (rest := []) hk (kX9_refuse hN ew6) cf_RX9_86 mi_X9_refuse ⟨TX9, 16, rfl⟩ dX9_byLog_26 rfl (Nat.le_of_ble_eq_true rfl) (Nat.le_of_ble_eq_true rfl) (mk_9_0 (nx_9 hN (j := 0) (by decide))) rfl rfl (Nat.le_of_ble_eq_true rfl) ?_
      exact r_iret hk hR dX9_byLog_29 h
    · have h := if_f c4 h
      refine r_iload_n 19 hk dX9_byLog_18 rfl 1 rfl rfl ?_
      refine r_bipush 21 hk dX9_byLog_19 rfl cb_24 ?_
      refine r_icmp_le 30 24 hk dX9_byLog_21 rfl rfl (fun c7 => ?_) (fun c7 => ?_)
      · have h := if_t c7 h
        refine r_aload_n 31 hk dX9_byLog_30 rfl 0 rfl rfl ?_
        refine r_aload_n 32 hk dX9_byLog_31 rfl 0 rfl rfl ?_
        refine r_iload_n 33 hk dX9_byLog_32 rfl 1 rfl rfl ?_
        obtain ⟨r8, w9, ew9, h⟩ := ob_e h
        refine r_cVi 36 (As := [.int x1]) (rest := [.ref (al 9 0 0)]) hk (kX9_cleaningsByLog hN ew9) cf_RX9_286 mi_X9_cleaningsByLog ⟨TX9, 16, rfl⟩ dX9_byLog_33 rfl (Nat.le_of_ble_eq_true rfl) (Nat.le_of_ble_eq_true rfl) (mk_9_0 (nx_9 hN (j := 0) (by decide))) rfl rfl (Nat.le_of_ble_eq_true rfl) ?_
        obtain ⟨r10, w11, ew11, h⟩ := ob_e h
        refine r_cVi 39 (As := [.int r8]) (rest := []) hk (kX9_accept hN ew11) cf_RX9_115 mi_X9_accept ⟨TX9, 16, rfl⟩ dX9_byLog_36 rfl (Nat.le_of_ble_eq_true rfl) (Nat.le_of_ble_eq_true rfl) (mk_9_0 (nx_9 hN (j := 0) (by decide))) rfl rfl (Nat.le_of_ble_eq_true rfl) ?_
        exact r_iret hk hR dX9_byLog_39 h
      · have h := if_f c7 h
        refine r_aload_n 25 hk dX9_byLog_24 rfl 0 rfl rfl ?_
        refine r_iconst 26 hk dX9_byLog_25 rfl ci_2 ?_
        obtain ⟨r12, w13, ew13, h⟩ := ob_e h
        refine r_cVi 29 (As := [.int 2]) (rest := []) hk (kX9_refuse hN ew13) cf_RX9_86 mi_X9_refuse ⟨TX9, 16, rfl⟩ dX9_byLog_26 rfl (Nat.le_of_ble_eq_true rfl) (Nat.le_of_ble_eq_true rfl) (mk_9_0 (nx_9 hN (j := 0) (by decide))) rfl rfl (Nat.le_of_ble_eq_true rfl) ?_
        exact r_iret hk hR dX9_byLog_29 h
  · have h := if_t c3 h
    refine r_aload_n 8 hk dX9_byLog_7 rfl 0 rfl rfl ?_
    refine r_iconst 9 hk dX9_byLog_8 rfl ci_1 ?_
    obtain ⟨r14, w15, ew15, h⟩ := ob_e h
    refine r_cVi 12 (As := [.int 1]) (rest := []) hk (kX9_refuse hN ew15) cf_RX9_86 mi_X9_refuse ⟨TX9, 16, rfl⟩ dX9_byLog_9 rfl (Nat.le_of_ble_eq_true rfl) (Nat.le_of_ble_eq_true rfl) (mk_9_0 (nx_9 hN (j := 0) (by decide))) rfl rfl (Nat.le_of_ble_eq_true rfl) ?_
    exact r_iret hk hR dX9_byLog_12 h
def fX9_logFor_31  : Nat → Wd → Int32 → Int32 → Option (Int32 × Wd)
  | 0, _, _, _ => none
  | n + 1, w, x1, x2 =>
    if (24 : Int32) < x2 then
      ob (fX9_accept w ((-2))) fun r13 w14 =>
      some (r13, w14)
    else
      ob (fX9_cleaningsByLog w (x2)) fun r15 w16 =>
      if (x1 : Int32) < r15 then
        lw (x2 + 1) fun x2_18 =>
        fX9_logFor_31  n w16 (x1) (x2_18)
      else
        ob (fX9_accept w16 (x2)) fun r19 w20 =>
        some (r19, w20)
def fX9_logFor (w : Wd) (x1 : Int32) : Option (Int32 × Wd) :=
  ob (fX9_hasDisk w ) fun r1 w2 =>
  if (r1 : Int32) = 0 then
    ob (fX9_refuse w2 (1)) fun r10 w11 =>
    some (r10, w11)
  else
    if (x1 : Int32) < 0 then
      ob (fX9_refuse w2 (2)) fun r5 w6 =>
      some (r5, w6)
    else
      if (x1 : Int32) ≤ 16 then
        fX9_logFor_31  fuel0 w2 (x1) (2)
      else
        ob (fX9_refuse w2 (2)) fun r8 w9 =>
        some (r8, w9)
set_option maxRecDepth 100000 in
set_option maxHeartbeats 4000000 in
theorem sX9_logFor_31 {K : VC} {al : Al} {r : Int32} {wz : Wd}  (hk : VH K RX9 cX9_logFor 7 160) (hR : VR K al (some (.int)) (some (.int r)) wz) (hn : kn K = 3) (hN : NX (kG K)) : ∀ (n : Nat) (w : Wd) (x1 : Int32) (x2 : Int32), fX9_logFor_31  n w x1 x2 = some (r, wz) → V K al w 31 [(0, .ref (al 9 0 0)), (1, .int x1), (2, .int x2)] [] := by
  intro n
  induction n with
  | zero => intro w x1 x2 h; cases h
  | succ n ih =>
    intro w x1 x2 h
    rw [fX9_logFor_31.eq_2] at h
    refine r_iload_n 32 hk dX9_logFor_31 rfl 2 rfl rfl ?_
    refine r_bipush 34 hk dX9_logFor_32 rfl cb_24 ?_
    refine r_icmp_gt 58 37 hk dX9_logFor_34 rfl rfl (fun c12 => ?_) (fun c12 => ?_)
    · have h := if_t c12 h
      refine r_aload_n 59 hk dX9_logFor_58 rfl 0 rfl rfl ?_
      refine r_bipush 61 hk dX9_logFor_59 rfl cb_m2 ?_
      obtain ⟨r13, w14, ew14, h⟩ := ob_e h
      refine r_cVi 64 (As := [.int (-2)]) (rest := []) hk (kX9_accept hN ew14) cf_RX9_115 mi_X9_accept ⟨TX9, 16, rfl⟩ dX9_logFor_61 rfl (Nat.le_of_ble_eq_true rfl) (Nat.le_of_ble_eq_true rfl) (mk_9_0 (nx_9 hN (j := 0) (by decide))) rfl rfl (Nat.le_of_ble_eq_true rfl) ?_
      exact r_iret hk hR dX9_logFor_64 h
    · have h := if_f c12 h
      refine r_aload_n 38 hk dX9_logFor_37 rfl 0 rfl rfl ?_
      refine r_iload_n 39 hk dX9_logFor_38 rfl 2 rfl rfl ?_
      obtain ⟨r15, w16, ew16, h⟩ := ob_e h
      refine r_cVi 42 (As := [.int x2]) (rest := []) hk (kX9_cleaningsByLog hN ew16) cf_RX9_286 mi_X9_cleaningsByLog ⟨TX9, 16, rfl⟩ dX9_logFor_39 rfl (Nat.le_of_ble_eq_true rfl) (Nat.le_of_ble_eq_true rfl) (mk_9_0 (nx_9 hN (j := 0) (by decide))) rfl rfl (Nat.le_of_ble_eq_true rfl) ?_
      refine r_iload_n 43 hk dX9_logFor_42 rfl 1 rfl rfl ?_
      refine r_icmp_gt 52 46 hk dX9_logFor_43 rfl rfl (fun c17 => ?_) (fun c17 => ?_)
      · have h := if_t c17 h
        obtain ⟨x2_18, ex2_18, h⟩ := lw_e h
        refine r_iinc 55 [(2, .int x2_18), (0, .ref (al 9 0 0)), (1, .int x1)] hk (j := 2) dX9_logFor_52 rfl hn (by decide) rfl ex2_18 rfl ?_
        refine r_goto 31 hk (x := 0) dX9_logFor_55 rfl ?_
        refine r_sub [1, 2, 0] rfl ?_
        exact ih _ _ _ h
      · have h := if_f c17 h
        refine r_aload_n 47 hk dX9_logFor_46 rfl 0 rfl rfl ?_
        refine r_iload_n 48 hk dX9_logFor_47 rfl 2 rfl rfl ?_
        obtain ⟨r19, w20, ew20, h⟩ := ob_e h
        refine r_cVi 51 (As := [.int x2]) (rest := []) hk (kX9_accept hN ew20) cf_RX9_115 mi_X9_accept ⟨TX9, 16, rfl⟩ dX9_logFor_48 rfl (Nat.le_of_ble_eq_true rfl) (Nat.le_of_ble_eq_true rfl) (mk_9_0 (nx_9 hN (j := 0) (by decide))) rfl rfl (Nat.le_of_ble_eq_true rfl) ?_
        exact r_iret hk hR dX9_logFor_51 h
set_option maxRecDepth 100000 in
set_option maxHeartbeats 4000000 in
theorem kX9_logFor {l : Launch} {G : Gx} {al : Al} {w : Wd} {x1 : Int32} {r : Int32} {wz : Wd} (hN : NX G) (h : fX9_logFor w x1 = some (r, wz)) : MC l G yX9_logFor cX9_logFor 3 (some (.int)) 7 160 al w [.ref (al 9 0 0), .int x1] (some (.int r)) wz := by
  refine mc_of [(0, .ref (al 9 0 0)), (1, .int x1)] (by decide) (Nat.le_of_ble_eq_true rfl) rfl ?_
  intro K hk hR hn hl hG
  subst hl; subst hG
  have hk : VH K RX9 cX9_logFor 7 160 := hk
  rw [fX9_logFor.eq_1] at h
  refine r_aload_n 1 hk dX9_logFor_0 rfl 0 rfl rfl ?_
  obtain ⟨r1, w2, ew2, h⟩ := ob_e h
  refine r_cVi 4 (As := []) (rest := []) hk (kX9_hasDisk hN ew2) cf_RX9_199 mi_X9_hasDisk ⟨TX9, 16, rfl⟩ dX9_logFor_1 rfl (Nat.le_of_ble_eq_true rfl) (Nat.le_of_ble_eq_true rfl) (mk_9_0 (nx_9 hN (j := 0) (by decide))) rfl rfl (Nat.le_of_ble_eq_true rfl) ?_
  refine r_if_ne 13 7 hk dX9_logFor_4 rfl rfl (fun c3 => ?_) (fun c3 => ?_)
  · have h := if_f c3 h
    refine r_iload_n 14 hk dX9_logFor_13 rfl 1 rfl rfl ?_
    refine r_if_lt 23 17 hk dX9_logFor_14 rfl rfl (fun c4 => ?_) (fun c4 => ?_)
    · have h := if_t c4 h
      refine r_aload_n 24 hk dX9_logFor_23 rfl 0 rfl rfl ?_
      refine r_iconst 25 hk dX9_logFor_24 rfl ci_2 ?_
      obtain ⟨r5, w6, ew6, h⟩ := ob_e h
      refine r_cVi 28 (As := [.int 2]) (rest := []) hk (kX9_refuse hN ew6) cf_RX9_86 mi_X9_refuse ⟨TX9, 16, rfl⟩ dX9_logFor_25 rfl (Nat.le_of_ble_eq_true rfl) (Nat.le_of_ble_eq_true rfl) (mk_9_0 (nx_9 hN (j := 0) (by decide))) rfl rfl (Nat.le_of_ble_eq_true rfl) ?_
      exact r_iret hk hR dX9_logFor_28 h
    · have h := if_f c4 h
      refine r_iload_n 18 hk dX9_logFor_17 rfl 1 rfl rfl ?_
      refine r_bipush 20 hk dX9_logFor_18 rfl cb_16 ?_
      refine r_icmp_le 29 23 hk dX9_logFor_20 rfl rfl (fun c7 => ?_) (fun c7 => ?_)
      · have h := if_t c7 h
        refine r_iconst 30 hk dX9_logFor_29 rfl ci_2 ?_
        refine r_istore_n 31 [(2, .int 2), (0, .ref (al 9 0 0)), (1, .int x1)] hk dX9_logFor_30 rfl rfl hn (by decide) rfl rfl ?_
        refine r_sub [1, 2, 0] rfl ?_
        exact sX9_logFor_31 hk hR hn hN _ _ _ _ h
      · have h := if_f c7 h
        refine r_aload_n 24 hk dX9_logFor_23 rfl 0 rfl rfl ?_
        refine r_iconst 25 hk dX9_logFor_24 rfl ci_2 ?_
        obtain ⟨r8, w9, ew9, h⟩ := ob_e h
        refine r_cVi 28 (As := [.int 2]) (rest := []) hk (kX9_refuse hN ew9) cf_RX9_86 mi_X9_refuse ⟨TX9, 16, rfl⟩ dX9_logFor_25 rfl (Nat.le_of_ble_eq_true rfl) (Nat.le_of_ble_eq_true rfl) (mk_9_0 (nx_9 hN (j := 0) (by decide))) rfl rfl (Nat.le_of_ble_eq_true rfl) ?_
        exact r_iret hk hR dX9_logFor_28 h
  · have h := if_t c3 h
    refine r_aload_n 8 hk dX9_logFor_7 rfl 0 rfl rfl ?_
    refine r_iconst 9 hk dX9_logFor_8 rfl ci_1 ?_
    obtain ⟨r10, w11, ew11, h⟩ := ob_e h
    refine r_cVi 12 (As := [.int 1]) (rest := []) hk (kX9_refuse hN ew11) cf_RX9_86 mi_X9_refuse ⟨TX9, 16, rfl⟩ dX9_logFor_9 rfl (Nat.le_of_ble_eq_true rfl) (Nat.le_of_ble_eq_true rfl) (mk_9_0 (nx_9 hN (j := 0) (by decide))) rfl rfl (Nat.le_of_ble_eq_true rfl) ?_
    exact r_iret hk hR dX9_logFor_12 h
def fX9_fits (w : Wd) : Option (Int32 × Wd) :=
  ob (fX9_hasDisk w ) fun r1 w2 =>
  if (r1 : Int32) = 0 then
    ob (fX9_refuse w2 (1)) fun r6 w7 =>
    some (r6, w7)
  else
    ob (fX9_accept w2 (((w2 1 0).1 1))) fun r4 w5 =>
    some (r4, w5)
set_option maxRecDepth 100000 in
set_option maxHeartbeats 4000000 in
theorem kX9_fits {l : Launch} {G : Gx} {al : Al} {w : Wd} {r : Int32} {wz : Wd} (hN : NX G) (h : fX9_fits w = some (r, wz)) : MC l G yX9_fits cX9_fits 1 (some (.int)) 1 21 al w [.ref (al 9 0 0)] (some (.int r)) wz := by
  refine mc_of [(0, .ref (al 9 0 0))] (by decide) (Nat.le_of_ble_eq_true rfl) rfl ?_
  intro K hk hR hn hl hG
  subst hl; subst hG
  have hk : VH K RX9 cX9_fits 1 21 := hk
  rw [fX9_fits.eq_1] at h
  refine r_aload_n 1 hk dX9_fits_0 rfl 0 rfl rfl ?_
  obtain ⟨r1, w2, ew2, h⟩ := ob_e h
  refine r_cVi 4 (As := []) (rest := []) hk (kX9_hasDisk hN ew2) cf_RX9_199 mi_X9_hasDisk ⟨TX9, 16, rfl⟩ dX9_fits_1 rfl (Nat.le_of_ble_eq_true rfl) (Nat.le_of_ble_eq_true rfl) (mk_9_0 (nx_9 hN (j := 0) (by decide))) rfl rfl (Nat.le_of_ble_eq_true rfl) ?_
  refine r_if_ne 13 7 hk dX9_fits_4 rfl rfl (fun c3 => ?_) (fun c3 => ?_)
  · have h := if_f c3 h
    refine r_aload_n 14 hk dX9_fits_13 rfl 0 rfl rfl ?_
    refine r_aload_n 15 hk dX9_fits_14 rfl 0 rfl rfl ?_
    refine r_get 18 hk dX9_fits_15 rfl ff_RX9_35 (mk_9_0 (nx_9 hN (j := 0) (by decide))) (gv_9_5 _ _ _) ?_
    refine r_get 21 hk dX9_fits_18 rfl ff_RX9_132 (mk_1_0 (nx_1 hN (j := 0) (by decide))) (gv_1_1 _ _ _) ?_
    obtain ⟨r4, w5, ew5, h⟩ := ob_e h
    refine r_cVi 24 (As := [.int (((w2 1 0).1 1))]) (rest := []) hk (kX9_accept hN ew5) cf_RX9_115 mi_X9_accept ⟨TX9, 16, rfl⟩ dX9_fits_21 rfl (Nat.le_of_ble_eq_true rfl) (Nat.le_of_ble_eq_true rfl) (mk_9_0 (nx_9 hN (j := 0) (by decide))) rfl rfl (Nat.le_of_ble_eq_true rfl) ?_
    exact r_iret hk hR dX9_fits_24 h
  · have h := if_t c3 h
    refine r_aload_n 8 hk dX9_fits_7 rfl 0 rfl rfl ?_
    refine r_iconst 9 hk dX9_fits_8 rfl ci_1 ?_
    obtain ⟨r6, w7, ew7, h⟩ := ob_e h
    refine r_cVi 12 (As := [.int 1]) (rest := []) hk (kX9_refuse hN ew7) cf_RX9_86 mi_X9_refuse ⟨TX9, 16, rfl⟩ dX9_fits_9 rfl (Nat.le_of_ble_eq_true rfl) (Nat.le_of_ble_eq_true rfl) (mk_9_0 (nx_9 hN (j := 0) (by decide))) rfl rfl (Nat.le_of_ble_eq_true rfl) ?_
    exact r_iret hk hR dX9_fits_12 h
def fX9_fitAt (w : Wd) (x1 : Int32) : Option (Int32 × Wd) :=
  ob (fX9_hasDisk w ) fun r1 w2 =>
  if (r1 : Int32) = 0 then
    ob (fX9_refuse w2 (1)) fun r4 w5 =>
    some (r4, w5)
  else
    if (x1 : Int32) < 0 then
      ob (fX9_refuse w2 (1)) fun r7 w8 =>
      some (r7, w8)
    else
      if (x1 : Int32) < ((w2 1 0).1 1) then
        ob (fX9_at 1 0 0 w2 (x1)) fun r10 w11 =>
        ob (fX9_accept w11 (r10)) fun r12 w13 =>
        some (r12, w13)
      else
        ob (fX9_refuse w2 (1)) fun r14 w15 =>
        some (r14, w15)
set_option maxRecDepth 100000 in
set_option maxHeartbeats 4000000 in
theorem kX9_fitAt {l : Launch} {G : Gx} {al : Al} {w : Wd} {x1 : Int32} {r : Int32} {wz : Wd} (hN : NX G) (h : fX9_fitAt w x1 = some (r, wz)) : MC l G yX9_fitAt cX9_fitAt 2 (some (.int)) 1 21 al w [.ref (al 9 0 0), .int x1] (some (.int r)) wz := by
  refine mc_of [(0, .ref (al 9 0 0)), (1, .int x1)] (by decide) (Nat.le_of_ble_eq_true rfl) rfl ?_
  intro K hk hR hn hl hG
  subst hl; subst hG
  have hk : VH K RX9 cX9_fitAt 1 21 := hk
  rw [fX9_fitAt.eq_1] at h
  refine r_aload_n 1 hk dX9_fitAt_0 rfl 0 rfl rfl ?_
  obtain ⟨r1, w2, ew2, h⟩ := ob_e h
  refine r_cVi 4 (As := []) (rest := []) hk (kX9_hasDisk hN ew2) cf_RX9_199 mi_X9_hasDisk ⟨TX9, 16, rfl⟩ dX9_fitAt_1 rfl (Nat.le_of_ble_eq_true rfl) (Nat.le_of_ble_eq_true rfl) (mk_9_0 (nx_9 hN (j := 0) (by decide))) rfl rfl (Nat.le_of_ble_eq_true rfl) ?_
  refine r_if_eq 22 7 hk dX9_fitAt_4 rfl rfl (fun c3 => ?_) (fun c3 => ?_)
  · have h := if_t c3 h
    refine r_aload_n 23 hk dX9_fitAt_22 rfl 0 rfl rfl ?_
    refine r_iconst 24 hk dX9_fitAt_23 rfl ci_1 ?_
    obtain ⟨r4, w5, ew5, h⟩ := ob_e h
    refine r_cVi 27 (As := [.int 1]) (rest := []) hk (kX9_refuse hN ew5) cf_RX9_86 mi_X9_refuse ⟨TX9, 16, rfl⟩ dX9_fitAt_24 rfl (Nat.le_of_ble_eq_true rfl) (Nat.le_of_ble_eq_true rfl) (mk_9_0 (nx_9 hN (j := 0) (by decide))) rfl rfl (Nat.le_of_ble_eq_true rfl) ?_
    exact r_iret hk hR dX9_fitAt_27 h
  · have h := if_f c3 h
    refine r_iload_n 8 hk dX9_fitAt_7 rfl 1 rfl rfl ?_
    refine r_if_lt 22 11 hk dX9_fitAt_8 rfl rfl (fun c6 => ?_) (fun c6 => ?_)
    · have h := if_t c6 h
      refine r_aload_n 23 hk dX9_fitAt_22 rfl 0 rfl rfl ?_
      refine r_iconst 24 hk dX9_fitAt_23 rfl ci_1 ?_
      obtain ⟨r7, w8, ew8, h⟩ := ob_e h
      refine r_cVi 27 (As := [.int 1]) (rest := []) hk (kX9_refuse hN ew8) cf_RX9_86 mi_X9_refuse ⟨TX9, 16, rfl⟩ dX9_fitAt_24 rfl (Nat.le_of_ble_eq_true rfl) (Nat.le_of_ble_eq_true rfl) (mk_9_0 (nx_9 hN (j := 0) (by decide))) rfl rfl (Nat.le_of_ble_eq_true rfl) ?_
      exact r_iret hk hR dX9_fitAt_27 h
    · have h := if_f c6 h
      refine r_iload_n 12 hk dX9_fitAt_11 rfl 1 rfl rfl ?_
      refine r_aload_n 13 hk dX9_fitAt_12 rfl 0 rfl rfl ?_
      refine r_get 16 hk dX9_fitAt_13 rfl ff_RX9_35 (mk_9_0 (nx_9 hN (j := 0) (by decide))) (gv_9_5 _ _ _) ?_
      refine r_get 19 hk dX9_fitAt_16 rfl ff_RX9_132 (mk_1_0 (nx_1 hN (j := 0) (by decide))) (gv_1_1 _ _ _) ?_
      refine r_icmp_lt 28 22 hk dX9_fitAt_19 rfl rfl (fun c9 => ?_) (fun c9 => ?_)
      · have h := if_t c9 h
        refine r_aload_n 29 hk dX9_fitAt_28 rfl 0 rfl rfl ?_
        refine r_aload_n 30 hk dX9_fitAt_29 rfl 0 rfl rfl ?_
        refine r_get 33 hk dX9_fitAt_30 rfl ff_RX9_35 (mk_9_0 (nx_9 hN (j := 0) (by decide))) (gv_9_5 _ _ _) ?_
        refine r_get 36 hk dX9_fitAt_33 rfl ff_RX9_299 (mk_1_0 (nx_1 hN (j := 0) (by decide))) (gv_1_0 _ _ _) ?_
        refine r_iload_n 37 hk dX9_fitAt_36 rfl 1 rfl rfl ?_
        obtain ⟨r10, w11, ew11, h⟩ := ob_e h
        refine r_cSi 40 (As := [.ref (al 1 0 1), .int x1]) (rest := [.ref (al 9 0 0)]) hk (kX9_at hN rfl (mk_1_1 (nx_1 hN (j := 0) (by decide))) ew11) cf_RX9_173 ms_X9_at dX9_fitAt_37 rfl (Nat.le_of_ble_eq_true rfl) (Nat.le_of_ble_eq_true rfl) rfl rfl (Nat.le_of_ble_eq_true rfl) ?_
        obtain ⟨r12, w13, ew13, h⟩ := ob_e h
        refine r_cVi 43 (As := [.int r10]) (rest := []) hk (kX9_accept hN ew13) cf_RX9_115 mi_X9_accept ⟨TX9, 16, rfl⟩ dX9_fitAt_40 rfl (Nat.le_of_ble_eq_true rfl) (Nat.le_of_ble_eq_true rfl) (mk_9_0 (nx_9 hN (j := 0) (by decide))) rfl rfl (Nat.le_of_ble_eq_true rfl) ?_
        exact r_iret hk hR dX9_fitAt_43 h
      · have h := if_f c9 h
        refine r_aload_n 23 hk dX9_fitAt_22 rfl 0 rfl rfl ?_
        refine r_iconst 24 hk dX9_fitAt_23 rfl ci_1 ?_
        obtain ⟨r14, w15, ew15, h⟩ := ob_e h
        refine r_cVi 27 (As := [.int 1]) (rest := []) hk (kX9_refuse hN ew15) cf_RX9_86 mi_X9_refuse ⟨TX9, 16, rfl⟩ dX9_fitAt_24 rfl (Nat.le_of_ble_eq_true rfl) (Nat.le_of_ble_eq_true rfl) (mk_9_0 (nx_9 hN (j := 0) (by decide))) rfl rfl (Nat.le_of_ble_eq_true rfl) ?_
        exact r_iret hk hR dX9_fitAt_27 h
def fX9_could (w : Wd) : Option (Int32 × Wd) :=
  ob (fX9_hasDisk w ) fun r1 w2 =>
  if (r1 : Int32) = 0 then
    ob (fX9_refuse w2 (1)) fun r8 w9 =>
    some (r8, w9)
  else
    ob (fX1_inSome w2 ) fun r4 w5 =>
    ob (fX9_accept w5 (r4)) fun r6 w7 =>
    some (r6, w7)
set_option maxRecDepth 100000 in
set_option maxHeartbeats 4000000 in
theorem kX9_could {l : Launch} {G : Gx} {al : Al} {w : Wd} {r : Int32} {wz : Wd} (hN : NX G) (h : fX9_could w = some (r, wz)) : MC l G yX9_could cX9_could 1 (some (.int)) 2 43 al w [.ref (al 9 0 0)] (some (.int r)) wz := by
  refine mc_of [(0, .ref (al 9 0 0))] (by decide) (Nat.le_of_ble_eq_true rfl) rfl ?_
  intro K hk hR hn hl hG
  subst hl; subst hG
  have hk : VH K RX9 cX9_could 2 43 := hk
  rw [fX9_could.eq_1] at h
  refine r_aload_n 1 hk dX9_could_0 rfl 0 rfl rfl ?_
  obtain ⟨r1, w2, ew2, h⟩ := ob_e h
  refine r_cVi 4 (As := []) (rest := []) hk (kX9_hasDisk hN ew2) cf_RX9_199 mi_X9_hasDisk ⟨TX9, 16, rfl⟩ dX9_could_1 rfl (Nat.le_of_ble_eq_true rfl) (Nat.le_of_ble_eq_true rfl) (mk_9_0 (nx_9 hN (j := 0) (by decide))) rfl rfl (Nat.le_of_ble_eq_true rfl) ?_
  refine r_if_ne 13 7 hk dX9_could_4 rfl rfl (fun c3 => ?_) (fun c3 => ?_)
  · have h := if_f c3 h
    refine r_aload_n 14 hk dX9_could_13 rfl 0 rfl rfl ?_
    refine r_aload_n 15 hk dX9_could_14 rfl 0 rfl rfl ?_
    refine r_get 18 hk dX9_could_15 rfl ff_RX9_35 (mk_9_0 (nx_9 hN (j := 0) (by decide))) (gv_9_5 _ _ _) ?_
    obtain ⟨r4, w5, ew5, h⟩ := ob_e h
    refine r_cVi 21 (As := []) (rest := [.ref (al 9 0 0)]) hk (kX1_inSome hN ew5) cf_RX9_302 mi_X1_inSome ⟨TX1, 2, rfl⟩ dX9_could_18 rfl (Nat.le_of_ble_eq_true rfl) (Nat.le_of_ble_eq_true rfl) (mk_1_0 (nx_1 hN (j := 0) (by decide))) rfl rfl (Nat.le_of_ble_eq_true rfl) ?_
    obtain ⟨r6, w7, ew7, h⟩ := ob_e h
    refine r_cVi 24 (As := [.int r4]) (rest := []) hk (kX9_accept hN ew7) cf_RX9_115 mi_X9_accept ⟨TX9, 16, rfl⟩ dX9_could_21 rfl (Nat.le_of_ble_eq_true rfl) (Nat.le_of_ble_eq_true rfl) (mk_9_0 (nx_9 hN (j := 0) (by decide))) rfl rfl (Nat.le_of_ble_eq_true rfl) ?_
    exact r_iret hk hR dX9_could_24 h
  · have h := if_t c3 h
    refine r_aload_n 8 hk dX9_could_7 rfl 0 rfl rfl ?_
    refine r_iconst 9 hk dX9_could_8 rfl ci_1 ?_
    obtain ⟨r8, w9, ew9, h⟩ := ob_e h
    refine r_cVi 12 (As := [.int 1]) (rest := []) hk (kX9_refuse hN ew9) cf_RX9_86 mi_X9_refuse ⟨TX9, 16, rfl⟩ dX9_could_9 rfl (Nat.le_of_ble_eq_true rfl) (Nat.le_of_ble_eq_true rfl) (mk_9_0 (nx_9 hN (j := 0) (by decide))) rfl rfl (Nat.le_of_ble_eq_true rfl) ?_
    exact r_iret hk hR dX9_could_12 h
def fX9_surely (w : Wd) : Option (Int32 × Wd) :=
  ob (fX9_hasDisk w ) fun r1 w2 =>
  if (r1 : Int32) = 0 then
    ob (fX9_refuse w2 (1)) fun r8 w9 =>
    some (r8, w9)
  else
    ob (fX1_inAll w2 ) fun r4 w5 =>
    ob (fX9_accept w5 (r4)) fun r6 w7 =>
    some (r6, w7)
set_option maxRecDepth 100000 in
set_option maxHeartbeats 4000000 in
theorem kX9_surely {l : Launch} {G : Gx} {al : Al} {w : Wd} {r : Int32} {wz : Wd} (hN : NX G) (h : fX9_surely w = some (r, wz)) : MC l G yX9_surely cX9_surely 1 (some (.int)) 2 43 al w [.ref (al 9 0 0)] (some (.int r)) wz := by
  refine mc_of [(0, .ref (al 9 0 0))] (by decide) (Nat.le_of_ble_eq_true rfl) rfl ?_
  intro K hk hR hn hl hG
  subst hl; subst hG
  have hk : VH K RX9 cX9_surely 2 43 := hk
  rw [fX9_surely.eq_1] at h
  refine r_aload_n 1 hk dX9_surely_0 rfl 0 rfl rfl ?_
  obtain ⟨r1, w2, ew2, h⟩ := ob_e h
  refine r_cVi 4 (As := []) (rest := []) hk (kX9_hasDisk hN ew2) cf_RX9_199 mi_X9_hasDisk ⟨TX9, 16, rfl⟩ dX9_surely_1 rfl (Nat.le_of_ble_eq_true rfl) (Nat.le_of_ble_eq_true rfl) (mk_9_0 (nx_9 hN (j := 0) (by decide))) rfl rfl (Nat.le_of_ble_eq_true rfl) ?_
  refine r_if_ne 13 7 hk dX9_surely_4 rfl rfl (fun c3 => ?_) (fun c3 => ?_)
  · have h := if_f c3 h
    refine r_aload_n 14 hk dX9_surely_13 rfl 0 rfl rfl ?_
    refine r_aload_n 15 hk dX9_surely_14 rfl 0 rfl rfl ?_
    refine r_get 18 hk dX9_surely_15 rfl ff_RX9_35 (mk_9_0 (nx_9 hN (j := 0) (by decide))) (gv_9_5 _ _ _) ?_
    obtain ⟨r4, w5, ew5, h⟩ := ob_e h
    refine r_cVi 21 (As := []) (rest := [.ref (al 9 0 0)]) hk (kX1_inAll hN ew5) cf_RX9_305 mi_X1_inAll ⟨TX1, 2, rfl⟩ dX9_surely_18 rfl (Nat.le_of_ble_eq_true rfl) (Nat.le_of_ble_eq_true rfl) (mk_1_0 (nx_1 hN (j := 0) (by decide))) rfl rfl (Nat.le_of_ble_eq_true rfl) ?_
    obtain ⟨r6, w7, ew7, h⟩ := ob_e h
    refine r_cVi 24 (As := [.int r4]) (rest := []) hk (kX9_accept hN ew7) cf_RX9_115 mi_X9_accept ⟨TX9, 16, rfl⟩ dX9_surely_21 rfl (Nat.le_of_ble_eq_true rfl) (Nat.le_of_ble_eq_true rfl) (mk_9_0 (nx_9 hN (j := 0) (by decide))) rfl rfl (Nat.le_of_ble_eq_true rfl) ?_
    exact r_iret hk hR dX9_surely_24 h
  · have h := if_t c3 h
    refine r_aload_n 8 hk dX9_surely_7 rfl 0 rfl rfl ?_
    refine r_iconst 9 hk dX9_surely_8 rfl ci_1 ?_
    obtain ⟨r8, w9, ew9, h⟩ := ob_e h
    refine r_cVi 12 (As := [.int 1]) (rest := []) hk (kX9_refuse hN ew9) cf_RX9_86 mi_X9_refuse ⟨TX9, 16, rfl⟩ dX9_surely_9 rfl (Nat.le_of_ble_eq_true rfl) (Nat.le_of_ble_eq_true rfl) (mk_9_0 (nx_9 hN (j := 0) (by decide))) rfl rfl (Nat.le_of_ble_eq_true rfl) ?_
    exact r_iret hk hR dX9_surely_12 h
def fX9_ask (w : Wd) : Option (Int32 × Wd) :=
  ob (fX9_hasDisk w ) fun r1 w2 =>
  if (r1 : Int32) = 0 then
    ob (fX9_refuse w2 (1)) fun r9 w10 =>
    some (r9, w10)
  else
    ckp ((w2 9 0).2.2.1 2) 2 fun q4 =>
    ob (fX1_bestToTell w2 (((w2 3 (4 * q4 + 2)).1 2))) fun r5 w6 =>
    ob (fX9_accept w6 (r5)) fun r7 w8 =>
    some (r7, w8)
set_option maxRecDepth 100000 in
set_option maxHeartbeats 4000000 in
theorem kX9_ask {l : Launch} {G : Gx} {al : Al} {w : Wd} {r : Int32} {wz : Wd} (hN : NX G) (h : fX9_ask w = some (r, wz)) : MC l G yX9_ask cX9_ask 1 (some (.int)) 3 69 al w [.ref (al 9 0 0)] (some (.int r)) wz := by
  refine mc_of [(0, .ref (al 9 0 0))] (by decide) (Nat.le_of_ble_eq_true rfl) rfl ?_
  intro K hk hR hn hl hG
  subst hl; subst hG
  have hk : VH K RX9 cX9_ask 3 69 := hk
  rw [fX9_ask.eq_1] at h
  refine r_aload_n 1 hk dX9_ask_0 rfl 0 rfl rfl ?_
  obtain ⟨r1, w2, ew2, h⟩ := ob_e h
  refine r_cVi 4 (As := []) (rest := []) hk (kX9_hasDisk hN ew2) cf_RX9_199 mi_X9_hasDisk ⟨TX9, 16, rfl⟩ dX9_ask_1 rfl (Nat.le_of_ble_eq_true rfl) (Nat.le_of_ble_eq_true rfl) (mk_9_0 (nx_9 hN (j := 0) (by decide))) rfl rfl (Nat.le_of_ble_eq_true rfl) ?_
  refine r_if_ne 13 7 hk dX9_ask_4 rfl rfl (fun c3 => ?_) (fun c3 => ?_)
  · have h := if_f c3 h
    refine r_aload_n 14 hk dX9_ask_13 rfl 0 rfl rfl ?_
    refine r_aload_n 15 hk dX9_ask_14 rfl 0 rfl rfl ?_
    refine r_get 18 hk dX9_ask_15 rfl ff_RX9_35 (mk_9_0 (nx_9 hN (j := 0) (by decide))) (gv_9_5 _ _ _) ?_
    refine r_aload_n 19 hk dX9_ask_18 rfl 0 rfl rfl ?_
    refine r_get 22 hk dX9_ask_19 rfl ff_RX9_16 (mk_9_0 (nx_9 hN (j := 0) (by decide))) (gv_9_2 _ _ _) ?_
    obtain ⟨q4, eq4, lq4, h⟩ := ckp_e h
    refine r_pv1 eq4 ?_
    refine r_get 25 hk dX9_ask_22 rfl ff_RX9_135 (mk_8_0 (nx_8 hN lq4)) (gv_8_3 _ _ _) ?_
    refine r_get 28 hk dX9_ask_25 rfl ff_RX9_138 (mk_3_0 (nx_pr2 hN (nx_8 hN lq4))) (gv_3_2 _ _ _) ?_
    obtain ⟨r5, w6, ew6, h⟩ := ob_e h
    refine r_cVi 31 (As := [.int (((w2 3 (4 * q4 + 2)).1 2))]) (rest := [.ref (al 9 0 0)]) hk (kX1_bestToTell hN ew6) cf_RX9_308 mi_X1_bestToTell ⟨TX1, 2, rfl⟩ dX9_ask_28 rfl (Nat.le_of_ble_eq_true rfl) (Nat.le_of_ble_eq_true rfl) (mk_1_0 (nx_1 hN (j := 0) (by decide))) rfl rfl (Nat.le_of_ble_eq_true rfl) ?_
    obtain ⟨r7, w8, ew8, h⟩ := ob_e h
    refine r_cVi 34 (As := [.int r5]) (rest := []) hk (kX9_accept hN ew8) cf_RX9_115 mi_X9_accept ⟨TX9, 16, rfl⟩ dX9_ask_31 rfl (Nat.le_of_ble_eq_true rfl) (Nat.le_of_ble_eq_true rfl) (mk_9_0 (nx_9 hN (j := 0) (by decide))) rfl rfl (Nat.le_of_ble_eq_true rfl) ?_
    exact r_iret hk hR dX9_ask_34 h
  · have h := if_t c3 h
    refine r_aload_n 8 hk dX9_ask_7 rfl 0 rfl rfl ?_
    refine r_iconst 9 hk dX9_ask_8 rfl ci_1 ?_
    obtain ⟨r9, w10, ew10, h⟩ := ob_e h
    refine r_cVi 12 (As := [.int 1]) (rest := []) hk (kX9_refuse hN ew10) cf_RX9_86 mi_X9_refuse ⟨TX9, 16, rfl⟩ dX9_ask_9 rfl (Nat.le_of_ble_eq_true rfl) (Nat.le_of_ble_eq_true rfl) (mk_9_0 (nx_9 hN (j := 0) (by decide))) rfl rfl (Nat.le_of_ble_eq_true rfl) ?_
    exact r_iret hk hR dX9_ask_12 h
def fX9_askLeaves (w : Wd) : Option (Int32 × Wd) :=
  ob (fX9_hasDisk w ) fun r1 w2 =>
  if (r1 : Int32) = 0 then
    ob (fX9_refuse w2 (1)) fun r14 w15 =>
    some (r14, w15)
  else
    ckp ((w2 9 0).2.2.1 2) 2 fun q4 =>
    ob (fX1_bestToTell w2 (((w2 3 (4 * q4 + 2)).1 2))) fun r5 w6 =>
    if (r5 : Int32) = (-2) then
      ob (fX9_accept w6 ((-2))) fun r12 w13 =>
      some (r12, w13)
    else
      ob (fX1_leftAtMost w6 (r5)) fun r8 w9 =>
      ob (fX9_accept w9 (r8)) fun r10 w11 =>
      some (r10, w11)
set_option maxRecDepth 100000 in
set_option maxHeartbeats 4000000 in
theorem kX9_askLeaves {l : Launch} {G : Gx} {al : Al} {w : Wd} {r : Int32} {wz : Wd} (hN : NX G) (h : fX9_askLeaves w = some (r, wz)) : MC l G yX9_askLeaves cX9_askLeaves 2 (some (.int)) 3 69 al w [.ref (al 9 0 0)] (some (.int r)) wz := by
  refine mc_of [(0, .ref (al 9 0 0))] (by decide) (Nat.le_of_ble_eq_true rfl) rfl ?_
  intro K hk hR hn hl hG
  subst hl; subst hG
  have hk : VH K RX9 cX9_askLeaves 3 69 := hk
  rw [fX9_askLeaves.eq_1] at h
  refine r_aload_n 1 hk dX9_askLeaves_0 rfl 0 rfl rfl ?_
  obtain ⟨r1, w2, ew2, h⟩ := ob_e h
  refine r_cVi 4 (As := []) (rest := []) hk (kX9_hasDisk hN ew2) cf_RX9_199 mi_X9_hasDisk ⟨TX9, 16, rfl⟩ dX9_askLeaves_1 rfl (Nat.le_of_ble_eq_true rfl) (Nat.le_of_ble_eq_true rfl) (mk_9_0 (nx_9 hN (j := 0) (by decide))) rfl rfl (Nat.le_of_ble_eq_true rfl) ?_
  refine r_if_ne 13 7 hk dX9_askLeaves_4 rfl rfl (fun c3 => ?_) (fun c3 => ?_)
  · have h := if_f c3 h
    refine r_aload_n 14 hk dX9_askLeaves_13 rfl 0 rfl rfl ?_
    refine r_get 17 hk dX9_askLeaves_14 rfl ff_RX9_35 (mk_9_0 (nx_9 hN (j := 0) (by decide))) (gv_9_5 _ _ _) ?_
    refine r_aload_n 18 hk dX9_askLeaves_17 rfl 0 rfl rfl ?_
    refine r_get 21 hk dX9_askLeaves_18 rfl ff_RX9_16 (mk_9_0 (nx_9 hN (j := 0) (by decide))) (gv_9_2 _ _ _) ?_
    obtain ⟨q4, eq4, lq4, h⟩ := ckp_e h
    refine r_pv1 eq4 ?_
    refine r_get 24 hk dX9_askLeaves_21 rfl ff_RX9_135 (mk_8_0 (nx_8 hN lq4)) (gv_8_3 _ _ _) ?_
    refine r_get 27 hk dX9_askLeaves_24 rfl ff_RX9_138 (mk_3_0 (nx_pr2 hN (nx_8 hN lq4))) (gv_3_2 _ _ _) ?_
    obtain ⟨r5, w6, ew6, h⟩ := ob_e h
    refine r_cVi 30 (As := [.int (((w2 3 (4 * q4 + 2)).1 2))]) (rest := []) hk (kX1_bestToTell hN ew6) cf_RX9_308 mi_X1_bestToTell ⟨TX1, 2, rfl⟩ dX9_askLeaves_27 rfl (Nat.le_of_ble_eq_true rfl) (Nat.le_of_ble_eq_true rfl) (mk_1_0 (nx_1 hN (j := 0) (by decide))) rfl rfl (Nat.le_of_ble_eq_true rfl) ?_
    refine r_istore_n 31 [(1, .int r5), (0, .ref (al 9 0 0))] hk dX9_askLeaves_30 rfl rfl hn (by decide) rfl rfl ?_
    refine r_aload_n 32 hk dX9_askLeaves_31 rfl 1 rfl rfl ?_
    refine r_iload_n 33 hk dX9_askLeaves_32 rfl 0 rfl rfl ?_
    refine r_bipush 35 hk dX9_askLeaves_33 rfl cb_m2 ?_
    refine r_icmp_ne 43 38 hk dX9_askLeaves_35 rfl rfl (fun c7 => ?_) (fun c7 => ?_)
    · have h := if_f c7 h
      refine r_aload_n 44 hk dX9_askLeaves_43 rfl 1 rfl rfl ?_
      refine r_get 47 hk dX9_askLeaves_44 rfl ff_RX9_35 (mk_9_0 (nx_9 hN (j := 0) (by decide))) (gv_9_5 _ _ _) ?_
      refine r_iload_n 48 hk dX9_askLeaves_47 rfl 0 rfl rfl ?_
      obtain ⟨r8, w9, ew9, h⟩ := ob_e h
      refine r_cVi 51 (As := [.int r5]) (rest := [.ref (al 9 0 0)]) hk (kX1_leftAtMost hN ew9) cf_RX9_311 mi_X1_leftAtMost ⟨TX1, 2, rfl⟩ dX9_askLeaves_48 rfl (Nat.le_of_ble_eq_true rfl) (Nat.le_of_ble_eq_true rfl) (mk_1_0 (nx_1 hN (j := 0) (by decide))) rfl rfl (Nat.le_of_ble_eq_true rfl) ?_
      obtain ⟨r10, w11, ew11, h⟩ := ob_e h
      refine r_cVi 54 (As := [.int r8]) (rest := []) hk (kX9_accept hN ew11) cf_RX9_115 mi_X9_accept ⟨TX9, 16, rfl⟩ dX9_askLeaves_51 rfl (Nat.le_of_ble_eq_true rfl) (Nat.le_of_ble_eq_true rfl) (mk_9_0 (nx_9 hN (j := 0) (by decide))) rfl rfl (Nat.le_of_ble_eq_true rfl) ?_
      exact r_iret hk hR dX9_askLeaves_54 h
    · have h := if_t c7 h
      refine r_bipush 40 hk dX9_askLeaves_38 rfl cb_m2 ?_
      refine r_goto 51 hk (x := 0) dX9_askLeaves_40 rfl ?_
      obtain ⟨r12, w13, ew13, h⟩ := ob_e h
      refine r_cVi 54 (As := [.int (-2)]) (rest := []) hk (kX9_accept hN ew13) cf_RX9_115 mi_X9_accept ⟨TX9, 16, rfl⟩ dX9_askLeaves_51 rfl (Nat.le_of_ble_eq_true rfl) (Nat.le_of_ble_eq_true rfl) (mk_9_0 (nx_9 hN (j := 0) (by decide))) rfl rfl (Nat.le_of_ble_eq_true rfl) ?_
      exact r_iret hk hR dX9_askLeaves_54 h
  · have h := if_t c3 h
    refine r_aload_n 8 hk dX9_askLeaves_7 rfl 0 rfl rfl ?_
    refine r_iconst 9 hk dX9_askLeaves_8 rfl ci_1 ?_
    obtain ⟨r14, w15, ew15, h⟩ := ob_e h
    refine r_cVi 12 (As := [.int 1]) (rest := []) hk (kX9_refuse hN ew15) cf_RX9_86 mi_X9_refuse ⟨TX9, 16, rfl⟩ dX9_askLeaves_9 rfl (Nat.le_of_ble_eq_true rfl) (Nat.le_of_ble_eq_true rfl) (mk_9_0 (nx_9 hN (j := 0) (by decide))) rfl rfl (Nat.le_of_ble_eq_true rfl) ?_
    exact r_iret hk hR dX9_askLeaves_12 h
def fX9_judge (w : Wd) : Option (Int32 × Wd) :=
  ob (fX9_hasDisk w ) fun r1 w2 =>
  if (r1 : Int32) = 0 then
    ob (fX9_refuse w2 (1)) fun r11 w12 =>
    some (r11, w12)
  else
    ckp ((w2 9 0).2.2.1 2) 2 fun q4 =>
    ob (fX9_runOn q4 w2 (0)) fun _ w6 =>
    ob (fX9_firstReadOtherwise w6 ) fun r7 w8 =>
    ob (fX9_accept w8 (r7)) fun r9 w10 =>
    some (r9, w10)
set_option maxRecDepth 100000 in
set_option maxHeartbeats 4000000 in
theorem kX9_judge {l : Launch} {G : Gx} {al : Al} {w : Wd} {r : Int32} {wz : Wd} (hN : NX G) (h : fX9_judge w = some (r, wz)) : MC l G yX9_judge cX9_judge 1 (some (.int)) 6 139 al w [.ref (al 9 0 0)] (some (.int r)) wz := by
  refine mc_of [(0, .ref (al 9 0 0))] (by decide) (Nat.le_of_ble_eq_true rfl) rfl ?_
  intro K hk hR hn hl hG
  subst hl; subst hG
  have hk : VH K RX9 cX9_judge 6 139 := hk
  rw [fX9_judge.eq_1] at h
  refine r_aload_n 1 hk dX9_judge_0 rfl 0 rfl rfl ?_
  obtain ⟨r1, w2, ew2, h⟩ := ob_e h
  refine r_cVi 4 (As := []) (rest := []) hk (kX9_hasDisk hN ew2) cf_RX9_199 mi_X9_hasDisk ⟨TX9, 16, rfl⟩ dX9_judge_1 rfl (Nat.le_of_ble_eq_true rfl) (Nat.le_of_ble_eq_true rfl) (mk_9_0 (nx_9 hN (j := 0) (by decide))) rfl rfl (Nat.le_of_ble_eq_true rfl) ?_
  refine r_if_ne 13 7 hk dX9_judge_4 rfl rfl (fun c3 => ?_) (fun c3 => ?_)
  · have h := if_f c3 h
    refine r_aload_n 14 hk dX9_judge_13 rfl 0 rfl rfl ?_
    refine r_aload_n 15 hk dX9_judge_14 rfl 0 rfl rfl ?_
    refine r_get 18 hk dX9_judge_15 rfl ff_RX9_16 (mk_9_0 (nx_9 hN (j := 0) (by decide))) (gv_9_2 _ _ _) ?_
    obtain ⟨q4, eq4, lq4, h⟩ := ckp_e h
    refine r_pv1 eq4 ?_
    refine r_get 21 hk dX9_judge_18 rfl ff_RX9_109 (mk_8_0 (nx_8 hN lq4)) (gv_8_0 _ _ _) ?_
    refine r_iconst 22 hk dX9_judge_21 rfl ci_0 ?_
    obtain ⟨r5, w6, ew6, h⟩ := ob_e h
    refine r_cVv 25 (As := [.ref (al 5 q4 0), .int 0]) (rest := []) hk (kX9_runOn hN (nx_sh hN (nx_8 hN lq4)) ew6) cf_RX9_141 mi_X9_runOn ⟨TX9, 16, rfl⟩ dX9_judge_22 rfl (Nat.le_of_ble_eq_true rfl) (Nat.le_of_ble_eq_true rfl) (mk_9_0 (nx_9 hN (j := 0) (by decide))) rfl rfl (Nat.le_of_ble_eq_true rfl) ?_
    refine r_aload_n 26 hk dX9_judge_25 rfl 0 rfl rfl ?_
    refine r_aload_n 27 hk dX9_judge_26 rfl 0 rfl rfl ?_
    obtain ⟨r7, w8, ew8, h⟩ := ob_e h
    refine r_cVi 30 (As := []) (rest := [.ref (al 9 0 0)]) hk (kX9_firstReadOtherwise hN ew8) cf_RX9_145 mi_X9_firstReadOtherwise ⟨TX9, 16, rfl⟩ dX9_judge_27 rfl (Nat.le_of_ble_eq_true rfl) (Nat.le_of_ble_eq_true rfl) (mk_9_0 (nx_9 hN (j := 0) (by decide))) rfl rfl (Nat.le_of_ble_eq_true rfl) ?_
    obtain ⟨r9, w10, ew10, h⟩ := ob_e h
    refine r_cVi 33 (As := [.int r7]) (rest := []) hk (kX9_accept hN ew10) cf_RX9_115 mi_X9_accept ⟨TX9, 16, rfl⟩ dX9_judge_30 rfl (Nat.le_of_ble_eq_true rfl) (Nat.le_of_ble_eq_true rfl) (mk_9_0 (nx_9 hN (j := 0) (by decide))) rfl rfl (Nat.le_of_ble_eq_true rfl) ?_
    exact r_iret hk hR dX9_judge_33 h
  · have h := if_t c3 h
    refine r_aload_n 8 hk dX9_judge_7 rfl 0 rfl rfl ?_
    refine r_iconst 9 hk dX9_judge_8 rfl ci_1 ?_
    obtain ⟨r11, w12, ew12, h⟩ := ob_e h
    refine r_cVi 12 (As := [.int 1]) (rest := []) hk (kX9_refuse hN ew12) cf_RX9_86 mi_X9_refuse ⟨TX9, 16, rfl⟩ dX9_judge_9 rfl (Nat.le_of_ble_eq_true rfl) (Nat.le_of_ble_eq_true rfl) (mk_9_0 (nx_9 hN (j := 0) (by decide))) rfl rfl (Nat.le_of_ble_eq_true rfl) ?_
    exact r_iret hk hR dX9_judge_12 h
def fX9_canDraw (w : Wd) (x0 : Int32) (x1 : Int32) : Option (Int32 × Wd) :=
  if (x0 : Int32) < 0 then
    some (0, w)
  else
    if (65536 : Int32) < x0 then
      some (0, w)
    else
      if (x1 : Int32) < 0 then
        some (0, w)
      else
        if (100 : Int32) < x1 then
          some (0, w)
        else
          some (1, w)
set_option maxRecDepth 100000 in
set_option maxHeartbeats 4000000 in
theorem kX9_canDraw {l : Launch} {G : Gx} {al : Al} {w : Wd} {x0 : Int32} {x1 : Int32} {r : Int32} {wz : Wd} (hN : NX G) (h : fX9_canDraw w x0 x1 = some (r, wz)) : MC l G yX9_canDraw cX9_canDraw 2 (some (.boolean)) 0 0 al w [.int x0, .int x1] (some (.int r)) wz := by
  refine mc_of [(0, .int x0), (1, .int x1)] (by decide) (Nat.le_of_ble_eq_true rfl) rfl ?_
  intro K hk hR hn hl hG
  subst hl; subst hG
  have hk : VH K RX9 cX9_canDraw 0 0 := hk
  rw [fX9_canDraw.eq_1] at h
  refine r_iload_n 1 hk dX9_canDraw_0 rfl 0 rfl rfl ?_
  refine r_if_lt 25 4 hk dX9_canDraw_1 rfl rfl (fun c1 => ?_) (fun c1 => ?_)
  · have h := if_t c1 h
    refine r_iconst 26 hk dX9_canDraw_25 rfl ci_0 ?_
    exact r_zret hk hR dX9_canDraw_26 (by decide) h
  · have h := if_f c1 h
    refine r_iload_n 5 hk dX9_canDraw_4 rfl 0 rfl rfl ?_
    refine r_ldcw 8 hk dX9_canDraw_5 rfl kc_RX9_327 ?_
    refine r_icmp_gt 25 11 hk dX9_canDraw_8 rfl rfl (fun c2 => ?_) (fun c2 => ?_)
    · have h := if_t c2 h
      refine r_iconst 26 hk dX9_canDraw_25 rfl ci_0 ?_
      exact r_zret hk hR dX9_canDraw_26 (by decide) h
    · have h := if_f c2 h
      refine r_iload_n 12 hk dX9_canDraw_11 rfl 1 rfl rfl ?_
      refine r_if_lt 25 15 hk dX9_canDraw_12 rfl rfl (fun c3 => ?_) (fun c3 => ?_)
      · have h := if_t c3 h
        refine r_iconst 26 hk dX9_canDraw_25 rfl ci_0 ?_
        exact r_zret hk hR dX9_canDraw_26 (by decide) h
      · have h := if_f c3 h
        refine r_iload_n 16 hk dX9_canDraw_15 rfl 1 rfl rfl ?_
        refine r_bipush 18 hk dX9_canDraw_16 rfl cb_100 ?_
        refine r_icmp_gt 25 21 hk dX9_canDraw_18 rfl rfl (fun c4 => ?_) (fun c4 => ?_)
        · have h := if_t c4 h
          refine r_iconst 26 hk dX9_canDraw_25 rfl ci_0 ?_
          exact r_zret hk hR dX9_canDraw_26 (by decide) h
        · have h := if_f c4 h
          refine r_iconst 22 hk dX9_canDraw_21 rfl ci_1 ?_
          refine r_goto 26 hk (x := 0) dX9_canDraw_22 rfl ?_
          exact r_zret hk hR dX9_canDraw_26 (by decide) h
def fX9_tryDraws_46  : Nat → Wd → Int32 → Int32 → Option (Unit × Wd)
  | 0, _, _, _ => none
  | n + 1, w, x2, x3 =>
    if (x2 : Int32) ≤ x3 then
      some ((), w)
    else
      ckp ((w 9 0).2.2.1 2) 2 fun q10 =>
      ob (fX0_takeTurn q10 1 w ) fun _ w12 =>
      lw (x3 + 1) fun x3_13 =>
      fX9_tryDraws_46  n w12 (x2) (x3_13)
def fX9_tryDraws (w : Wd) (x1 : Int32) (x2 : Int32) : Option (Unit × Wd) :=
  ob (fX7_copyFrom 1 0 w ) fun _ w2 =>
  if (((w2 7 1).1 8) : Int32) = 0 then
    lw (sI w2 0 0 0 (x1)) fun w4 =>
    fX9_tryDraws_46  fuel0 w4 (x2) (0)
  else
    ckp ((w2 9 0).2.2.1 2) 2 fun q5 =>
    ob (fX7_comeBack 1 q5 w2 ) fun r6 w7 =>
    lw (sI w7 0 0 0 (x1)) fun w8 =>
    fX9_tryDraws_46  fuel0 w8 (x2) (0)
set_option maxRecDepth 100000 in
set_option maxHeartbeats 4000000 in
theorem sX9_tryDraws_46 {K : VC} {al : Al} {r : Unit} {wz : Wd}  (hk : VH K RX9 cX9_tryDraws 6 140) (hR : VR K al none none wz) (hn : kn K = 4) (hN : NX (kG K)) : ∀ (n : Nat) (w : Wd) (x2 : Int32) (x3 : Int32), fX9_tryDraws_46  n w x2 x3 = some (r, wz) → V K al w 46 [(0, .ref (al 9 0 0)), (2, .int x2), (3, .int x3)] [] := by
  intro n
  induction n with
  | zero => intro w x2 x3 h; cases h
  | succ n ih =>
    intro w x2 x3 h
    rw [fX9_tryDraws_46.eq_2] at h
    refine r_iload_n 47 hk dX9_tryDraws_46 rfl 2 rfl rfl ?_
    refine r_iload_n 48 hk dX9_tryDraws_47 rfl 1 rfl rfl ?_
    refine r_icmp_ge 75 51 hk dX9_tryDraws_48 rfl rfl (fun c9 => ?_) (fun c9 => ?_)
    · have h := if_t c9 h
      exact r_vret hk hR dX9_tryDraws_75 h
    · have h := if_f c9 h
      refine r_aload_n 52 hk dX9_tryDraws_51 rfl 0 rfl rfl ?_
      refine r_get 55 hk dX9_tryDraws_52 rfl ff_RX9_59 (mk_9_0 (nx_9 hN (j := 0) (by decide))) (gv_9_9 _ _ _) ?_
      refine r_aload_n 56 hk dX9_tryDraws_55 rfl 0 rfl rfl ?_
      refine r_get 59 hk dX9_tryDraws_56 rfl ff_RX9_16 (mk_9_0 (nx_9 hN (j := 0) (by decide))) (gv_9_2 _ _ _) ?_
      obtain ⟨q10, eq10, lq10, h⟩ := ckp_e h
      refine r_pv1 eq10 ?_
      refine r_get 62 hk dX9_tryDraws_59 rfl ff_RX9_109 (mk_8_0 (nx_8 hN lq10)) (gv_8_0 _ _ _) ?_
      refine r_aload_n 63 hk dX9_tryDraws_62 rfl 0 rfl rfl ?_
      refine r_get 66 hk dX9_tryDraws_63 rfl ff_RX9_46 (mk_9_0 (nx_9 hN (j := 0) (by decide))) (gv_9_7 _ _ _) ?_
      obtain ⟨r11, w12, ew12, h⟩ := ob_e h
      refine r_cVv 69 (As := [.ref (al 5 q10 0), .ref (al 7 1 0)]) (rest := []) hk (kX0_takeTurn hN (nx_sh hN (nx_8 hN lq10)) (nx_7 hN (j := 1) (by decide)) ew12) cf_RX9_331 mi_X0_takeTurn ⟨TX0, 1, rfl⟩ dX9_tryDraws_66 rfl (Nat.le_of_ble_eq_true rfl) (Nat.le_of_ble_eq_true rfl) (mk_0_0 (nx_0 hN (j := 0) (by decide))) rfl rfl (Nat.le_of_ble_eq_true rfl) ?_
      obtain ⟨x3_13, ex3_13, h⟩ := lw_e h
      refine r_iinc 72 [(3, .int x3_13), (0, .ref (al 9 0 0)), (2, .int x2)] hk (j := 2) dX9_tryDraws_69 rfl hn (by decide) rfl ex3_13 rfl ?_
      refine r_goto 46 hk (x := 0) dX9_tryDraws_72 rfl ?_
      refine r_sub [1, 2, 0] rfl ?_
      exact ih _ _ _ h
set_option maxRecDepth 100000 in
set_option maxHeartbeats 4000000 in
theorem kX9_tryDraws {l : Launch} {G : Gx} {al : Al} {w : Wd} {x1 : Int32} {x2 : Int32} {r : Unit} {wz : Wd} (hN : NX G) (h : fX9_tryDraws w x1 x2 = some (r, wz)) : MC l G yX9_tryDraws cX9_tryDraws 4 none 6 140 al w [.ref (al 9 0 0), .int x1, .int x2] none wz := by
  refine mc_of [(0, .ref (al 9 0 0)), (1, .int x1), (2, .int x2)] (by decide) (Nat.le_of_ble_eq_true rfl) rfl ?_
  intro K hk hR hn hl hG
  subst hl; subst hG
  have hk : VH K RX9 cX9_tryDraws 6 140 := hk
  rw [fX9_tryDraws.eq_1] at h
  refine r_aload_n 1 hk dX9_tryDraws_0 rfl 0 rfl rfl ?_
  refine r_get 4 hk dX9_tryDraws_1 rfl ff_RX9_46 (mk_9_0 (nx_9 hN (j := 0) (by decide))) (gv_9_7 _ _ _) ?_
  refine r_aload_n 5 hk dX9_tryDraws_4 rfl 0 rfl rfl ?_
  refine r_get 8 hk dX9_tryDraws_5 rfl ff_RX9_42 (mk_9_0 (nx_9 hN (j := 0) (by decide))) (gv_9_6 _ _ _) ?_
  obtain ⟨r1, w2, ew2, h⟩ := ob_e h
  refine r_cVv 11 (As := [.ref (al 7 0 0)]) (rest := []) hk (kX7_copyFrom hN (nx_7 hN (j := 1) (by decide)) (nx_7 hN (j := 0) (by decide)) ew2) cf_RX9_238 mi_X7_copyFrom ⟨TX7, 11, rfl⟩ dX9_tryDraws_8 rfl (Nat.le_of_ble_eq_true rfl) (Nat.le_of_ble_eq_true rfl) (mk_7_0 (nx_7 hN (j := 1) (by decide))) rfl rfl (Nat.le_of_ble_eq_true rfl) ?_
  refine r_aload_n 12 hk dX9_tryDraws_11 rfl 0 rfl rfl ?_
  refine r_get 15 hk dX9_tryDraws_12 rfl ff_RX9_46 (mk_9_0 (nx_9 hN (j := 0) (by decide))) (gv_9_7 _ _ _) ?_
  refine r_get 18 hk dX9_tryDraws_15 rfl ff_RX9_162 (mk_7_0 (nx_7 hN (j := 1) (by decide))) (gv_7_8 _ _ _) ?_
  refine r_if_eq 36 21 hk dX9_tryDraws_18 rfl rfl (fun c3 => ?_) (fun c3 => ?_)
  · have h := if_t c3 h
    refine r_aload_n 37 hk dX9_tryDraws_36 rfl 0 rfl rfl ?_
    refine r_get 40 hk dX9_tryDraws_37 rfl ff_RX9_59 (mk_9_0 (nx_9 hN (j := 0) (by decide))) (gv_9_9 _ _ _) ?_
    refine r_iload_n 41 hk dX9_tryDraws_40 rfl 1 rfl rfl ?_
    obtain ⟨w4, ew4, h⟩ := lw_e h
    refine r_putI 44 w4 hk dX9_tryDraws_41 rfl ff_RX9_328 fi_0_0 (mk_0_0 (nx_0 hN (j := 0) (by decide))) ew4 ?_
    refine r_iconst 45 hk dX9_tryDraws_44 rfl ci_0 ?_
    refine r_istore_n 46 [(3, .int 0), (0, .ref (al 9 0 0)), (1, .int x1), (2, .int x2)] hk dX9_tryDraws_45 rfl rfl hn (by decide) rfl rfl ?_
    refine r_sub [1, 3, 0] rfl ?_
    exact sX9_tryDraws_46 hk hR hn hN _ _ _ _ h
  · have h := if_f c3 h
    refine r_aload_n 22 hk dX9_tryDraws_21 rfl 0 rfl rfl ?_
    refine r_get 25 hk dX9_tryDraws_22 rfl ff_RX9_46 (mk_9_0 (nx_9 hN (j := 0) (by decide))) (gv_9_7 _ _ _) ?_
    refine r_aload_n 26 hk dX9_tryDraws_25 rfl 0 rfl rfl ?_
    refine r_get 29 hk dX9_tryDraws_26 rfl ff_RX9_16 (mk_9_0 (nx_9 hN (j := 0) (by decide))) (gv_9_2 _ _ _) ?_
    obtain ⟨q5, eq5, lq5, h⟩ := ckp_e h
    refine r_pv1 eq5 ?_
    refine r_get 32 hk dX9_tryDraws_29 rfl ff_RX9_109 (mk_8_0 (nx_8 hN lq5)) (gv_8_0 _ _ _) ?_
    obtain ⟨r6, w7, ew7, h⟩ := ob_e h
    refine r_cVi 35 (As := [.ref (al 5 q5 0)]) (rest := []) hk (kX7_comeBack hN (nx_7 hN (j := 1) (by decide)) (nx_sh hN (nx_8 hN lq5)) ew7) cf_RX9_261 mi_X7_comeBack ⟨TX7, 11, rfl⟩ dX9_tryDraws_32 rfl (Nat.le_of_ble_eq_true rfl) (Nat.le_of_ble_eq_true rfl) (mk_7_0 (nx_7 hN (j := 1) (by decide))) rfl rfl (Nat.le_of_ble_eq_true rfl) ?_
    refine r_pop 36 hk dX9_tryDraws_35 rfl rfl ?_
    refine r_aload_n 37 hk dX9_tryDraws_36 rfl 0 rfl rfl ?_
    refine r_get 40 hk dX9_tryDraws_37 rfl ff_RX9_59 (mk_9_0 (nx_9 hN (j := 0) (by decide))) (gv_9_9 _ _ _) ?_
    refine r_iload_n 41 hk dX9_tryDraws_40 rfl 1 rfl rfl ?_
    obtain ⟨w8, ew8, h⟩ := lw_e h
    refine r_putI 44 w8 hk dX9_tryDraws_41 rfl ff_RX9_328 fi_0_0 (mk_0_0 (nx_0 hN (j := 0) (by decide))) ew8 ?_
    refine r_iconst 45 hk dX9_tryDraws_44 rfl ci_0 ?_
    refine r_istore_n 46 [(3, .int 0), (0, .ref (al 9 0 0)), (1, .int x1), (2, .int x2)] hk dX9_tryDraws_45 rfl rfl hn (by decide) rfl rfl ?_
    refine r_sub [1, 3, 0] rfl ?_
    exact sX9_tryDraws_46 hk hR hn hN _ _ _ _ h
def fX9_drawnRead (w : Wd) (x1 : Int32) (x2 : Int32) (x3 : Int32) : Option (Int32 × Wd) :=
  ob (fX9_hasTrack w (x1)) fun r1 w2 =>
  if (r1 : Int32) = 0 then
    ob (fX9_refuse w2 (1)) fun r15 w16 =>
    some (r15, w16)
  else
    ob (fX9_canDraw w2 (x2) (x3)) fun r4 w5 =>
    if (r4 : Int32) = 0 then
      ob (fX9_refuse w5 (2)) fun r13 w14 =>
      some (r13, w14)
    else
      ob (fX9_tryDraws w5 (x2) (x3)) fun _ w8 =>
      ob (fX7_valueOf 1 w8 (x1)) fun r9 w10 =>
      ob (fX9_accept w10 (r9)) fun r11 w12 =>
      some (r11, w12)
set_option maxRecDepth 100000 in
set_option maxHeartbeats 4000000 in
theorem kX9_drawnRead {l : Launch} {G : Gx} {al : Al} {w : Wd} {x1 : Int32} {x2 : Int32} {x3 : Int32} {r : Int32} {wz : Wd} (hN : NX G) (h : fX9_drawnRead w x1 x2 x3 = some (r, wz)) : MC l G yX9_drawnRead cX9_drawnRead 4 (some (.int)) 7 163 al w [.ref (al 9 0 0), .int x1, .int x2, .int x3] (some (.int r)) wz := by
  refine mc_of [(0, .ref (al 9 0 0)), (1, .int x1), (2, .int x2), (3, .int x3)] (by decide) (Nat.le_of_ble_eq_true rfl) rfl ?_
  intro K hk hR hn hl hG
  subst hl; subst hG
  have hk : VH K RX9 cX9_drawnRead 7 163 := hk
  rw [fX9_drawnRead.eq_1] at h
  refine r_aload_n 1 hk dX9_drawnRead_0 rfl 0 rfl rfl ?_
  refine r_iload_n 2 hk dX9_drawnRead_1 rfl 1 rfl rfl ?_
  obtain ⟨r1, w2, ew2, h⟩ := ob_e h
  refine r_cVi 5 (As := [.int x1]) (rest := []) hk (kX9_hasTrack hN ew2) cf_RX9_158 mi_X9_hasTrack ⟨TX9, 16, rfl⟩ dX9_drawnRead_2 rfl (Nat.le_of_ble_eq_true rfl) (Nat.le_of_ble_eq_true rfl) (mk_9_0 (nx_9 hN (j := 0) (by decide))) rfl rfl (Nat.le_of_ble_eq_true rfl) ?_
  refine r_if_ne 14 8 hk dX9_drawnRead_5 rfl rfl (fun c3 => ?_) (fun c3 => ?_)
  · have h := if_f c3 h
    refine r_iload_n 15 hk dX9_drawnRead_14 rfl 2 rfl rfl ?_
    refine r_iload_n 16 hk dX9_drawnRead_15 rfl 3 rfl rfl ?_
    obtain ⟨r4, w5, ew5, h⟩ := ob_e h
    refine r_cSi 19 (As := [.int x2, .int x3]) (rest := []) hk (kX9_canDraw hN ew5) cf_RX9_320 ms_X9_canDraw dX9_drawnRead_16 rfl (Nat.le_of_ble_eq_true rfl) (Nat.le_of_ble_eq_true rfl) rfl rfl (Nat.le_of_ble_eq_true rfl) ?_
    refine r_if_ne 28 22 hk dX9_drawnRead_19 rfl rfl (fun c6 => ?_) (fun c6 => ?_)
    · have h := if_f c6 h
      refine r_aload_n 29 hk dX9_drawnRead_28 rfl 0 rfl rfl ?_
      refine r_iload_n 30 hk dX9_drawnRead_29 rfl 2 rfl rfl ?_
      refine r_iload_n 31 hk dX9_drawnRead_30 rfl 3 rfl rfl ?_
      obtain ⟨r7, w8, ew8, h⟩ := ob_e h
      refine r_cVv 34 (As := [.int x2, .int x3]) (rest := []) hk (kX9_tryDraws hN ew8) cf_RX9_324 mi_X9_tryDraws ⟨TX9, 16, rfl⟩ dX9_drawnRead_31 rfl (Nat.le_of_ble_eq_true rfl) (Nat.le_of_ble_eq_true rfl) (mk_9_0 (nx_9 hN (j := 0) (by decide))) rfl rfl (Nat.le_of_ble_eq_true rfl) ?_
      refine r_aload_n 35 hk dX9_drawnRead_34 rfl 0 rfl rfl ?_
      refine r_aload_n 36 hk dX9_drawnRead_35 rfl 0 rfl rfl ?_
      refine r_get 39 hk dX9_drawnRead_36 rfl ff_RX9_46 (mk_9_0 (nx_9 hN (j := 0) (by decide))) (gv_9_7 _ _ _) ?_
      refine r_iload_n 40 hk dX9_drawnRead_39 rfl 1 rfl rfl ?_
      obtain ⟨r9, w10, ew10, h⟩ := ob_e h
      refine r_cVi 43 (As := [.int x1]) (rest := [.ref (al 9 0 0)]) hk (kX7_valueOf hN (nx_7 hN (j := 1) (by decide)) ew10) cf_RX9_166 mi_X7_valueOf ⟨TX7, 11, rfl⟩ dX9_drawnRead_40 rfl (Nat.le_of_ble_eq_true rfl) (Nat.le_of_ble_eq_true rfl) (mk_7_0 (nx_7 hN (j := 1) (by decide))) rfl rfl (Nat.le_of_ble_eq_true rfl) ?_
      obtain ⟨r11, w12, ew12, h⟩ := ob_e h
      refine r_cVi 46 (As := [.int r9]) (rest := []) hk (kX9_accept hN ew12) cf_RX9_115 mi_X9_accept ⟨TX9, 16, rfl⟩ dX9_drawnRead_43 rfl (Nat.le_of_ble_eq_true rfl) (Nat.le_of_ble_eq_true rfl) (mk_9_0 (nx_9 hN (j := 0) (by decide))) rfl rfl (Nat.le_of_ble_eq_true rfl) ?_
      exact r_iret hk hR dX9_drawnRead_46 h
    · have h := if_t c6 h
      refine r_aload_n 23 hk dX9_drawnRead_22 rfl 0 rfl rfl ?_
      refine r_iconst 24 hk dX9_drawnRead_23 rfl ci_2 ?_
      obtain ⟨r13, w14, ew14, h⟩ := ob_e h
      refine r_cVi 27 (As := [.int 2]) (rest := []) hk (kX9_refuse hN ew14) cf_RX9_86 mi_X9_refuse ⟨TX9, 16, rfl⟩ dX9_drawnRead_24 rfl (Nat.le_of_ble_eq_true rfl) (Nat.le_of_ble_eq_true rfl) (mk_9_0 (nx_9 hN (j := 0) (by decide))) rfl rfl (Nat.le_of_ble_eq_true rfl) ?_
      exact r_iret hk hR dX9_drawnRead_27 h
  · have h := if_t c3 h
    refine r_aload_n 9 hk dX9_drawnRead_8 rfl 0 rfl rfl ?_
    refine r_iconst 10 hk dX9_drawnRead_9 rfl ci_1 ?_
    obtain ⟨r15, w16, ew16, h⟩ := ob_e h
    refine r_cVi 13 (As := [.int 1]) (rest := []) hk (kX9_refuse hN ew16) cf_RX9_86 mi_X9_refuse ⟨TX9, 16, rfl⟩ dX9_drawnRead_10 rfl (Nat.le_of_ble_eq_true rfl) (Nat.le_of_ble_eq_true rfl) (mk_9_0 (nx_9 hN (j := 0) (by decide))) rfl rfl (Nat.le_of_ble_eq_true rfl) ?_
    exact r_iret hk hR dX9_drawnRead_13 h
def fX9_drawnWrites (w : Wd) (x1 : Int32) (x2 : Int32) : Option (Int32 × Wd) :=
  ob (fX9_hasDisk w ) fun r1 w2 =>
  if (r1 : Int32) = 0 then
    ob (fX9_refuse w2 (1)) fun r13 w14 =>
    some (r13, w14)
  else
    ob (fX9_canDraw w2 (x1) (x2)) fun r4 w5 =>
    if (r4 : Int32) = 0 then
      ob (fX9_refuse w5 (2)) fun r11 w12 =>
      some (r11, w12)
    else
      ob (fX9_tryDraws w5 (x1) (x2)) fun _ w8 =>
      ob (fX9_accept w8 ((((w8 7 1).1 9) - ((w8 7 0).1 9)))) fun r9 w10 =>
      some (r9, w10)
set_option maxRecDepth 100000 in
set_option maxHeartbeats 4000000 in
theorem kX9_drawnWrites {l : Launch} {G : Gx} {al : Al} {w : Wd} {x1 : Int32} {x2 : Int32} {r : Int32} {wz : Wd} (hN : NX G) (h : fX9_drawnWrites w x1 x2 = some (r, wz)) : MC l G yX9_drawnWrites cX9_drawnWrites 3 (some (.int)) 7 163 al w [.ref (al 9 0 0), .int x1, .int x2] (some (.int r)) wz := by
  refine mc_of [(0, .ref (al 9 0 0)), (1, .int x1), (2, .int x2)] (by decide) (Nat.le_of_ble_eq_true rfl) rfl ?_
  intro K hk hR hn hl hG
  subst hl; subst hG
  have hk : VH K RX9 cX9_drawnWrites 7 163 := hk
  rw [fX9_drawnWrites.eq_1] at h
  refine r_aload_n 1 hk dX9_drawnWrites_0 rfl 0 rfl rfl ?_
  obtain ⟨r1, w2, ew2, h⟩ := ob_e h
  refine r_cVi 4 (As := []) (rest := []) hk (kX9_hasDisk hN ew2) cf_RX9_199 mi_X9_hasDisk ⟨TX9, 16, rfl⟩ dX9_drawnWrites_1 rfl (Nat.le_of_ble_eq_true rfl) (Nat.le_of_ble_eq_true rfl) (mk_9_0 (nx_9 hN (j := 0) (by decide))) rfl rfl (Nat.le_of_ble_eq_true rfl) ?_
  refine r_if_ne 13 7 hk dX9_drawnWrites_4 rfl rfl (fun c3 => ?_) (fun c3 => ?_)
  · have h := if_f c3 h
    refine r_iload_n 14 hk dX9_drawnWrites_13 rfl 1 rfl rfl ?_
    refine r_iload_n 15 hk dX9_drawnWrites_14 rfl 2 rfl rfl ?_
    obtain ⟨r4, w5, ew5, h⟩ := ob_e h
    refine r_cSi 18 (As := [.int x1, .int x2]) (rest := []) hk (kX9_canDraw hN ew5) cf_RX9_320 ms_X9_canDraw dX9_drawnWrites_15 rfl (Nat.le_of_ble_eq_true rfl) (Nat.le_of_ble_eq_true rfl) rfl rfl (Nat.le_of_ble_eq_true rfl) ?_
    refine r_if_ne 27 21 hk dX9_drawnWrites_18 rfl rfl (fun c6 => ?_) (fun c6 => ?_)
    · have h := if_f c6 h
      refine r_aload_n 28 hk dX9_drawnWrites_27 rfl 0 rfl rfl ?_
      refine r_iload_n 29 hk dX9_drawnWrites_28 rfl 1 rfl rfl ?_
      refine r_iload_n 30 hk dX9_drawnWrites_29 rfl 2 rfl rfl ?_
      obtain ⟨r7, w8, ew8, h⟩ := ob_e h
      refine r_cVv 33 (As := [.int x1, .int x2]) (rest := []) hk (kX9_tryDraws hN ew8) cf_RX9_324 mi_X9_tryDraws ⟨TX9, 16, rfl⟩ dX9_drawnWrites_30 rfl (Nat.le_of_ble_eq_true rfl) (Nat.le_of_ble_eq_true rfl) (mk_9_0 (nx_9 hN (j := 0) (by decide))) rfl rfl (Nat.le_of_ble_eq_true rfl) ?_
      refine r_aload_n 34 hk dX9_drawnWrites_33 rfl 0 rfl rfl ?_
      refine r_aload_n 35 hk dX9_drawnWrites_34 rfl 0 rfl rfl ?_
      refine r_get 38 hk dX9_drawnWrites_35 rfl ff_RX9_46 (mk_9_0 (nx_9 hN (j := 0) (by decide))) (gv_9_7 _ _ _) ?_
      refine r_get 41 hk dX9_drawnWrites_38 rfl ff_RX9_264 (mk_7_0 (nx_7 hN (j := 1) (by decide))) (gv_7_9 _ _ _) ?_
      refine r_aload_n 42 hk dX9_drawnWrites_41 rfl 0 rfl rfl ?_
      refine r_get 45 hk dX9_drawnWrites_42 rfl ff_RX9_42 (mk_9_0 (nx_9 hN (j := 0) (by decide))) (gv_9_6 _ _ _) ?_
      refine r_get 48 hk dX9_drawnWrites_45 rfl ff_RX9_264 (mk_7_0 (nx_7 hN (j := 0) (by decide))) (gv_7_9 _ _ _) ?_
      refine r_isub 49 hk dX9_drawnWrites_48 rfl ?_
      obtain ⟨r9, w10, ew10, h⟩ := ob_e h
      refine r_cVi 52 (As := [.int ((((w8 7 1).1 9) - ((w8 7 0).1 9)))]) (rest := []) hk (kX9_accept hN ew10) cf_RX9_115 mi_X9_accept ⟨TX9, 16, rfl⟩ dX9_drawnWrites_49 rfl (Nat.le_of_ble_eq_true rfl) (Nat.le_of_ble_eq_true rfl) (mk_9_0 (nx_9 hN (j := 0) (by decide))) rfl rfl (Nat.le_of_ble_eq_true rfl) ?_
      exact r_iret hk hR dX9_drawnWrites_52 h
    · have h := if_t c6 h
      refine r_aload_n 22 hk dX9_drawnWrites_21 rfl 0 rfl rfl ?_
      refine r_iconst 23 hk dX9_drawnWrites_22 rfl ci_2 ?_
      obtain ⟨r11, w12, ew12, h⟩ := ob_e h
      refine r_cVi 26 (As := [.int 2]) (rest := []) hk (kX9_refuse hN ew12) cf_RX9_86 mi_X9_refuse ⟨TX9, 16, rfl⟩ dX9_drawnWrites_23 rfl (Nat.le_of_ble_eq_true rfl) (Nat.le_of_ble_eq_true rfl) (mk_9_0 (nx_9 hN (j := 0) (by decide))) rfl rfl (Nat.le_of_ble_eq_true rfl) ?_
      exact r_iret hk hR dX9_drawnWrites_26 h
  · have h := if_t c3 h
    refine r_aload_n 8 hk dX9_drawnWrites_7 rfl 0 rfl rfl ?_
    refine r_iconst 9 hk dX9_drawnWrites_8 rfl ci_1 ?_
    obtain ⟨r13, w14, ew14, h⟩ := ob_e h
    refine r_cVi 12 (As := [.int 1]) (rest := []) hk (kX9_refuse hN ew14) cf_RX9_86 mi_X9_refuse ⟨TX9, 16, rfl⟩ dX9_drawnWrites_9 rfl (Nat.le_of_ble_eq_true rfl) (Nat.le_of_ble_eq_true rfl) (mk_9_0 (nx_9 hN (j := 0) (by decide))) rfl rfl (Nat.le_of_ble_eq_true rfl) ?_
    exact r_iret hk hR dX9_drawnWrites_12 h
def fX9_write (w : Wd) (x1 : Int32) (x2 : Int32) : Option (Int32 × Wd) :=
  ob (fX9_hasTrack w (x1)) fun r1 w2 =>
  if (r1 : Int32) = 0 then
    ob (fX9_refuse w2 (1)) fun r20 w21 =>
    some (r20, w21)
  else
    if (x2 : Int32) < 0 then
      ob (fX9_refuse w2 (2)) fun r5 w6 =>
      some (r5, w6)
    else
      if (x2 : Int32) ≤ 9999 then
        if (((w2 7 0).1 8) : Int32) = 0 then
          ob (fX2_keep 0 w2 ) fun _ w10 =>
          ckp ((w10 9 0).2.2.1 2) 2 fun q11 =>
          ob (fX7_addEntry 0 q11 w10 (x1) (x2)) fun _ w13 =>
          ob (fX9_accept w13 ((((w13 7 0).1 4) - 1))) fun r14 w15 =>
          some (r14, w15)
        else
          ob (fX9_refuse w2 (5)) fun r16 w17 =>
          some (r16, w17)
      else
        ob (fX9_refuse w2 (2)) fun r18 w19 =>
        some (r18, w19)
set_option maxRecDepth 100000 in
set_option maxHeartbeats 4000000 in
theorem kX9_write {l : Launch} {G : Gx} {al : Al} {w : Wd} {x1 : Int32} {x2 : Int32} {r : Int32} {wz : Wd} (hN : NX G) (h : fX9_write w x1 x2 = some (r, wz)) : MC l G yX9_write cX9_write 3 (some (.int)) 5 116 al w [.ref (al 9 0 0), .int x1, .int x2] (some (.int r)) wz := by
  refine mc_of [(0, .ref (al 9 0 0)), (1, .int x1), (2, .int x2)] (by decide) (Nat.le_of_ble_eq_true rfl) rfl ?_
  intro K hk hR hn hl hG
  subst hl; subst hG
  have hk : VH K RX9 cX9_write 5 116 := hk
  rw [fX9_write.eq_1] at h
  refine r_aload_n 1 hk dX9_write_0 rfl 0 rfl rfl ?_
  refine r_iload_n 2 hk dX9_write_1 rfl 1 rfl rfl ?_
  obtain ⟨r1, w2, ew2, h⟩ := ob_e h
  refine r_cVi 5 (As := [.int x1]) (rest := []) hk (kX9_hasTrack hN ew2) cf_RX9_158 mi_X9_hasTrack ⟨TX9, 16, rfl⟩ dX9_write_2 rfl (Nat.le_of_ble_eq_true rfl) (Nat.le_of_ble_eq_true rfl) (mk_9_0 (nx_9 hN (j := 0) (by decide))) rfl rfl (Nat.le_of_ble_eq_true rfl) ?_
  refine r_if_ne 14 8 hk dX9_write_5 rfl rfl (fun c3 => ?_) (fun c3 => ?_)
  · have h := if_f c3 h
    refine r_iload_n 15 hk dX9_write_14 rfl 2 rfl rfl ?_
    refine r_if_lt 25 18 hk dX9_write_15 rfl rfl (fun c4 => ?_) (fun c4 => ?_)
    · have h := if_t c4 h
      refine r_aload_n 26 hk dX9_write_25 rfl 0 rfl rfl ?_
      refine r_iconst 27 hk dX9_write_26 rfl ci_2 ?_
      obtain ⟨r5, w6, ew6, h⟩ := ob_e h
      refine r_cVi 30 (As := [.int 2]) (rest := []) hk (kX9_refuse hN ew6) cf_RX9_86 mi_X9_refuse ⟨TX9, 16, rfl⟩ dX9_write_27 rfl (Nat.le_of_ble_eq_true rfl) (Nat.le_of_ble_eq_true rfl) (mk_9_0 (nx_9 hN (j := 0) (by decide))) rfl rfl (Nat.le_of_ble_eq_true rfl) ?_
      exact r_iret hk hR dX9_write_30 h
    · have h := if_f c4 h
      refine r_iload_n 19 hk dX9_write_18 rfl 2 rfl rfl ?_
      refine r_sipush 22 hk dX9_write_19 rfl cs_9999 ?_
      refine r_icmp_le 31 25 hk dX9_write_22 rfl rfl (fun c7 => ?_) (fun c7 => ?_)
      · have h := if_t c7 h
        refine r_aload_n 32 hk dX9_write_31 rfl 0 rfl rfl ?_
        refine r_get 35 hk dX9_write_32 rfl ff_RX9_42 (mk_9_0 (nx_9 hN (j := 0) (by decide))) (gv_9_6 _ _ _) ?_
        refine r_get 38 hk dX9_write_35 rfl ff_RX9_162 (mk_7_0 (nx_7 hN (j := 0) (by decide))) (gv_7_8 _ _ _) ?_
        refine r_if_eq 47 41 hk dX9_write_38 rfl rfl (fun c8 => ?_) (fun c8 => ?_)
        · have h := if_t c8 h
          refine r_aload_n 48 hk dX9_write_47 rfl 0 rfl rfl ?_
          refine r_get 51 hk dX9_write_48 rfl ff_RX9_66 (mk_9_0 (nx_9 hN (j := 0) (by decide))) (gv_9_10 _ _ _) ?_
          refine r_aload_n 52 hk dX9_write_51 rfl 0 rfl rfl ?_
          refine r_get 55 hk dX9_write_52 rfl ff_RX9_42 (mk_9_0 (nx_9 hN (j := 0) (by decide))) (gv_9_6 _ _ _) ?_
          obtain ⟨r9, w10, ew10, h⟩ := ob_e h
          refine r_cVv 58 (As := [.ref (al 7 0 0)]) (rest := []) hk (kX2_keep hN (nx_7 hN (j := 0) (by decide)) ew10) cf_RX9_335 mi_X2_keep ⟨TX2, 3, rfl⟩ dX9_write_55 rfl (Nat.le_of_ble_eq_true rfl) (Nat.le_of_ble_eq_true rfl) (mk_2_0 (nx_2 hN (j := 0) (by decide))) rfl rfl (Nat.le_of_ble_eq_true rfl) ?_
          refine r_aload_n 59 hk dX9_write_58 rfl 0 rfl rfl ?_
          refine r_get 62 hk dX9_write_59 rfl ff_RX9_42 (mk_9_0 (nx_9 hN (j := 0) (by decide))) (gv_9_6 _ _ _) ?_
          refine r_aload_n 63 hk dX9_write_62 rfl 0 rfl rfl ?_
          refine r_get 66 hk dX9_write_63 rfl ff_RX9_16 (mk_9_0 (nx_9 hN (j := 0) (by decide))) (gv_9_2 _ _ _) ?_
          obtain ⟨q11, eq11, lq11, h⟩ := ckp_e h
          refine r_pv1 eq11 ?_
          refine r_get 69 hk dX9_write_66 rfl ff_RX9_109 (mk_8_0 (nx_8 hN lq11)) (gv_8_0 _ _ _) ?_
          refine r_iload_n 70 hk dX9_write_69 rfl 1 rfl rfl ?_
          refine r_iload_n 71 hk dX9_write_70 rfl 2 rfl rfl ?_
          obtain ⟨r12, w13, ew13, h⟩ := ob_e h
          refine r_cVv 74 (As := [.ref (al 5 q11 0), .int x1, .int x2]) (rest := []) hk (kX7_addEntry hN (nx_7 hN (j := 0) (by decide)) (nx_sh hN (nx_8 hN lq11)) ew13) cf_RX9_296 mi_X7_addEntry ⟨TX7, 11, rfl⟩ dX9_write_71 rfl (Nat.le_of_ble_eq_true rfl) (Nat.le_of_ble_eq_true rfl) (mk_7_0 (nx_7 hN (j := 0) (by decide))) rfl rfl (Nat.le_of_ble_eq_true rfl) ?_
          refine r_aload_n 75 hk dX9_write_74 rfl 0 rfl rfl ?_
          refine r_aload_n 76 hk dX9_write_75 rfl 0 rfl rfl ?_
          refine r_get 79 hk dX9_write_76 rfl ff_RX9_42 (mk_9_0 (nx_9 hN (j := 0) (by decide))) (gv_9_6 _ _ _) ?_
          refine r_get 82 hk dX9_write_79 rfl ff_RX9_209 (mk_7_0 (nx_7 hN (j := 0) (by decide))) (gv_7_4 _ _ _) ?_
          refine r_iconst 83 hk dX9_write_82 rfl ci_1 ?_
          refine r_isub 84 hk dX9_write_83 rfl ?_
          obtain ⟨r14, w15, ew15, h⟩ := ob_e h
          refine r_cVi 87 (As := [.int ((((w13 7 0).1 4) - 1))]) (rest := []) hk (kX9_accept hN ew15) cf_RX9_115 mi_X9_accept ⟨TX9, 16, rfl⟩ dX9_write_84 rfl (Nat.le_of_ble_eq_true rfl) (Nat.le_of_ble_eq_true rfl) (mk_9_0 (nx_9 hN (j := 0) (by decide))) rfl rfl (Nat.le_of_ble_eq_true rfl) ?_
          exact r_iret hk hR dX9_write_87 h
        · have h := if_f c8 h
          refine r_aload_n 42 hk dX9_write_41 rfl 0 rfl rfl ?_
          refine r_iconst 43 hk dX9_write_42 rfl ci_5 ?_
          obtain ⟨r16, w17, ew17, h⟩ := ob_e h
          refine r_cVi 46 (As := [.int 5]) (rest := []) hk (kX9_refuse hN ew17) cf_RX9_86 mi_X9_refuse ⟨TX9, 16, rfl⟩ dX9_write_43 rfl (Nat.le_of_ble_eq_true rfl) (Nat.le_of_ble_eq_true rfl) (mk_9_0 (nx_9 hN (j := 0) (by decide))) rfl rfl (Nat.le_of_ble_eq_true rfl) ?_
          exact r_iret hk hR dX9_write_46 h
      · have h := if_f c7 h
        refine r_aload_n 26 hk dX9_write_25 rfl 0 rfl rfl ?_
        refine r_iconst 27 hk dX9_write_26 rfl ci_2 ?_
        obtain ⟨r18, w19, ew19, h⟩ := ob_e h
        refine r_cVi 30 (As := [.int 2]) (rest := []) hk (kX9_refuse hN ew19) cf_RX9_86 mi_X9_refuse ⟨TX9, 16, rfl⟩ dX9_write_27 rfl (Nat.le_of_ble_eq_true rfl) (Nat.le_of_ble_eq_true rfl) (mk_9_0 (nx_9 hN (j := 0) (by decide))) rfl rfl (Nat.le_of_ble_eq_true rfl) ?_
        exact r_iret hk hR dX9_write_30 h
  · have h := if_t c3 h
    refine r_aload_n 9 hk dX9_write_8 rfl 0 rfl rfl ?_
    refine r_iconst 10 hk dX9_write_9 rfl ci_1 ?_
    obtain ⟨r20, w21, ew21, h⟩ := ob_e h
    refine r_cVi 13 (As := [.int 1]) (rest := []) hk (kX9_refuse hN ew21) cf_RX9_86 mi_X9_refuse ⟨TX9, 16, rfl⟩ dX9_write_10 rfl (Nat.le_of_ble_eq_true rfl) (Nat.le_of_ble_eq_true rfl) (mk_9_0 (nx_9 hN (j := 0) (by decide))) rfl rfl (Nat.le_of_ble_eq_true rfl) ?_
    exact r_iret hk hR dX9_write_13 h
def fX9_clean (w : Wd) (x1 : Int32) : Option (Int32 × Wd) :=
  ob (fX9_hasBand w (x1)) fun r1 w2 =>
  if (r1 : Int32) = 0 then
    ob (fX9_refuse w2 (1)) fun r18 w19 =>
    some (r18, w19)
  else
    if (((w2 7 0).1 8) : Int32) = 0 then
      ob (fX2_keep 0 w2 ) fun _ w6 =>
      lw (((w6 7 0).1 4)) fun x2_7 =>
      ckp ((w6 9 0).2.2.1 2) 2 fun q8 =>
      ckp ((w6 9 0).2.2.1 2) 2 fun q9 =>
      ob (fX5_stepsOf q9 w6 (x1)) fun r10 w11 =>
      ob (fX7_doSteps 0 q8 w11 (x1) (r10)) fun _ w13 =>
      ob (fX9_accept w13 ((x2_7 - ((w13 7 0).1 4)))) fun r14 w15 =>
      some (r14, w15)
    else
      ob (fX9_refuse w2 (5)) fun r16 w17 =>
      some (r16, w17)
set_option maxRecDepth 100000 in
set_option maxHeartbeats 4000000 in
theorem kX9_clean {l : Launch} {G : Gx} {al : Al} {w : Wd} {x1 : Int32} {r : Int32} {wz : Wd} (hN : NX G) (h : fX9_clean w x1 = some (r, wz)) : MC l G yX9_clean cX9_clean 3 (some (.int)) 4 92 al w [.ref (al 9 0 0), .int x1] (some (.int r)) wz := by
  refine mc_of [(0, .ref (al 9 0 0)), (1, .int x1)] (by decide) (Nat.le_of_ble_eq_true rfl) rfl ?_
  intro K hk hR hn hl hG
  subst hl; subst hG
  have hk : VH K RX9 cX9_clean 4 92 := hk
  rw [fX9_clean.eq_1] at h
  refine r_aload_n 1 hk dX9_clean_0 rfl 0 rfl rfl ?_
  refine r_iload_n 2 hk dX9_clean_1 rfl 1 rfl rfl ?_
  obtain ⟨r1, w2, ew2, h⟩ := ob_e h
  refine r_cVi 5 (As := [.int x1]) (rest := []) hk (kX9_hasBand hN ew2) cf_RX9_180 mi_X9_hasBand ⟨TX9, 16, rfl⟩ dX9_clean_2 rfl (Nat.le_of_ble_eq_true rfl) (Nat.le_of_ble_eq_true rfl) (mk_9_0 (nx_9 hN (j := 0) (by decide))) rfl rfl (Nat.le_of_ble_eq_true rfl) ?_
  refine r_if_ne 14 8 hk dX9_clean_5 rfl rfl (fun c3 => ?_) (fun c3 => ?_)
  · have h := if_f c3 h
    refine r_aload_n 15 hk dX9_clean_14 rfl 0 rfl rfl ?_
    refine r_get 18 hk dX9_clean_15 rfl ff_RX9_42 (mk_9_0 (nx_9 hN (j := 0) (by decide))) (gv_9_6 _ _ _) ?_
    refine r_get 21 hk dX9_clean_18 rfl ff_RX9_162 (mk_7_0 (nx_7 hN (j := 0) (by decide))) (gv_7_8 _ _ _) ?_
    refine r_if_eq 30 24 hk dX9_clean_21 rfl rfl (fun c4 => ?_) (fun c4 => ?_)
    · have h := if_t c4 h
      refine r_aload_n 31 hk dX9_clean_30 rfl 0 rfl rfl ?_
      refine r_get 34 hk dX9_clean_31 rfl ff_RX9_66 (mk_9_0 (nx_9 hN (j := 0) (by decide))) (gv_9_10 _ _ _) ?_
      refine r_aload_n 35 hk dX9_clean_34 rfl 0 rfl rfl ?_
      refine r_get 38 hk dX9_clean_35 rfl ff_RX9_42 (mk_9_0 (nx_9 hN (j := 0) (by decide))) (gv_9_6 _ _ _) ?_
      obtain ⟨r5, w6, ew6, h⟩ := ob_e h
      refine r_cVv 41 (As := [.ref (al 7 0 0)]) (rest := []) hk (kX2_keep hN (nx_7 hN (j := 0) (by decide)) ew6) cf_RX9_335 mi_X2_keep ⟨TX2, 3, rfl⟩ dX9_clean_38 rfl (Nat.le_of_ble_eq_true rfl) (Nat.le_of_ble_eq_true rfl) (mk_2_0 (nx_2 hN (j := 0) (by decide))) rfl rfl (Nat.le_of_ble_eq_true rfl) ?_
      refine r_aload_n 42 hk dX9_clean_41 rfl 0 rfl rfl ?_
      refine r_get 45 hk dX9_clean_42 rfl ff_RX9_42 (mk_9_0 (nx_9 hN (j := 0) (by decide))) (gv_9_6 _ _ _) ?_
      refine r_get 48 hk dX9_clean_45 rfl ff_RX9_209 (mk_7_0 (nx_7 hN (j := 0) (by decide))) (gv_7_4 _ _ _) ?_
      obtain ⟨x2_7, ex2_7, h⟩ := lw_e h
      refine r_istore_n 49 [(2, .int x2_7), (0, .ref (al 9 0 0)), (1, .int x1)] hk dX9_clean_48 rfl rfl hn (by decide) ex2_7 rfl ?_
      refine r_aload_n 50 hk dX9_clean_49 rfl 1 rfl rfl ?_
      refine r_get 53 hk dX9_clean_50 rfl ff_RX9_42 (mk_9_0 (nx_9 hN (j := 0) (by decide))) (gv_9_6 _ _ _) ?_
      refine r_aload_n 54 hk dX9_clean_53 rfl 1 rfl rfl ?_
      refine r_get 57 hk dX9_clean_54 rfl ff_RX9_16 (mk_9_0 (nx_9 hN (j := 0) (by decide))) (gv_9_2 _ _ _) ?_
      obtain ⟨q8, eq8, lq8, h⟩ := ckp_e h
      refine r_pv1 eq8 ?_
      refine r_get 60 hk dX9_clean_57 rfl ff_RX9_109 (mk_8_0 (nx_8 hN lq8)) (gv_8_0 _ _ _) ?_
      refine r_iload_n 61 hk dX9_clean_60 rfl 2 rfl rfl ?_
      refine r_aload_n 62 hk dX9_clean_61 rfl 1 rfl rfl ?_
      refine r_get 65 hk dX9_clean_62 rfl ff_RX9_16 (mk_9_0 (nx_9 hN (j := 0) (by decide))) (gv_9_2 _ _ _) ?_
      obtain ⟨q9, eq9, lq9, h⟩ := ckp_e h
      refine r_pv1 eq9 ?_
      refine r_get 68 hk dX9_clean_65 rfl ff_RX9_109 (mk_8_0 (nx_8 hN lq9)) (gv_8_0 _ _ _) ?_
      refine r_iload_n 69 hk dX9_clean_68 rfl 2 rfl rfl ?_
      obtain ⟨r10, w11, ew11, h⟩ := ob_e h
      refine r_cVi 72 (As := [.int x1]) (rest := [.int x1, .ref (al 5 q8 0), .ref (al 7 0 0)]) hk (kX5_stepsOf hN (nx_sh hN (nx_8 hN lq9)) ew11) cf_RX9_245 mi_X5_stepsOf ⟨TX5, 8, rfl⟩ dX9_clean_69 rfl (Nat.le_of_ble_eq_true rfl) (Nat.le_of_ble_eq_true rfl) (mk_5_0 (nx_sh hN (nx_8 hN lq9))) rfl rfl (Nat.le_of_ble_eq_true rfl) ?_
      obtain ⟨r12, w13, ew13, h⟩ := ob_e h
      refine r_cVv 75 (As := [.ref (al 5 q8 0), .int x1, .int r10]) (rest := []) hk (kX7_doSteps hN (nx_7 hN (j := 0) (by decide)) (nx_sh hN (nx_8 hN lq8)) ew13) cf_RX9_338 mi_X7_doSteps ⟨TX7, 11, rfl⟩ dX9_clean_72 rfl (Nat.le_of_ble_eq_true rfl) (Nat.le_of_ble_eq_true rfl) (mk_7_0 (nx_7 hN (j := 0) (by decide))) rfl rfl (Nat.le_of_ble_eq_true rfl) ?_
      refine r_aload_n 76 hk dX9_clean_75 rfl 1 rfl rfl ?_
      refine r_iload_n 77 hk dX9_clean_76 rfl 0 rfl rfl ?_
      refine r_aload_n 78 hk dX9_clean_77 rfl 1 rfl rfl ?_
      refine r_get 81 hk dX9_clean_78 rfl ff_RX9_42 (mk_9_0 (nx_9 hN (j := 0) (by decide))) (gv_9_6 _ _ _) ?_
      refine r_get 84 hk dX9_clean_81 rfl ff_RX9_209 (mk_7_0 (nx_7 hN (j := 0) (by decide))) (gv_7_4 _ _ _) ?_
      refine r_isub 85 hk dX9_clean_84 rfl ?_
      obtain ⟨r14, w15, ew15, h⟩ := ob_e h
      refine r_cVi 88 (As := [.int ((x2_7 - ((w13 7 0).1 4)))]) (rest := []) hk (kX9_accept hN ew15) cf_RX9_115 mi_X9_accept ⟨TX9, 16, rfl⟩ dX9_clean_85 rfl (Nat.le_of_ble_eq_true rfl) (Nat.le_of_ble_eq_true rfl) (mk_9_0 (nx_9 hN (j := 0) (by decide))) rfl rfl (Nat.le_of_ble_eq_true rfl) ?_
      exact r_iret hk hR dX9_clean_88 h
    · have h := if_f c4 h
      refine r_aload_n 25 hk dX9_clean_24 rfl 0 rfl rfl ?_
      refine r_iconst 26 hk dX9_clean_25 rfl ci_5 ?_
      obtain ⟨r16, w17, ew17, h⟩ := ob_e h
      refine r_cVi 29 (As := [.int 5]) (rest := []) hk (kX9_refuse hN ew17) cf_RX9_86 mi_X9_refuse ⟨TX9, 16, rfl⟩ dX9_clean_26 rfl (Nat.le_of_ble_eq_true rfl) (Nat.le_of_ble_eq_true rfl) (mk_9_0 (nx_9 hN (j := 0) (by decide))) rfl rfl (Nat.le_of_ble_eq_true rfl) ?_
      exact r_iret hk hR dX9_clean_29 h
  · have h := if_t c3 h
    refine r_aload_n 9 hk dX9_clean_8 rfl 0 rfl rfl ?_
    refine r_iconst 10 hk dX9_clean_9 rfl ci_1 ?_
    obtain ⟨r18, w19, ew19, h⟩ := ob_e h
    refine r_cVi 13 (As := [.int 1]) (rest := []) hk (kX9_refuse hN ew19) cf_RX9_86 mi_X9_refuse ⟨TX9, 16, rfl⟩ dX9_clean_10 rfl (Nat.le_of_ble_eq_true rfl) (Nat.le_of_ble_eq_true rfl) (mk_9_0 (nx_9 hN (j := 0) (by decide))) rfl rfl (Nat.le_of_ble_eq_true rfl) ?_
    exact r_iret hk hR dX9_clean_13 h
def fX9_cut (w : Wd) (x1 : Int32) (x2 : Int32) : Option (Int32 × Wd) :=
  ob (fX9_whyNoCut w (x1) (x2)) fun r1 w2 =>
  if (r1 : Int32) = 0 then
    ob (fX2_keep 0 w2 ) fun _ w5 =>
    ckp ((w5 9 0).2.2.1 2) 2 fun q6 =>
    ob (fX7_cutPower 0 q6 w5 (x1) (x2)) fun _ w8 =>
    ckp ((w8 9 0).2.2.1 2) 2 fun q9 =>
    ob (fX7_damagedInAll 0 q9 w8 ) fun r10 w11 =>
    ob (fX9_accept w11 (r10)) fun r12 w13 =>
    some (r12, w13)
  else
    ob (fX9_refuse w2 (r1)) fun r14 w15 =>
    some (r14, w15)
set_option maxRecDepth 100000 in
set_option maxHeartbeats 4000000 in
theorem kX9_cut {l : Launch} {G : Gx} {al : Al} {w : Wd} {x1 : Int32} {x2 : Int32} {r : Int32} {wz : Wd} (hN : NX G) (h : fX9_cut w x1 x2 = some (r, wz)) : MC l G yX9_cut cX9_cut 4 (some (.int)) 5 115 al w [.ref (al 9 0 0), .int x1, .int x2] (some (.int r)) wz := by
  refine mc_of [(0, .ref (al 9 0 0)), (1, .int x1), (2, .int x2)] (by decide) (Nat.le_of_ble_eq_true rfl) rfl ?_
  intro K hk hR hn hl hG
  subst hl; subst hG
  have hk : VH K RX9 cX9_cut 5 115 := hk
  rw [fX9_cut.eq_1] at h
  refine r_aload_n 1 hk dX9_cut_0 rfl 0 rfl rfl ?_
  refine r_iload_n 2 hk dX9_cut_1 rfl 1 rfl rfl ?_
  refine r_iload_n 3 hk dX9_cut_2 rfl 2 rfl rfl ?_
  obtain ⟨r1, w2, ew2, h⟩ := ob_e h
  refine r_cVi 6 (As := [.int x1, .int x2]) (rest := []) hk (kX9_whyNoCut hN ew2) cf_RX9_248 mi_X9_whyNoCut ⟨TX9, 16, rfl⟩ dX9_cut_3 rfl (Nat.le_of_ble_eq_true rfl) (Nat.le_of_ble_eq_true rfl) (mk_9_0 (nx_9 hN (j := 0) (by decide))) rfl rfl (Nat.le_of_ble_eq_true rfl) ?_
  refine r_istore_n 7 [(3, .int r1), (0, .ref (al 9 0 0)), (1, .int x1), (2, .int x2)] hk dX9_cut_6 rfl rfl hn (by decide) rfl rfl ?_
  refine r_iload_n 8 hk dX9_cut_7 rfl 0 rfl rfl ?_
  refine r_if_eq 17 11 hk dX9_cut_8 rfl rfl (fun c3 => ?_) (fun c3 => ?_)
  · have h := if_t c3 h
    refine r_aload_n 18 hk dX9_cut_17 rfl 1 rfl rfl ?_
    refine r_get 21 hk dX9_cut_18 rfl ff_RX9_66 (mk_9_0 (nx_9 hN (j := 0) (by decide))) (gv_9_10 _ _ _) ?_
    refine r_aload_n 22 hk dX9_cut_21 rfl 1 rfl rfl ?_
    refine r_get 25 hk dX9_cut_22 rfl ff_RX9_42 (mk_9_0 (nx_9 hN (j := 0) (by decide))) (gv_9_6 _ _ _) ?_
    obtain ⟨r4, w5, ew5, h⟩ := ob_e h
    refine r_cVv 28 (As := [.ref (al 7 0 0)]) (rest := []) hk (kX2_keep hN (nx_7 hN (j := 0) (by decide)) ew5) cf_RX9_335 mi_X2_keep ⟨TX2, 3, rfl⟩ dX9_cut_25 rfl (Nat.le_of_ble_eq_true rfl) (Nat.le_of_ble_eq_true rfl) (mk_2_0 (nx_2 hN (j := 0) (by decide))) rfl rfl (Nat.le_of_ble_eq_true rfl) ?_
    refine r_aload_n 29 hk dX9_cut_28 rfl 1 rfl rfl ?_
    refine r_get 32 hk dX9_cut_29 rfl ff_RX9_42 (mk_9_0 (nx_9 hN (j := 0) (by decide))) (gv_9_6 _ _ _) ?_
    refine r_aload_n 33 hk dX9_cut_32 rfl 1 rfl rfl ?_
    refine r_get 36 hk dX9_cut_33 rfl ff_RX9_16 (mk_9_0 (nx_9 hN (j := 0) (by decide))) (gv_9_2 _ _ _) ?_
    obtain ⟨q6, eq6, lq6, h⟩ := ckp_e h
    refine r_pv1 eq6 ?_
    refine r_get 39 hk dX9_cut_36 rfl ff_RX9_109 (mk_8_0 (nx_8 hN lq6)) (gv_8_0 _ _ _) ?_
    refine r_iload_n 40 hk dX9_cut_39 rfl 2 rfl rfl ?_
    refine r_iload_n 41 hk dX9_cut_40 rfl 3 rfl rfl ?_
    obtain ⟨r7, w8, ew8, h⟩ := ob_e h
    refine r_cVv 44 (As := [.ref (al 5 q6 0), .int x1, .int x2]) (rest := []) hk (kX7_cutPower hN (nx_7 hN (j := 0) (by decide)) (nx_sh hN (nx_8 hN lq6)) ew8) cf_RX9_267 mi_X7_cutPower ⟨TX7, 11, rfl⟩ dX9_cut_41 rfl (Nat.le_of_ble_eq_true rfl) (Nat.le_of_ble_eq_true rfl) (mk_7_0 (nx_7 hN (j := 0) (by decide))) rfl rfl (Nat.le_of_ble_eq_true rfl) ?_
    refine r_aload_n 45 hk dX9_cut_44 rfl 1 rfl rfl ?_
    refine r_aload_n 46 hk dX9_cut_45 rfl 1 rfl rfl ?_
    refine r_get 49 hk dX9_cut_46 rfl ff_RX9_42 (mk_9_0 (nx_9 hN (j := 0) (by decide))) (gv_9_6 _ _ _) ?_
    refine r_aload_n 50 hk dX9_cut_49 rfl 1 rfl rfl ?_
    refine r_get 53 hk dX9_cut_50 rfl ff_RX9_16 (mk_9_0 (nx_9 hN (j := 0) (by decide))) (gv_9_2 _ _ _) ?_
    obtain ⟨q9, eq9, lq9, h⟩ := ckp_e h
    refine r_pv1 eq9 ?_
    refine r_get 56 hk dX9_cut_53 rfl ff_RX9_109 (mk_8_0 (nx_8 hN lq9)) (gv_8_0 _ _ _) ?_
    obtain ⟨r10, w11, ew11, h⟩ := ob_e h
    refine r_cVi 59 (As := [.ref (al 5 q9 0)]) (rest := [.ref (al 9 0 0)]) hk (kX7_damagedInAll hN (nx_7 hN (j := 0) (by decide)) (nx_sh hN (nx_8 hN lq9)) ew11) cf_RX9_255 mi_X7_damagedInAll ⟨TX7, 11, rfl⟩ dX9_cut_56 rfl (Nat.le_of_ble_eq_true rfl) (Nat.le_of_ble_eq_true rfl) (mk_7_0 (nx_7 hN (j := 0) (by decide))) rfl rfl (Nat.le_of_ble_eq_true rfl) ?_
    obtain ⟨r12, w13, ew13, h⟩ := ob_e h
    refine r_cVi 62 (As := [.int r10]) (rest := []) hk (kX9_accept hN ew13) cf_RX9_115 mi_X9_accept ⟨TX9, 16, rfl⟩ dX9_cut_59 rfl (Nat.le_of_ble_eq_true rfl) (Nat.le_of_ble_eq_true rfl) (mk_9_0 (nx_9 hN (j := 0) (by decide))) rfl rfl (Nat.le_of_ble_eq_true rfl) ?_
    exact r_iret hk hR dX9_cut_62 h
  · have h := if_f c3 h
    refine r_aload_n 12 hk dX9_cut_11 rfl 1 rfl rfl ?_
    refine r_iload_n 13 hk dX9_cut_12 rfl 0 rfl rfl ?_
    obtain ⟨r14, w15, ew15, h⟩ := ob_e h
    refine r_cVi 16 (As := [.int r1]) (rest := []) hk (kX9_refuse hN ew15) cf_RX9_86 mi_X9_refuse ⟨TX9, 16, rfl⟩ dX9_cut_13 rfl (Nat.le_of_ble_eq_true rfl) (Nat.le_of_ble_eq_true rfl) (mk_9_0 (nx_9 hN (j := 0) (by decide))) rfl rfl (Nat.le_of_ble_eq_true rfl) ?_
    exact r_iret hk hR dX9_cut_16 h
def fX9_recover (w : Wd) : Option (Int32 × Wd) :=
  ob (fX9_hasDisk w ) fun r1 w2 =>
  if (r1 : Int32) = 0 then
    ob (fX9_refuse w2 (1)) fun r14 w15 =>
    some (r14, w15)
  else
    if (((w2 7 0).1 8) : Int32) = 0 then
      ob (fX9_refuse w2 (5)) fun r12 w13 =>
      some (r12, w13)
    else
      ob (fX2_keep 0 w2 ) fun _ w6 =>
      ckp ((w6 9 0).2.2.1 2) 2 fun q7 =>
      ob (fX7_comeBack 0 q7 w6 ) fun r8 w9 =>
      ob (fX9_accept w9 (r8)) fun r10 w11 =>
      some (r10, w11)
set_option maxRecDepth 100000 in
set_option maxHeartbeats 4000000 in
theorem kX9_recover {l : Launch} {G : Gx} {al : Al} {w : Wd} {r : Int32} {wz : Wd} (hN : NX G) (h : fX9_recover w = some (r, wz)) : MC l G yX9_recover cX9_recover 1 (some (.int)) 4 91 al w [.ref (al 9 0 0)] (some (.int r)) wz := by
  refine mc_of [(0, .ref (al 9 0 0))] (by decide) (Nat.le_of_ble_eq_true rfl) rfl ?_
  intro K hk hR hn hl hG
  subst hl; subst hG
  have hk : VH K RX9 cX9_recover 4 91 := hk
  rw [fX9_recover.eq_1] at h
  refine r_aload_n 1 hk dX9_recover_0 rfl 0 rfl rfl ?_
  obtain ⟨r1, w2, ew2, h⟩ := ob_e h
  refine r_cVi 4 (As := []) (rest := []) hk (kX9_hasDisk hN ew2) cf_RX9_199 mi_X9_hasDisk ⟨TX9, 16, rfl⟩ dX9_recover_1 rfl (Nat.le_of_ble_eq_true rfl) (Nat.le_of_ble_eq_true rfl) (mk_9_0 (nx_9 hN (j := 0) (by decide))) rfl rfl (Nat.le_of_ble_eq_true rfl) ?_
  refine r_if_ne 13 7 hk dX9_recover_4 rfl rfl (fun c3 => ?_) (fun c3 => ?_)
  · have h := if_f c3 h
    refine r_aload_n 14 hk dX9_recover_13 rfl 0 rfl rfl ?_
    refine r_get 17 hk dX9_recover_14 rfl ff_RX9_42 (mk_9_0 (nx_9 hN (j := 0) (by decide))) (gv_9_6 _ _ _) ?_
    refine r_get 20 hk dX9_recover_17 rfl ff_RX9_162 (mk_7_0 (nx_7 hN (j := 0) (by decide))) (gv_7_8 _ _ _) ?_
    refine r_if_ne 29 23 hk dX9_recover_20 rfl rfl (fun c4 => ?_) (fun c4 => ?_)
    · have h := if_f c4 h
      refine r_aload_n 30 hk dX9_recover_29 rfl 0 rfl rfl ?_
      refine r_get 33 hk dX9_recover_30 rfl ff_RX9_66 (mk_9_0 (nx_9 hN (j := 0) (by decide))) (gv_9_10 _ _ _) ?_
      refine r_aload_n 34 hk dX9_recover_33 rfl 0 rfl rfl ?_
      refine r_get 37 hk dX9_recover_34 rfl ff_RX9_42 (mk_9_0 (nx_9 hN (j := 0) (by decide))) (gv_9_6 _ _ _) ?_
      obtain ⟨r5, w6, ew6, h⟩ := ob_e h
      refine r_cVv 40 (As := [.ref (al 7 0 0)]) (rest := []) hk (kX2_keep hN (nx_7 hN (j := 0) (by decide)) ew6) cf_RX9_335 mi_X2_keep ⟨TX2, 3, rfl⟩ dX9_recover_37 rfl (Nat.le_of_ble_eq_true rfl) (Nat.le_of_ble_eq_true rfl) (mk_2_0 (nx_2 hN (j := 0) (by decide))) rfl rfl (Nat.le_of_ble_eq_true rfl) ?_
      refine r_aload_n 41 hk dX9_recover_40 rfl 0 rfl rfl ?_
      refine r_aload_n 42 hk dX9_recover_41 rfl 0 rfl rfl ?_
      refine r_get 45 hk dX9_recover_42 rfl ff_RX9_42 (mk_9_0 (nx_9 hN (j := 0) (by decide))) (gv_9_6 _ _ _) ?_
      refine r_aload_n 46 hk dX9_recover_45 rfl 0 rfl rfl ?_
      refine r_get 49 hk dX9_recover_46 rfl ff_RX9_16 (mk_9_0 (nx_9 hN (j := 0) (by decide))) (gv_9_2 _ _ _) ?_
      obtain ⟨q7, eq7, lq7, h⟩ := ckp_e h
      refine r_pv1 eq7 ?_
      refine r_get 52 hk dX9_recover_49 rfl ff_RX9_109 (mk_8_0 (nx_8 hN lq7)) (gv_8_0 _ _ _) ?_
      obtain ⟨r8, w9, ew9, h⟩ := ob_e h
      refine r_cVi 55 (As := [.ref (al 5 q7 0)]) (rest := [.ref (al 9 0 0)]) hk (kX7_comeBack hN (nx_7 hN (j := 0) (by decide)) (nx_sh hN (nx_8 hN lq7)) ew9) cf_RX9_261 mi_X7_comeBack ⟨TX7, 11, rfl⟩ dX9_recover_52 rfl (Nat.le_of_ble_eq_true rfl) (Nat.le_of_ble_eq_true rfl) (mk_7_0 (nx_7 hN (j := 0) (by decide))) rfl rfl (Nat.le_of_ble_eq_true rfl) ?_
      obtain ⟨r10, w11, ew11, h⟩ := ob_e h
      refine r_cVi 58 (As := [.int r8]) (rest := []) hk (kX9_accept hN ew11) cf_RX9_115 mi_X9_accept ⟨TX9, 16, rfl⟩ dX9_recover_55 rfl (Nat.le_of_ble_eq_true rfl) (Nat.le_of_ble_eq_true rfl) (mk_9_0 (nx_9 hN (j := 0) (by decide))) rfl rfl (Nat.le_of_ble_eq_true rfl) ?_
      exact r_iret hk hR dX9_recover_58 h
    · have h := if_t c4 h
      refine r_aload_n 24 hk dX9_recover_23 rfl 0 rfl rfl ?_
      refine r_iconst 25 hk dX9_recover_24 rfl ci_5 ?_
      obtain ⟨r12, w13, ew13, h⟩ := ob_e h
      refine r_cVi 28 (As := [.int 5]) (rest := []) hk (kX9_refuse hN ew13) cf_RX9_86 mi_X9_refuse ⟨TX9, 16, rfl⟩ dX9_recover_25 rfl (Nat.le_of_ble_eq_true rfl) (Nat.le_of_ble_eq_true rfl) (mk_9_0 (nx_9 hN (j := 0) (by decide))) rfl rfl (Nat.le_of_ble_eq_true rfl) ?_
      exact r_iret hk hR dX9_recover_28 h
  · have h := if_t c3 h
    refine r_aload_n 8 hk dX9_recover_7 rfl 0 rfl rfl ?_
    refine r_iconst 9 hk dX9_recover_8 rfl ci_1 ?_
    obtain ⟨r14, w15, ew15, h⟩ := ob_e h
    refine r_cVi 12 (As := [.int 1]) (rest := []) hk (kX9_refuse hN ew15) cf_RX9_86 mi_X9_refuse ⟨TX9, 16, rfl⟩ dX9_recover_9 rfl (Nat.le_of_ble_eq_true rfl) (Nat.le_of_ble_eq_true rfl) (mk_9_0 (nx_9 hN (j := 0) (by decide))) rfl rfl (Nat.le_of_ble_eq_true rfl) ?_
    exact r_iret hk hR dX9_recover_12 h
def fX9_undo (w : Wd) : Option (Int32 × Wd) :=
  if (((w 2 0).1 2) : Int32) = 0 then
    ob (fX9_refuse w (6)) fun r5 w6 =>
    some (0, w6)
  else
    ob (fX2_takeBack 0 w ) fun _ w3 =>
    lw (sI w3 9 0 13 (0)) fun w4 =>
    some (1, w4)
set_option maxRecDepth 100000 in
set_option maxHeartbeats 4000000 in
theorem kX9_undo {l : Launch} {G : Gx} {al : Al} {w : Wd} {r : Int32} {wz : Wd} (hN : NX G) (h : fX9_undo w = some (r, wz)) : MC l G yX9_undo cX9_undo 1 (some (.boolean)) 4 91 al w [.ref (al 9 0 0)] (some (.int r)) wz := by
  refine mc_of [(0, .ref (al 9 0 0))] (by decide) (Nat.le_of_ble_eq_true rfl) rfl ?_
  intro K hk hR hn hl hG
  subst hl; subst hG
  have hk : VH K RX9 cX9_undo 4 91 := hk
  rw [fX9_undo.eq_1] at h
  refine r_aload_n 1 hk dX9_undo_0 rfl 0 rfl rfl ?_
  refine r_get 4 hk dX9_undo_1 rfl ff_RX9_66 (mk_9_0 (nx_9 hN (j := 0) (by decide))) (gv_9_10 _ _ _) ?_
  refine r_get 7 hk dX9_undo_4 rfl ff_RX9_341 (mk_2_0 (nx_2 hN (j := 0) (by decide))) (gv_2_2 _ _ _) ?_
  refine r_if_ne 19 10 hk dX9_undo_7 rfl rfl (fun c1 => ?_) (fun c1 => ?_)
  · have h := if_f c1 h
    refine r_aload_n 20 hk dX9_undo_19 rfl 0 rfl rfl ?_
    refine r_get 23 hk dX9_undo_20 rfl ff_RX9_66 (mk_9_0 (nx_9 hN (j := 0) (by decide))) (gv_9_10 _ _ _) ?_
    refine r_aload_n 24 hk dX9_undo_23 rfl 0 rfl rfl ?_
    refine r_get 27 hk dX9_undo_24 rfl ff_RX9_42 (mk_9_0 (nx_9 hN (j := 0) (by decide))) (gv_9_6 _ _ _) ?_
    obtain ⟨r2, w3, ew3, h⟩ := ob_e h
    refine r_cVv 30 (As := [.ref (al 7 0 0)]) (rest := []) hk (kX2_takeBack hN (nx_7 hN (j := 0) (by decide)) ew3) cf_RX9_342 mi_X2_takeBack ⟨TX2, 3, rfl⟩ dX9_undo_27 rfl (Nat.le_of_ble_eq_true rfl) (Nat.le_of_ble_eq_true rfl) (mk_2_0 (nx_2 hN (j := 0) (by decide))) rfl rfl (Nat.le_of_ble_eq_true rfl) ?_
    refine r_aload_n 31 hk dX9_undo_30 rfl 0 rfl rfl ?_
    refine r_iconst 32 hk dX9_undo_31 rfl ci_0 ?_
    obtain ⟨w4, ew4, h⟩ := lw_e h
    refine r_putI 35 w4 hk dX9_undo_32 rfl ff_RX9_152 fi_9_13 (mk_9_0 (nx_9 hN (j := 0) (by decide))) ew4 ?_
    refine r_iconst 36 hk dX9_undo_35 rfl ci_1 ?_
    exact r_zret hk hR dX9_undo_36 (by decide) h
  · have h := if_t c1 h
    refine r_aload_n 11 hk dX9_undo_10 rfl 0 rfl rfl ?_
    refine r_bipush 13 hk dX9_undo_11 rfl cb_6 ?_
    obtain ⟨r5, w6, ew6, h⟩ := ob_e h
    refine r_cVi 16 (As := [.int 6]) (rest := []) hk (kX9_refuse hN ew6) cf_RX9_86 mi_X9_refuse ⟨TX9, 16, rfl⟩ dX9_undo_13 rfl (Nat.le_of_ble_eq_true rfl) (Nat.le_of_ble_eq_true rfl) (mk_9_0 (nx_9 hN (j := 0) (by decide))) rfl rfl (Nat.le_of_ble_eq_true rfl) ?_
    refine r_pop 17 hk dX9_undo_16 rfl rfl ?_
    refine r_iconst 18 hk dX9_undo_17 rfl ci_0 ?_
    exact r_zret hk hR dX9_undo_18 (by decide) h
def fX9_image (w : Wd) : Option (Int32 × Wd) :=
  ob (fX9_hasDisk w ) fun r1 w2 =>
  if (r1 : Int32) = 0 then
    ob (fX9_refuse w2 (1)) fun r12 w13 =>
    some (r12, w13)
  else
    if (((w2 9 0).1 12) : Int32) < 3 then
      ob (fX6_layIn 1 0 w2 (((w2 9 0).1 12))) fun _ w6 =>
      lw (sI w6 9 0 12 ((((w6 9 0).1 12) + 1))) fun w7 =>
      ob (fX9_accept w7 ((((w7 9 0).1 12) - 1))) fun r8 w9 =>
      some (r8, w9)
    else
      ob (fX9_refuse w2 (3)) fun r10 w11 =>
      some (r10, w11)
set_option maxRecDepth 100000 in
set_option maxHeartbeats 4000000 in
theorem kX9_image {l : Launch} {G : Gx} {al : Al} {w : Wd} {r : Int32} {wz : Wd} (hN : NX G) (h : fX9_image w = some (r, wz)) : MC l G yX9_image cX9_image 1 (some (.int)) 3 70 al w [.ref (al 9 0 0)] (some (.int r)) wz := by
  refine mc_of [(0, .ref (al 9 0 0))] (by decide) (Nat.le_of_ble_eq_true rfl) rfl ?_
  intro K hk hR hn hl hG
  subst hl; subst hG
  have hk : VH K RX9 cX9_image 3 70 := hk
  rw [fX9_image.eq_1] at h
  refine r_aload_n 1 hk dX9_image_0 rfl 0 rfl rfl ?_
  obtain ⟨r1, w2, ew2, h⟩ := ob_e h
  refine r_cVi 4 (As := []) (rest := []) hk (kX9_hasDisk hN ew2) cf_RX9_199 mi_X9_hasDisk ⟨TX9, 16, rfl⟩ dX9_image_1 rfl (Nat.le_of_ble_eq_true rfl) (Nat.le_of_ble_eq_true rfl) (mk_9_0 (nx_9 hN (j := 0) (by decide))) rfl rfl (Nat.le_of_ble_eq_true rfl) ?_
  refine r_if_ne 13 7 hk dX9_image_4 rfl rfl (fun c3 => ?_) (fun c3 => ?_)
  · have h := if_f c3 h
    refine r_aload_n 14 hk dX9_image_13 rfl 0 rfl rfl ?_
    refine r_get 17 hk dX9_image_14 rfl ff_RX9_129 (mk_9_0 (nx_9 hN (j := 0) (by decide))) (gv_9_12 _ _ _) ?_
    refine r_iconst 18 hk dX9_image_17 rfl ci_3 ?_
    refine r_icmp_lt 27 21 hk dX9_image_18 rfl rfl (fun c4 => ?_) (fun c4 => ?_)
    · have h := if_t c4 h
      refine r_aload_n 28 hk dX9_image_27 rfl 0 rfl rfl ?_
      refine r_get 31 hk dX9_image_28 rfl ff_RX9_75 (mk_9_0 (nx_9 hN (j := 0) (by decide))) (gv_9_11 _ _ _) ?_
      refine r_aload_n 32 hk dX9_image_31 rfl 0 rfl rfl ?_
      refine r_get 35 hk dX9_image_32 rfl ff_RX9_129 (mk_9_0 (nx_9 hN (j := 0) (by decide))) (gv_9_12 _ _ _) ?_
      refine r_aload_n 36 hk dX9_image_35 rfl 0 rfl rfl ?_
      refine r_get 39 hk dX9_image_36 rfl ff_RX9_42 (mk_9_0 (nx_9 hN (j := 0) (by decide))) (gv_9_6 _ _ _) ?_
      obtain ⟨r5, w6, ew6, h⟩ := ob_e h
      refine r_cVv 42 (As := [.int (((w2 9 0).1 12)), .ref (al 7 0 0)]) (rest := []) hk (kX6_layIn hN (nx_6 hN (j := 1) (by decide)) (nx_7 hN (j := 0) (by decide)) ew6) cf_RX9_345 mi_X6_layIn ⟨TX6, 1, rfl⟩ dX9_image_39 rfl (Nat.le_of_ble_eq_true rfl) (Nat.le_of_ble_eq_true rfl) (mk_6_0 (nx_6 hN (j := 1) (by decide))) rfl rfl (Nat.le_of_ble_eq_true rfl) ?_
      refine r_aload_n 43 hk dX9_image_42 rfl 0 rfl rfl ?_
      refine r_dup 44 hk dX9_image_43 rfl rfl ?_
      refine r_get 47 hk dX9_image_44 rfl ff_RX9_129 (mk_9_0 (nx_9 hN (j := 0) (by decide))) (gv_9_12 _ _ _) ?_
      refine r_iconst 48 hk dX9_image_47 rfl ci_1 ?_
      refine r_iadd 49 hk dX9_image_48 rfl ?_
      obtain ⟨w7, ew7, h⟩ := lw_e h
      refine r_putI 52 w7 hk dX9_image_49 rfl ff_RX9_129 fi_9_12 (mk_9_0 (nx_9 hN (j := 0) (by decide))) ew7 ?_
      refine r_aload_n 53 hk dX9_image_52 rfl 0 rfl rfl ?_
      refine r_aload_n 54 hk dX9_image_53 rfl 0 rfl rfl ?_
      refine r_get 57 hk dX9_image_54 rfl ff_RX9_129 (mk_9_0 (nx_9 hN (j := 0) (by decide))) (gv_9_12 _ _ _) ?_
      refine r_iconst 58 hk dX9_image_57 rfl ci_1 ?_
      refine r_isub 59 hk dX9_image_58 rfl ?_
      obtain ⟨r8, w9, ew9, h⟩ := ob_e h
      refine r_cVi 62 (As := [.int ((((w7 9 0).1 12) - 1))]) (rest := []) hk (kX9_accept hN ew9) cf_RX9_115 mi_X9_accept ⟨TX9, 16, rfl⟩ dX9_image_59 rfl (Nat.le_of_ble_eq_true rfl) (Nat.le_of_ble_eq_true rfl) (mk_9_0 (nx_9 hN (j := 0) (by decide))) rfl rfl (Nat.le_of_ble_eq_true rfl) ?_
      exact r_iret hk hR dX9_image_62 h
    · have h := if_f c4 h
      refine r_aload_n 22 hk dX9_image_21 rfl 0 rfl rfl ?_
      refine r_iconst 23 hk dX9_image_22 rfl ci_3 ?_
      obtain ⟨r10, w11, ew11, h⟩ := ob_e h
      refine r_cVi 26 (As := [.int 3]) (rest := []) hk (kX9_refuse hN ew11) cf_RX9_86 mi_X9_refuse ⟨TX9, 16, rfl⟩ dX9_image_23 rfl (Nat.le_of_ble_eq_true rfl) (Nat.le_of_ble_eq_true rfl) (mk_9_0 (nx_9 hN (j := 0) (by decide))) rfl rfl (Nat.le_of_ble_eq_true rfl) ?_
      exact r_iret hk hR dX9_image_26 h
  · have h := if_t c3 h
    refine r_aload_n 8 hk dX9_image_7 rfl 0 rfl rfl ?_
    refine r_iconst 9 hk dX9_image_8 rfl ci_1 ?_
    obtain ⟨r12, w13, ew13, h⟩ := ob_e h
    refine r_cVi 12 (As := [.int 1]) (rest := []) hk (kX9_refuse hN ew13) cf_RX9_86 mi_X9_refuse ⟨TX9, 16, rfl⟩ dX9_image_9 rfl (Nat.le_of_ble_eq_true rfl) (Nat.le_of_ble_eq_true rfl) (mk_9_0 (nx_9 hN (j := 0) (by decide))) rfl rfl (Nat.le_of_ble_eq_true rfl) ?_
    exact r_iret hk hR dX9_image_12 h
def fX9_back (w : Wd) (x1 : Int32) : Option (Int32 × Wd) :=
  if (x1 : Int32) < 0 then
    ob (fX9_refuse w (1)) fun r2 w3 =>
    some (0, w3)
  else
    if (x1 : Int32) < ((w 9 0).1 12) then
      ob (fX6_takeOut 1 0 w (x1)) fun _ w6 =>
      ob (fX2_forget w6 ) fun _ w8 =>
      lw (sI w8 9 0 13 (0)) fun w9 =>
      some (1, w9)
    else
      ob (fX9_refuse w (1)) fun r10 w11 =>
      some (0, w11)
set_option maxRecDepth 100000 in
set_option maxHeartbeats 4000000 in
theorem kX9_back {l : Launch} {G : Gx} {al : Al} {w : Wd} {x1 : Int32} {r : Int32} {wz : Wd} (hN : NX G) (h : fX9_back w x1 = some (r, wz)) : MC l G yX9_back cX9_back 2 (some (.boolean)) 3 70 al w [.ref (al 9 0 0), .int x1] (some (.int r)) wz := by
  refine mc_of [(0, .ref (al 9 0 0)), (1, .int x1)] (by decide) (Nat.le_of_ble_eq_true rfl) rfl ?_
  intro K hk hR hn hl hG
  subst hl; subst hG
  have hk : VH K RX9 cX9_back 3 70 := hk
  rw [fX9_back.eq_1] at h
  refine r_iload_n 1 hk dX9_back_0 rfl 1 rfl rfl ?_
  refine r_if_lt 12 4 hk dX9_back_1 rfl rfl (fun c1 => ?_) (fun c1 => ?_)
  · have h := if_t c1 h
    refine r_aload_n 13 hk dX9_back_12 rfl 0 rfl rfl ?_
    refine r_iconst 14 hk dX9_back_13 rfl ci_1 ?_
    obtain ⟨r2, w3, ew3, h⟩ := ob_e h
    refine r_cVi 17 (As := [.int 1]) (rest := []) hk (kX9_refuse hN ew3) cf_RX9_86 mi_X9_refuse ⟨TX9, 16, rfl⟩ dX9_back_14 rfl (Nat.le_of_ble_eq_true rfl) (Nat.le_of_ble_eq_true rfl) (mk_9_0 (nx_9 hN (j := 0) (by decide))) rfl rfl (Nat.le_of_ble_eq_true rfl) ?_
    refine r_pop 18 hk dX9_back_17 rfl rfl ?_
    refine r_iconst 19 hk dX9_back_18 rfl ci_0 ?_
    exact r_zret hk hR dX9_back_19 (by decide) h
  · have h := if_f c1 h
    refine r_iload_n 5 hk dX9_back_4 rfl 1 rfl rfl ?_
    refine r_aload_n 6 hk dX9_back_5 rfl 0 rfl rfl ?_
    refine r_get 9 hk dX9_back_6 rfl ff_RX9_129 (mk_9_0 (nx_9 hN (j := 0) (by decide))) (gv_9_12 _ _ _) ?_
    refine r_icmp_lt 20 12 hk dX9_back_9 rfl rfl (fun c4 => ?_) (fun c4 => ?_)
    · have h := if_t c4 h
      refine r_aload_n 21 hk dX9_back_20 rfl 0 rfl rfl ?_
      refine r_get 24 hk dX9_back_21 rfl ff_RX9_75 (mk_9_0 (nx_9 hN (j := 0) (by decide))) (gv_9_11 _ _ _) ?_
      refine r_iload_n 25 hk dX9_back_24 rfl 1 rfl rfl ?_
      refine r_aload_n 26 hk dX9_back_25 rfl 0 rfl rfl ?_
      refine r_get 29 hk dX9_back_26 rfl ff_RX9_42 (mk_9_0 (nx_9 hN (j := 0) (by decide))) (gv_9_6 _ _ _) ?_
      obtain ⟨r5, w6, ew6, h⟩ := ob_e h
      refine r_cVv 32 (As := [.int x1, .ref (al 7 0 0)]) (rest := []) hk (kX6_takeOut hN (nx_6 hN (j := 1) (by decide)) (nx_7 hN (j := 0) (by decide)) ew6) cf_RX9_349 mi_X6_takeOut ⟨TX6, 1, rfl⟩ dX9_back_29 rfl (Nat.le_of_ble_eq_true rfl) (Nat.le_of_ble_eq_true rfl) (mk_6_0 (nx_6 hN (j := 1) (by decide))) rfl rfl (Nat.le_of_ble_eq_true rfl) ?_
      refine r_aload_n 33 hk dX9_back_32 rfl 0 rfl rfl ?_
      refine r_get 36 hk dX9_back_33 rfl ff_RX9_66 (mk_9_0 (nx_9 hN (j := 0) (by decide))) (gv_9_10 _ _ _) ?_
      obtain ⟨r7, w8, ew8, h⟩ := ob_e h
      refine r_cVv 39 (As := []) (rest := []) hk (kX2_forget hN ew8) cf_RX9_126 mi_X2_forget ⟨TX2, 3, rfl⟩ dX9_back_36 rfl (Nat.le_of_ble_eq_true rfl) (Nat.le_of_ble_eq_true rfl) (mk_2_0 (nx_2 hN (j := 0) (by decide))) rfl rfl (Nat.le_of_ble_eq_true rfl) ?_
      refine r_aload_n 40 hk dX9_back_39 rfl 0 rfl rfl ?_
      refine r_iconst 41 hk dX9_back_40 rfl ci_0 ?_
      obtain ⟨w9, ew9, h⟩ := lw_e h
      refine r_putI 44 w9 hk dX9_back_41 rfl ff_RX9_152 fi_9_13 (mk_9_0 (nx_9 hN (j := 0) (by decide))) ew9 ?_
      refine r_iconst 45 hk dX9_back_44 rfl ci_1 ?_
      exact r_zret hk hR dX9_back_45 (by decide) h
    · have h := if_f c4 h
      refine r_aload_n 13 hk dX9_back_12 rfl 0 rfl rfl ?_
      refine r_iconst 14 hk dX9_back_13 rfl ci_1 ?_
      obtain ⟨r10, w11, ew11, h⟩ := ob_e h
      refine r_cVi 17 (As := [.int 1]) (rest := []) hk (kX9_refuse hN ew11) cf_RX9_86 mi_X9_refuse ⟨TX9, 16, rfl⟩ dX9_back_14 rfl (Nat.le_of_ble_eq_true rfl) (Nat.le_of_ble_eq_true rfl) (mk_9_0 (nx_9 hN (j := 0) (by decide))) rfl rfl (Nat.le_of_ble_eq_true rfl) ?_
      refine r_pop 18 hk dX9_back_17 rfl rfl ?_
      refine r_iconst 19 hk dX9_back_18 rfl ci_0 ?_
      exact r_zret hk hR dX9_back_19 (by decide) h
def fX9_size (w : Wd) (x1 : Int32) : Option (Int32 × Wd) :=
  if (x1 : Int32) = 0 then
    ckp ((w 9 0).2.2.1 2) 2 fun q2 =>
    some (((w 5 q2).1 5), w)
  else
  if (x1 : Int32) = 1 then
    ckp ((w 9 0).2.2.1 2) 2 fun q4 =>
    some (((w 5 q4).1 6), w)
  else
  if (x1 : Int32) = 2 then
    ckp ((w 9 0).2.2.1 2) 2 fun q6 =>
    if (((w 5 q6).1 7) : Int32) = 0 then
      some (0, w)
    else
      some (1, w)
  else
  if (x1 : Int32) = 3 then
    ckp ((w 9 0).2.2.1 2) 2 fun q9 =>
    some (((w 5 q9).1 3), w)
  else
  if (x1 : Int32) = 4 then
    ckp ((w 9 0).2.2.1 2) 2 fun q11 =>
    some (((w 5 q11).1 4), w)
  else
  if (x1 : Int32) = 5 then
    ckp ((w 9 0).2.2.1 2) 2 fun q13 =>
    some (((w 3 (4 * q13 + 1)).1 2), w)
  else
  if (x1 : Int32) = 6 then
    ckp ((w 9 0).2.2.1 2) 2 fun q15 =>
    some (((w 3 (4 * q15 + 2)).1 2), w)
  else
  if (x1 : Int32) = 7 then
    ckp ((w 9 0).2.2.1 2) 2 fun q17 =>
    some (((w 3 (4 * q17 + 3)).1 2), w)
  else
  if (x1 : Int32) = 8 then
    some (((w 7 0).1 9), w)
  else
  if (x1 : Int32) = 9 then
    some (((w 2 0).1 2), w)
  else
  if (x1 : Int32) = 10 then
    some (((w 9 0).1 12), w)
  else
  if (x1 : Int32) = 11 then
    some (((w 9 0).1 1), w)
  else
  some ((-1), w)
set_option maxRecDepth 100000 in
set_option maxHeartbeats 4000000 in
theorem kX9_size {l : Launch} {G : Gx} {al : Al} {w : Wd} {x1 : Int32} {r : Int32} {wz : Wd} (hN : NX G) (h : fX9_size w x1 = some (r, wz)) : MC l G yX9_size cX9_size 2 (some (.int)) 0 0 al w [.ref (al 9 0 0), .int x1] (some (.int r)) wz := by
  refine mc_of [(0, .ref (al 9 0 0)), (1, .int x1)] (by decide) (Nat.le_of_ble_eq_true rfl) rfl ?_
  intro K hk hR hn hl hG
  subst hl; subst hG
  have hk : VH K RX9 cX9_size 0 0 := hk
  rw [fX9_size.eq_1] at h
  refine r_iload_n 1 hk dX9_size_0 rfl 1 rfl rfl ?_
  by_cases c1 : (x1 : Int32) = 0
  · have h := if_t c1 h
    refine r_tabIn 64 hk (k := 0) c1 dX9_size_1 (by decide) (by decide) rfl rfl ?_
    refine r_aload_n 65 hk dX9_size_64 rfl 0 rfl rfl ?_
    refine r_get 68 hk dX9_size_65 rfl ff_RX9_16 (mk_9_0 (nx_9 hN (j := 0) (by decide))) (gv_9_2 _ _ _) ?_
    obtain ⟨q2, eq2, lq2, h⟩ := ckp_e h
    refine r_pv1 eq2 ?_
    refine r_get 71 hk dX9_size_68 rfl ff_RX9_109 (mk_8_0 (nx_8 hN lq2)) (gv_8_0 _ _ _) ?_
    refine r_get 74 hk dX9_size_71 rfl ff_RX9_203 (mk_5_0 (nx_sh hN (nx_8 hN lq2))) (gv_5_5 _ _ _) ?_
    exact r_iret hk hR dX9_size_74 h
  have h := if_f c1 h
  by_cases c3 : (x1 : Int32) = 1
  · have h := if_t c3 h
    refine r_tabIn 75 hk (k := 1) c3 dX9_size_1 (by decide) (by decide) rfl rfl ?_
    refine r_aload_n 76 hk dX9_size_75 rfl 0 rfl rfl ?_
    refine r_get 79 hk dX9_size_76 rfl ff_RX9_16 (mk_9_0 (nx_9 hN (j := 0) (by decide))) (gv_9_2 _ _ _) ?_
    obtain ⟨q4, eq4, lq4, h⟩ := ckp_e h
    refine r_pv1 eq4 ?_
    refine r_get 82 hk dX9_size_79 rfl ff_RX9_109 (mk_8_0 (nx_8 hN lq4)) (gv_8_0 _ _ _) ?_
    refine r_get 85 hk dX9_size_82 rfl ff_RX9_355 (mk_5_0 (nx_sh hN (nx_8 hN lq4))) (gv_5_6 _ _ _) ?_
    exact r_iret hk hR dX9_size_85 h
  have h := if_f c3 h
  by_cases c5 : (x1 : Int32) = 2
  · have h := if_t c5 h
    refine r_tabIn 86 hk (k := 2) c5 dX9_size_1 (by decide) (by decide) rfl rfl ?_
    refine r_aload_n 87 hk dX9_size_86 rfl 0 rfl rfl ?_
    refine r_get 90 hk dX9_size_87 rfl ff_RX9_16 (mk_9_0 (nx_9 hN (j := 0) (by decide))) (gv_9_2 _ _ _) ?_
    obtain ⟨q6, eq6, lq6, h⟩ := ckp_e h
    refine r_pv1 eq6 ?_
    refine r_get 93 hk dX9_size_90 rfl ff_RX9_109 (mk_8_0 (nx_8 hN lq6)) (gv_8_0 _ _ _) ?_
    refine r_get 96 hk dX9_size_93 rfl ff_RX9_358 (mk_5_0 (nx_sh hN (nx_8 hN lq6))) (gv_5_7 _ _ _) ?_
    refine r_if_eq 103 99 hk dX9_size_96 rfl rfl (fun c7 => ?_) (fun c7 => ?_)
    · have h := if_t c7 h
      refine r_iconst 104 hk dX9_size_103 rfl ci_0 ?_
      exact r_iret hk hR dX9_size_104 h
    · have h := if_f c7 h
      refine r_iconst 100 hk dX9_size_99 rfl ci_1 ?_
      refine r_goto 104 hk (x := 0) dX9_size_100 rfl ?_
      exact r_iret hk hR dX9_size_104 h
  have h := if_f c5 h
  by_cases c8 : (x1 : Int32) = 3
  · have h := if_t c8 h
    refine r_tabIn 105 hk (k := 3) c8 dX9_size_1 (by decide) (by decide) rfl rfl ?_
    refine r_aload_n 106 hk dX9_size_105 rfl 0 rfl rfl ?_
    refine r_get 109 hk dX9_size_106 rfl ff_RX9_16 (mk_9_0 (nx_9 hN (j := 0) (by decide))) (gv_9_2 _ _ _) ?_
    obtain ⟨q9, eq9, lq9, h⟩ := ckp_e h
    refine r_pv1 eq9 ?_
    refine r_get 112 hk dX9_size_109 rfl ff_RX9_109 (mk_8_0 (nx_8 hN lq9)) (gv_8_0 _ _ _) ?_
    refine r_get 115 hk dX9_size_112 rfl ff_RX9_155 (mk_5_0 (nx_sh hN (nx_8 hN lq9))) (gv_5_3 _ _ _) ?_
    exact r_iret hk hR dX9_size_115 h
  have h := if_f c8 h
  by_cases c10 : (x1 : Int32) = 4
  · have h := if_t c10 h
    refine r_tabIn 116 hk (k := 4) c10 dX9_size_1 (by decide) (by decide) rfl rfl ?_
    refine r_aload_n 117 hk dX9_size_116 rfl 0 rfl rfl ?_
    refine r_get 120 hk dX9_size_117 rfl ff_RX9_16 (mk_9_0 (nx_9 hN (j := 0) (by decide))) (gv_9_2 _ _ _) ?_
    obtain ⟨q11, eq11, lq11, h⟩ := ckp_e h
    refine r_pv1 eq11 ?_
    refine r_get 123 hk dX9_size_120 rfl ff_RX9_109 (mk_8_0 (nx_8 hN lq11)) (gv_8_0 _ _ _) ?_
    refine r_get 126 hk dX9_size_123 rfl ff_RX9_112 (mk_5_0 (nx_sh hN (nx_8 hN lq11))) (gv_5_4 _ _ _) ?_
    exact r_iret hk hR dX9_size_126 h
  have h := if_f c10 h
  by_cases c12 : (x1 : Int32) = 5
  · have h := if_t c12 h
    refine r_tabIn 127 hk (k := 5) c12 dX9_size_1 (by decide) (by decide) rfl rfl ?_
    refine r_aload_n 128 hk dX9_size_127 rfl 0 rfl rfl ?_
    refine r_get 131 hk dX9_size_128 rfl ff_RX9_16 (mk_9_0 (nx_9 hN (j := 0) (by decide))) (gv_9_2 _ _ _) ?_
    obtain ⟨q13, eq13, lq13, h⟩ := ckp_e h
    refine r_pv1 eq13 ?_
    refine r_get 134 hk dX9_size_131 rfl ff_RX9_274 (mk_8_0 (nx_8 hN lq13)) (gv_8_2 _ _ _) ?_
    refine r_get 137 hk dX9_size_134 rfl ff_RX9_138 (mk_3_0 (nx_pr1 hN (nx_8 hN lq13))) (gv_3_2 _ _ _) ?_
    exact r_iret hk hR dX9_size_137 h
  have h := if_f c12 h
  by_cases c14 : (x1 : Int32) = 6
  · have h := if_t c14 h
    refine r_tabIn 138 hk (k := 6) c14 dX9_size_1 (by decide) (by decide) rfl rfl ?_
    refine r_aload_n 139 hk dX9_size_138 rfl 0 rfl rfl ?_
    refine r_get 142 hk dX9_size_139 rfl ff_RX9_16 (mk_9_0 (nx_9 hN (j := 0) (by decide))) (gv_9_2 _ _ _) ?_
    obtain ⟨q15, eq15, lq15, h⟩ := ckp_e h
    refine r_pv1 eq15 ?_
    refine r_get 145 hk dX9_size_142 rfl ff_RX9_135 (mk_8_0 (nx_8 hN lq15)) (gv_8_3 _ _ _) ?_
    refine r_get 148 hk dX9_size_145 rfl ff_RX9_138 (mk_3_0 (nx_pr2 hN (nx_8 hN lq15))) (gv_3_2 _ _ _) ?_
    exact r_iret hk hR dX9_size_148 h
  have h := if_f c14 h
  by_cases c16 : (x1 : Int32) = 7
  · have h := if_t c16 h
    refine r_tabIn 149 hk (k := 7) c16 dX9_size_1 (by decide) (by decide) rfl rfl ?_
    refine r_aload_n 150 hk dX9_size_149 rfl 0 rfl rfl ?_
    refine r_get 153 hk dX9_size_150 rfl ff_RX9_16 (mk_9_0 (nx_9 hN (j := 0) (by decide))) (gv_9_2 _ _ _) ?_
    obtain ⟨q17, eq17, lq17, h⟩ := ckp_e h
    refine r_pv1 eq17 ?_
    refine r_get 156 hk dX9_size_153 rfl ff_RX9_314 (mk_8_0 (nx_8 hN lq17)) (gv_8_4 _ _ _) ?_
    refine r_get 159 hk dX9_size_156 rfl ff_RX9_138 (mk_3_0 (nx_pr3 hN (nx_8 hN lq17))) (gv_3_2 _ _ _) ?_
    exact r_iret hk hR dX9_size_159 h
  have h := if_f c16 h
  by_cases c18 : (x1 : Int32) = 8
  · have h := if_t c18 h
    refine r_tabIn 160 hk (k := 8) c18 dX9_size_1 (by decide) (by decide) rfl rfl ?_
    refine r_aload_n 161 hk dX9_size_160 rfl 0 rfl rfl ?_
    refine r_get 164 hk dX9_size_161 rfl ff_RX9_42 (mk_9_0 (nx_9 hN (j := 0) (by decide))) (gv_9_6 _ _ _) ?_
    refine r_get 167 hk dX9_size_164 rfl ff_RX9_264 (mk_7_0 (nx_7 hN (j := 0) (by decide))) (gv_7_9 _ _ _) ?_
    exact r_iret hk hR dX9_size_167 h
  have h := if_f c18 h
  by_cases c19 : (x1 : Int32) = 9
  · have h := if_t c19 h
    refine r_tabIn 168 hk (k := 9) c19 dX9_size_1 (by decide) (by decide) rfl rfl ?_
    refine r_aload_n 169 hk dX9_size_168 rfl 0 rfl rfl ?_
    refine r_get 172 hk dX9_size_169 rfl ff_RX9_66 (mk_9_0 (nx_9 hN (j := 0) (by decide))) (gv_9_10 _ _ _) ?_
    refine r_get 175 hk dX9_size_172 rfl ff_RX9_341 (mk_2_0 (nx_2 hN (j := 0) (by decide))) (gv_2_2 _ _ _) ?_
    exact r_iret hk hR dX9_size_175 h
  have h := if_f c19 h
  by_cases c20 : (x1 : Int32) = 10
  · have h := if_t c20 h
    refine r_tabIn 176 hk (k := 10) c20 dX9_size_1 (by decide) (by decide) rfl rfl ?_
    refine r_aload_n 177 hk dX9_size_176 rfl 0 rfl rfl ?_
    refine r_get 180 hk dX9_size_177 rfl ff_RX9_129 (mk_9_0 (nx_9 hN (j := 0) (by decide))) (gv_9_12 _ _ _) ?_
    exact r_iret hk hR dX9_size_180 h
  have h := if_f c20 h
  by_cases c21 : (x1 : Int32) = 11
  · have h := if_t c21 h
    refine r_tabIn 181 hk (k := 11) c21 dX9_size_1 (by decide) (by decide) rfl rfl ?_
    refine r_aload_n 182 hk dX9_size_181 rfl 0 rfl rfl ?_
    refine r_get 185 hk dX9_size_182 rfl ff_RX9_79 (mk_9_0 (nx_9 hN (j := 0) (by decide))) (gv_9_1 _ _ _) ?_
    exact r_iret hk hR dX9_size_185 h
  have h := if_f c21 h
  have nc1 := lv_neT c1 (k := 0) (a := 0) rfl
  have nc3 := lv_neT c3 (k := 1) (a := 1) rfl
  have nc5 := lv_neT c5 (k := 2) (a := 2) rfl
  have nc8 := lv_neT c8 (k := 3) (a := 3) rfl
  have nc10 := lv_neT c10 (k := 4) (a := 4) rfl
  have nc12 := lv_neT c12 (k := 5) (a := 5) rfl
  have nc14 := lv_neT c14 (k := 6) (a := 6) rfl
  have nc16 := lv_neT c16 (k := 7) (a := 7) rfl
  have nc18 := lv_neT c18 (k := 8) (a := 8) rfl
  have nc19 := lv_neT c19 (k := 9) (a := 9) rfl
  have nc20 := lv_neT c20 (k := 10) (a := 10) rfl
  have nc21 := lv_neT c21 (k := 11) (a := 11) rfl
  refine r_tabOut 186 hk dX9_size_1 (by omega) rfl ?_
  refine r_iconst 187 hk dX9_size_186 rfl ci_m1 ?_
  exact r_iret hk hR dX9_size_187 h
def fX9_trouble (w : Wd) : Option (Int32 × Wd) :=
  some (((w 9 0).1 13), w)
set_option maxRecDepth 100000 in
set_option maxHeartbeats 4000000 in
theorem kX9_trouble {l : Launch} {G : Gx} {al : Al} {w : Wd} {r : Int32} {wz : Wd} (hN : NX G) (h : fX9_trouble w = some (r, wz)) : MC l G yX9_trouble cX9_trouble 1 (some (.int)) 0 0 al w [.ref (al 9 0 0)] (some (.int r)) wz := by
  refine mc_of [(0, .ref (al 9 0 0))] (by decide) (Nat.le_of_ble_eq_true rfl) rfl ?_
  intro K hk hR hn hl hG
  subst hl; subst hG
  have hk : VH K RX9 cX9_trouble 0 0 := hk
  rw [fX9_trouble.eq_1] at h
  refine r_aload_n 1 hk dX9_trouble_0 rfl 0 rfl rfl ?_
  refine r_get 4 hk dX9_trouble_1 rfl ff_RX9_152 (mk_9_0 (nx_9 hN (j := 0) (by decide))) (gv_9_13 _ _ _) ?_
  exact r_iret hk hR dX9_trouble_4 h
