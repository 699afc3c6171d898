def fX11_read (nd : Nat) (w : Wd) (x1 : Int32) : Option (Int32 × Wd) :=
  lw (sI w 11 0 0 (0)) fun w1 =>
  ob (fX11_isTrack nd w1 (x1)) fun r2 w3 =>
  if (r2 : Int32) = 0 then
    ob (fX11_refused nd w3 (1)) fun r16 w17 =>
    some (r16, w17)
  else
    ob (fX11_isDown nd w3 ) fun r5 w6 =>
    if (r5 : Int32) = 0 then
      ob (fX11_works nd w6 ) fun _ w9 =>
      ob (fX11_readOf nd w9 (x1)) fun r10 w11 =>
      ob (fX11_good nd w11 (r10)) fun r12 w13 =>
      some (r12, w13)
    else
      ob (fX11_refused nd w6 (5)) fun r14 w15 =>
      some (r14, w15)
set_option maxRecDepth 100000 in
set_option maxHeartbeats 4000000 in
theorem kX11_read {l : Launch} {G : Gx} {al : Al} {w : Wd} {x1 : Int32} {r : Int32} {wz : Wd} (hN : NX G) (h : fX11_read (gN G 10) w x1 = some (r, wz)) : MC l G yX11_read cX11_read 2 (some (.int)) 2 44 al w [.ref (al 11 0 0), .int x1] (some (.int r)) wz := by
  refine mc_of [(0, .ref (al 11 0 0)), (1, .int x1)] (by decide) (Nat.le_of_ble_eq_true rfl) rfl ?_
  intro K hk hR hn hl hG
  subst hl; subst hG
  have hk : VH K RX11 cX11_read 2 44 := hk
  rw [fX11_read.eq_1] at h
  refine r_aload_n 1 hk dX11_read_0 rfl 0 rfl rfl ?_
  refine r_iconst 2 hk dX11_read_1 rfl ci_0 ?_
  obtain ⟨w1, ew1, h⟩ := lw_e h
  refine r_putI 5 w1 hk dX11_read_2 rfl ff_RX11_45 fi_11_0 (mk_11_0 (nx_11 hN (j := 0) (by decide))) ew1 ?_
  refine r_aload_n 6 hk dX11_read_5 rfl 0 rfl rfl ?_
  refine r_iload_n 7 hk dX11_read_6 rfl 1 rfl rfl ?_
  obtain ⟨r2, w3, ew3, h⟩ := ob_e h
  refine r_cVi 10 (As := [.int x1]) (rest := []) hk (kX11_isTrack hN ew3) cf_RX11_346 mi_X11_isTrack ⟨TX11, 36, rfl⟩ dX11_read_7 rfl (Nat.le_of_ble_eq_true rfl) (Nat.le_of_ble_eq_true rfl) (mk_11_0 (nx_11 hN (j := 0) (by decide))) rfl rfl (Nat.le_of_ble_eq_true rfl) ?_
  refine r_if_ne 19 13 hk dX11_read_10 rfl rfl (fun c4 => ?_) (fun c4 => ?_)
  · have h := if_f c4 h
    refine r_aload_n 20 hk dX11_read_19 rfl 0 rfl rfl ?_
    obtain ⟨r5, w6, ew6, h⟩ := ob_e h
    refine r_cVi 23 (As := []) (rest := []) hk (kX11_isDown hN ew6) cf_RX11_349 mi_X11_isDown ⟨TX11, 36, rfl⟩ dX11_read_20 rfl (Nat.le_of_ble_eq_true rfl) (Nat.le_of_ble_eq_true rfl) (mk_11_0 (nx_11 hN (j := 0) (by decide))) rfl rfl (Nat.le_of_ble_eq_true rfl) ?_
    refine r_if_eq 32 26 hk dX11_read_23 rfl rfl (fun c7 => ?_) (fun c7 => ?_)
    · have h := if_t c7 h
      refine r_aload_n 33 hk dX11_read_32 rfl 0 rfl rfl ?_
      obtain ⟨r8, w9, ew9, h⟩ := ob_e h
      refine r_cVv 36 (As := []) (rest := []) hk (kX11_works hN ew9) cf_RX11_352 mi_X11_works ⟨TX11, 36, rfl⟩ dX11_read_33 rfl (Nat.le_of_ble_eq_true rfl) (Nat.le_of_ble_eq_true rfl) (mk_11_0 (nx_11 hN (j := 0) (by decide))) rfl rfl (Nat.le_of_ble_eq_true rfl) ?_
      refine r_aload_n 37 hk dX11_read_36 rfl 0 rfl rfl ?_
      refine r_aload_n 38 hk dX11_read_37 rfl 0 rfl rfl ?_
      refine r_iload_n 39 hk dX11_read_38 rfl 1 rfl rfl ?_
      obtain ⟨r10, w11, ew11, h⟩ := ob_e h
      refine r_cVi 42 (As := [.int x1]) (rest := [.ref (al 11 0 0)]) hk (kX11_readOf hN ew11) cf_RX11_316 mi_X11_readOf ⟨TX11, 36, rfl⟩ dX11_read_39 rfl (Nat.le_of_ble_eq_true rfl) (Nat.le_of_ble_eq_true rfl) (mk_11_0 (nx_11 hN (j := 0) (by decide))) rfl rfl (Nat.le_of_ble_eq_true rfl) ?_
      obtain ⟨r12, w13, ew13, h⟩ := ob_e h
      refine r_cVi 45 (As := [.int r10]) (rest := []) hk (kX11_good hN ew13) cf_RX11_55 mi_X11_good ⟨TX11, 36, rfl⟩ dX11_read_42 rfl (Nat.le_of_ble_eq_true rfl) (Nat.le_of_ble_eq_true rfl) (mk_11_0 (nx_11 hN (j := 0) (by decide))) rfl rfl (Nat.le_of_ble_eq_true rfl) ?_
      exact r_iret hk hR dX11_read_45 h
    · have h := if_f c7 h
      refine r_aload_n 27 hk dX11_read_26 rfl 0 rfl rfl ?_
      refine r_iconst 28 hk dX11_read_27 rfl ci_5 ?_
      obtain ⟨r14, w15, ew15, h⟩ := ob_e h
      refine r_cVi 31 (As := [.int 5]) (rest := []) hk (kX11_refused hN ew15) cf_RX11_51 mi_X11_refused ⟨TX11, 36, rfl⟩ dX11_read_28 rfl (Nat.le_of_ble_eq_true rfl) (Nat.le_of_ble_eq_true rfl) (mk_11_0 (nx_11 hN (j := 0) (by decide))) rfl rfl (Nat.le_of_ble_eq_true rfl) ?_
      exact r_iret hk hR dX11_read_31 h
  · have h := if_t c4 h
    refine r_aload_n 14 hk dX11_read_13 rfl 0 rfl rfl ?_
    refine r_iconst 15 hk dX11_read_14 rfl ci_1 ?_
    obtain ⟨r16, w17, ew17, h⟩ := ob_e h
    refine r_cVi 18 (As := [.int 1]) (rest := []) hk (kX11_refused hN ew17) cf_RX11_51 mi_X11_refused ⟨TX11, 36, rfl⟩ dX11_read_15 rfl (Nat.le_of_ble_eq_true rfl) (Nat.le_of_ble_eq_true rfl) (mk_11_0 (nx_11 hN (j := 0) (by decide))) rfl rfl (Nat.le_of_ble_eq_true rfl) ?_
    exact r_iret hk hR dX11_read_18 h
def fX11_track (nd : Nat) (w : Wd) (x1 : Int32) : Option (Int32 × Wd) :=
  lw (sI w 11 0 0 (0)) fun w1 =>
  ob (fX11_isTrack nd w1 (x1)) fun r2 w3 =>
  if (r2 : Int32) = 0 then
    ob (fX11_refused nd w3 (1)) fun r8 w9 =>
    some (r8, w9)
  else
    ck (inb (x1) 110) <|
    ob (fX11_good nd w3 (((w3 11 0).2.1 15 (x1 : Int32).toNatClampNeg))) fun r6 w7 =>
    some (r6, w7)
set_option maxRecDepth 100000 in
set_option maxHeartbeats 4000000 in
theorem kX11_track {l : Launch} {G : Gx} {al : Al} {w : Wd} {x1 : Int32} {r : Int32} {wz : Wd} (hN : NX G) (h : fX11_track (gN G 10) w x1 = some (r, wz)) : MC l G yX11_track cX11_track 2 (some (.int)) 1 21 al w [.ref (al 11 0 0), .int x1] (some (.int r)) wz := by
  refine mc_of [(0, .ref (al 11 0 0)), (1, .int x1)] (by decide) (Nat.le_of_ble_eq_true rfl) rfl ?_
  intro K hk hR hn hl hG
  subst hl; subst hG
  have hk : VH K RX11 cX11_track 1 21 := hk
  rw [fX11_track.eq_1] at h
  refine r_aload_n 1 hk dX11_track_0 rfl 0 rfl rfl ?_
  refine r_iconst 2 hk dX11_track_1 rfl ci_0 ?_
  obtain ⟨w1, ew1, h⟩ := lw_e h
  refine r_putI 5 w1 hk dX11_track_2 rfl ff_RX11_45 fi_11_0 (mk_11_0 (nx_11 hN (j := 0) (by decide))) ew1 ?_
  refine r_aload_n 6 hk dX11_track_5 rfl 0 rfl rfl ?_
  refine r_iload_n 7 hk dX11_track_6 rfl 1 rfl rfl ?_
  obtain ⟨r2, w3, ew3, h⟩ := ob_e h
  refine r_cVi 10 (As := [.int x1]) (rest := []) hk (kX11_isTrack hN ew3) cf_RX11_346 mi_X11_isTrack ⟨TX11, 36, rfl⟩ dX11_track_7 rfl (Nat.le_of_ble_eq_true rfl) (Nat.le_of_ble_eq_true rfl) (mk_11_0 (nx_11 hN (j := 0) (by decide))) rfl rfl (Nat.le_of_ble_eq_true rfl) ?_
  refine r_if_ne 19 13 hk dX11_track_10 rfl rfl (fun c4 => ?_) (fun c4 => ?_)
  · have h := if_f c4 h
    refine r_aload_n 20 hk dX11_track_19 rfl 0 rfl rfl ?_
    refine r_aload_n 21 hk dX11_track_20 rfl 0 rfl rfl ?_
    refine r_get 24 hk dX11_track_21 rfl ff_RX11_17 (mk_11_0 (nx_11 hN (j := 0) (by decide))) (gv_11_15 _ _ _) ?_
    refine r_iload_n 25 hk dX11_track_24 rfl 1 rfl rfl ?_
    obtain ⟨b5, h⟩ := ck_e h
    refine r_iald 26 hk dX11_track_25 rfl rfl (mk_11_16 (nx_11 hN (j := 0) (by decide))) rfl b5 ?_
    obtain ⟨r6, w7, ew7, h⟩ := ob_e h
    refine r_cVi 29 (As := [.int (((w3 11 0).2.1 15 (x1 : Int32).toNatClampNeg))]) (rest := []) hk (kX11_good hN ew7) cf_RX11_55 mi_X11_good ⟨TX11, 36, rfl⟩ dX11_track_26 rfl (Nat.le_of_ble_eq_true rfl) (Nat.le_of_ble_eq_true rfl) (mk_11_0 (nx_11 hN (j := 0) (by decide))) rfl rfl (Nat.le_of_ble_eq_true rfl) ?_
    exact r_iret hk hR dX11_track_29 h
  · have h := if_t c4 h
    refine r_aload_n 14 hk dX11_track_13 rfl 0 rfl rfl ?_
    refine r_iconst 15 hk dX11_track_14 rfl ci_1 ?_
    obtain ⟨r8, w9, ew9, h⟩ := ob_e h
    refine r_cVi 18 (As := [.int 1]) (rest := []) hk (kX11_refused hN ew9) cf_RX11_51 mi_X11_refused ⟨TX11, 36, rfl⟩ dX11_track_15 rfl (Nat.le_of_ble_eq_true rfl) (Nat.le_of_ble_eq_true rfl) (mk_11_0 (nx_11 hN (j := 0) (by decide))) rfl rfl (Nat.le_of_ble_eq_true rfl) ?_
    exact r_iret hk hR dX11_track_18 h
def fX11_bandOf (nd : Nat) (w : Wd) (x1 : Int32) : Option (Int32 × Wd) :=
  lw (sI w 11 0 0 (0)) fun w1 =>
  ob (fX11_isTrack nd w1 (x1)) fun r2 w3 =>
  if (r2 : Int32) = 0 then
    ob (fX11_refused nd w3 (1)) fun r11 w12 =>
    some (r11, w12)
  else
    ob (fX11_works nd w3 ) fun _ w6 =>
    ob (fX11_bandAt nd w6 (x1)) fun r7 w8 =>
    ob (fX11_good nd w8 (r7)) fun r9 w10 =>
    some (r9, w10)
set_option maxRecDepth 100000 in
set_option maxHeartbeats 4000000 in
theorem kX11_bandOf {l : Launch} {G : Gx} {al : Al} {w : Wd} {x1 : Int32} {r : Int32} {wz : Wd} (hN : NX G) (h : fX11_bandOf (gN G 10) w x1 = some (r, wz)) : MC l G yX11_bandOf cX11_bandOf 2 (some (.int)) 2 43 al w [.ref (al 11 0 0), .int x1] (some (.int r)) wz := by
  refine mc_of [(0, .ref (al 11 0 0)), (1, .int x1)] (by decide) (Nat.le_of_ble_eq_true rfl) rfl ?_
  intro K hk hR hn hl hG
  subst hl; subst hG
  have hk : VH K RX11 cX11_bandOf 2 43 := hk
  rw [fX11_bandOf.eq_1] at h
  refine r_aload_n 1 hk dX11_bandOf_0 rfl 0 rfl rfl ?_
  refine r_iconst 2 hk dX11_bandOf_1 rfl ci_0 ?_
  obtain ⟨w1, ew1, h⟩ := lw_e h
  refine r_putI 5 w1 hk dX11_bandOf_2 rfl ff_RX11_45 fi_11_0 (mk_11_0 (nx_11 hN (j := 0) (by decide))) ew1 ?_
  refine r_aload_n 6 hk dX11_bandOf_5 rfl 0 rfl rfl ?_
  refine r_iload_n 7 hk dX11_bandOf_6 rfl 1 rfl rfl ?_
  obtain ⟨r2, w3, ew3, h⟩ := ob_e h
  refine r_cVi 10 (As := [.int x1]) (rest := []) hk (kX11_isTrack hN ew3) cf_RX11_346 mi_X11_isTrack ⟨TX11, 36, rfl⟩ dX11_bandOf_7 rfl (Nat.le_of_ble_eq_true rfl) (Nat.le_of_ble_eq_true rfl) (mk_11_0 (nx_11 hN (j := 0) (by decide))) rfl rfl (Nat.le_of_ble_eq_true rfl) ?_
  refine r_if_ne 19 13 hk dX11_bandOf_10 rfl rfl (fun c4 => ?_) (fun c4 => ?_)
  · have h := if_f c4 h
    refine r_aload_n 20 hk dX11_bandOf_19 rfl 0 rfl rfl ?_
    obtain ⟨r5, w6, ew6, h⟩ := ob_e h
    refine r_cVv 23 (As := []) (rest := []) hk (kX11_works hN ew6) cf_RX11_352 mi_X11_works ⟨TX11, 36, rfl⟩ dX11_bandOf_20 rfl (Nat.le_of_ble_eq_true rfl) (Nat.le_of_ble_eq_true rfl) (mk_11_0 (nx_11 hN (j := 0) (by decide))) rfl rfl (Nat.le_of_ble_eq_true rfl) ?_
    refine r_aload_n 24 hk dX11_bandOf_23 rfl 0 rfl rfl ?_
    refine r_aload_n 25 hk dX11_bandOf_24 rfl 0 rfl rfl ?_
    refine r_iload_n 26 hk dX11_bandOf_25 rfl 1 rfl rfl ?_
    obtain ⟨r7, w8, ew8, h⟩ := ob_e h
    refine r_cVi 29 (As := [.int x1]) (rest := [.ref (al 11 0 0)]) hk (kX11_bandAt hN ew8) cf_RX11_294 mi_X11_bandAt ⟨TX11, 36, rfl⟩ dX11_bandOf_26 rfl (Nat.le_of_ble_eq_true rfl) (Nat.le_of_ble_eq_true rfl) (mk_11_0 (nx_11 hN (j := 0) (by decide))) rfl rfl (Nat.le_of_ble_eq_true rfl) ?_
    obtain ⟨r9, w10, ew10, h⟩ := ob_e h
    refine r_cVi 32 (As := [.int r7]) (rest := []) hk (kX11_good hN ew10) cf_RX11_55 mi_X11_good ⟨TX11, 36, rfl⟩ dX11_bandOf_29 rfl (Nat.le_of_ble_eq_true rfl) (Nat.le_of_ble_eq_true rfl) (mk_11_0 (nx_11 hN (j := 0) (by decide))) rfl rfl (Nat.le_of_ble_eq_true rfl) ?_
    exact r_iret hk hR dX11_bandOf_32 h
  · have h := if_t c4 h
    refine r_aload_n 14 hk dX11_bandOf_13 rfl 0 rfl rfl ?_
    refine r_iconst 15 hk dX11_bandOf_14 rfl ci_1 ?_
    obtain ⟨r11, w12, ew12, h⟩ := ob_e h
    refine r_cVi 18 (As := [.int 1]) (rest := []) hk (kX11_refused hN ew12) cf_RX11_51 mi_X11_refused ⟨TX11, 36, rfl⟩ dX11_bandOf_15 rfl (Nat.le_of_ble_eq_true rfl) (Nat.le_of_ble_eq_true rfl) (mk_11_0 (nx_11 hN (j := 0) (by decide))) rfl rfl (Nat.le_of_ble_eq_true rfl) ?_
    exact r_iret hk hR dX11_bandOf_18 h
def fX11_band (nd : Nat) (w : Wd) (x1 : Int32) (x2 : Int32) : Option (Int32 × Wd) :=
  lw (sI w 11 0 0 (0)) fun w1 =>
  ob (fX11_isBand nd w1 (x1)) fun r2 w3 =>
  if (r2 : Int32) = 0 then
    ob (fX11_refused nd w3 (1)) fun r5 w6 =>
    some (r5, w6)
  else
    ob (fX11_in nd w3 (x2) (0) (4)) fun r7 w8 =>
    if (r7 : Int32) = 0 then
      ob (fX11_refused nd w8 (1)) fun r34 w35 =>
      some (r34, w35)
    else
      ob (fX11_works nd w8 ) fun _ w11 =>
      if (x2 : Int32) = 0 then
        ck (inb (x1) 24) <|
        ob (fX11_good nd w11 (((w11 11 0).2.1 22 (x1 : Int32).toNatClampNeg))) fun r14 w15 =>
        some (r14, w15)
      else
      if (x2 : Int32) = 1 then
        ck (inb (x1) 24) <|
        ob (fX11_good nd w11 (((w11 11 0).2.1 21 (x1 : Int32).toNatClampNeg))) fun r18 w19 =>
        some (r18, w19)
      else
      if (x2 : Int32) = 2 then
        ob (fX11_entriesOf nd w11 (x1) (0)) fun r21 w22 =>
        ob (fX11_good nd w22 (r21)) fun r23 w24 =>
        some (r23, w24)
      else
      if (x2 : Int32) = 3 then
        ob (fX11_entriesOf nd w11 (x1) (1)) fun r26 w27 =>
        ob (fX11_good nd w27 (r26)) fun r28 w29 =>
        some (r28, w29)
      else
      ob (fX11_damagedIn nd w11 (x1)) fun r30 w31 =>
      ob (fX11_good nd w31 (r30)) fun r32 w33 =>
      some (r32, w33)
set_option maxRecDepth 100000 in
set_option maxHeartbeats 4000000 in
theorem kX11_band {l : Launch} {G : Gx} {al : Al} {w : Wd} {x1 : Int32} {x2 : Int32} {r : Int32} {wz : Wd} (hN : NX G) (h : fX11_band (gN G 10) w x1 x2 = some (r, wz)) : MC l G yX11_band cX11_band 3 (some (.int)) 2 46 al w [.ref (al 11 0 0), .int x1, .int x2] (some (.int r)) wz := by
  refine mc_of [(0, .ref (al 11 0 0)), (1, .int x1), (2, .int x2)] (by decide) (Nat.le_of_ble_eq_true rfl) rfl ?_
  intro K hk hR hn hl hG
  subst hl; subst hG
  have hk : VH K RX11 cX11_band 2 46 := hk
  rw [fX11_band.eq_1] at h
  refine r_aload_n 1 hk dX11_band_0 rfl 0 rfl rfl ?_
  refine r_iconst 2 hk dX11_band_1 rfl ci_0 ?_
  obtain ⟨w1, ew1, h⟩ := lw_e h
  refine r_putI 5 w1 hk dX11_band_2 rfl ff_RX11_45 fi_11_0 (mk_11_0 (nx_11 hN (j := 0) (by decide))) ew1 ?_
  refine r_aload_n 6 hk dX11_band_5 rfl 0 rfl rfl ?_
  refine r_iload_n 7 hk dX11_band_6 rfl 1 rfl rfl ?_
  obtain ⟨r2, w3, ew3, h⟩ := ob_e h
  refine r_cVi 10 (As := [.int x1]) (rest := []) hk (kX11_isBand hN ew3) cf_RX11_355 mi_X11_isBand ⟨TX11, 36, rfl⟩ dX11_band_7 rfl (Nat.le_of_ble_eq_true rfl) (Nat.le_of_ble_eq_true rfl) (mk_11_0 (nx_11 hN (j := 0) (by decide))) rfl rfl (Nat.le_of_ble_eq_true rfl) ?_
  refine r_if_eq 22 13 hk dX11_band_10 rfl rfl (fun c4 => ?_) (fun c4 => ?_)
  · have h := if_t c4 h
    refine r_aload_n 23 hk dX11_band_22 rfl 0 rfl rfl ?_
    refine r_iconst 24 hk dX11_band_23 rfl ci_1 ?_
    obtain ⟨r5, w6, ew6, h⟩ := ob_e h
    refine r_cVi 27 (As := [.int 1]) (rest := []) hk (kX11_refused hN ew6) cf_RX11_51 mi_X11_refused ⟨TX11, 36, rfl⟩ dX11_band_24 rfl (Nat.le_of_ble_eq_true rfl) (Nat.le_of_ble_eq_true rfl) (mk_11_0 (nx_11 hN (j := 0) (by decide))) rfl rfl (Nat.le_of_ble_eq_true rfl) ?_
    exact r_iret hk hR dX11_band_27 h
  · have h := if_f c4 h
    refine r_iload_n 14 hk dX11_band_13 rfl 2 rfl rfl ?_
    refine r_iconst 15 hk dX11_band_14 rfl ci_0 ?_
    refine r_iconst 16 hk dX11_band_15 rfl ci_4 ?_
    obtain ⟨r7, w8, ew8, h⟩ := ob_e h
    refine r_cSi 19 (As := [.int x2, .int 0, .int 4]) (rest := []) hk (kX11_in hN ew8) cf_RX11_124 ms_X11_in dX11_band_16 rfl (Nat.le_of_ble_eq_true rfl) (Nat.le_of_ble_eq_true rfl) rfl rfl (Nat.le_of_ble_eq_true rfl) ?_
    refine r_if_ne 28 22 hk dX11_band_19 rfl rfl (fun c9 => ?_) (fun c9 => ?_)
    · have h := if_f c9 h
      refine r_aload_n 29 hk dX11_band_28 rfl 0 rfl rfl ?_
      obtain ⟨r10, w11, ew11, h⟩ := ob_e h
      refine r_cVv 32 (As := []) (rest := []) hk (kX11_works hN ew11) cf_RX11_352 mi_X11_works ⟨TX11, 36, rfl⟩ dX11_band_29 rfl (Nat.le_of_ble_eq_true rfl) (Nat.le_of_ble_eq_true rfl) (mk_11_0 (nx_11 hN (j := 0) (by decide))) rfl rfl (Nat.le_of_ble_eq_true rfl) ?_
      refine r_iload_n 33 hk dX11_band_32 rfl 2 rfl rfl ?_
      by_cases c12 : (x2 : Int32) = 0
      · have h := if_t c12 h
        refine r_tabIn 64 hk (k := 0) c12 dX11_band_33 (by decide) (by decide) rfl rfl ?_
        refine r_aload_n 65 hk dX11_band_64 rfl 0 rfl rfl ?_
        refine r_aload_n 66 hk dX11_band_65 rfl 0 rfl rfl ?_
        refine r_get 69 hk dX11_band_66 rfl ff_RX11_33 (mk_11_0 (nx_11 hN (j := 0) (by decide))) (gv_11_22 _ _ _) ?_
        refine r_iload_n 70 hk dX11_band_69 rfl 1 rfl rfl ?_
        obtain ⟨b13, h⟩ := ck_e h
        refine r_iald 71 hk dX11_band_70 rfl rfl (mk_11_23 (nx_11 hN (j := 0) (by decide))) rfl b13 ?_
        obtain ⟨r14, w15, ew15, h⟩ := ob_e h
        refine r_cVi 74 (As := [.int (((w11 11 0).2.1 22 (x1 : Int32).toNatClampNeg))]) (rest := []) hk (kX11_good hN ew15) cf_RX11_55 mi_X11_good ⟨TX11, 36, rfl⟩ dX11_band_71 rfl (Nat.le_of_ble_eq_true rfl) (Nat.le_of_ble_eq_true rfl) (mk_11_0 (nx_11 hN (j := 0) (by decide))) rfl rfl (Nat.le_of_ble_eq_true rfl) ?_
        exact r_iret hk hR dX11_band_74 h
      have h := if_f c12 h
      by_cases c16 : (x2 : Int32) = 1
      · have h := if_t c16 h
        refine r_tabIn 75 hk (k := 1) c16 dX11_band_33 (by decide) (by decide) rfl rfl ?_
        refine r_aload_n 76 hk dX11_band_75 rfl 0 rfl rfl ?_
        refine r_aload_n 77 hk dX11_band_76 rfl 0 rfl rfl ?_
        refine r_get 80 hk dX11_band_77 rfl ff_RX11_30 (mk_11_0 (nx_11 hN (j := 0) (by decide))) (gv_11_21 _ _ _) ?_
        refine r_iload_n 81 hk dX11_band_80 rfl 1 rfl rfl ?_
        obtain ⟨b17, h⟩ := ck_e h
        refine r_iald 82 hk dX11_band_81 rfl rfl (mk_11_22 (nx_11 hN (j := 0) (by decide))) rfl b17 ?_
        obtain ⟨r18, w19, ew19, h⟩ := ob_e h
        refine r_cVi 85 (As := [.int (((w11 11 0).2.1 21 (x1 : Int32).toNatClampNeg))]) (rest := []) hk (kX11_good hN ew19) cf_RX11_55 mi_X11_good ⟨TX11, 36, rfl⟩ dX11_band_82 rfl (Nat.le_of_ble_eq_true rfl) (Nat.le_of_ble_eq_true rfl) (mk_11_0 (nx_11 hN (j := 0) (by decide))) rfl rfl (Nat.le_of_ble_eq_true rfl) ?_
        exact r_iret hk hR dX11_band_85 h
      have h := if_f c16 h
      by_cases c20 : (x2 : Int32) = 2
      · have h := if_t c20 h
        refine r_tabIn 86 hk (k := 2) c20 dX11_band_33 (by decide) (by decide) rfl rfl ?_
        refine r_aload_n 87 hk dX11_band_86 rfl 0 rfl rfl ?_
        refine r_aload_n 88 hk dX11_band_87 rfl 0 rfl rfl ?_
        refine r_iload_n 89 hk dX11_band_88 rfl 1 rfl rfl ?_
        refine r_iconst 90 hk dX11_band_89 rfl ci_0 ?_
        obtain ⟨r21, w22, ew22, h⟩ := ob_e h
        refine r_cVi 93 (As := [.int x1, .int 0]) (rest := [.ref (al 11 0 0)]) hk (kX11_entriesOf hN ew22) cf_RX11_299 mi_X11_entriesOf ⟨TX11, 36, rfl⟩ dX11_band_90 rfl (Nat.le_of_ble_eq_true rfl) (Nat.le_of_ble_eq_true rfl) (mk_11_0 (nx_11 hN (j := 0) (by decide))) rfl rfl (Nat.le_of_ble_eq_true rfl) ?_
        obtain ⟨r23, w24, ew24, h⟩ := ob_e h
        refine r_cVi 96 (As := [.int r21]) (rest := []) hk (kX11_good hN ew24) cf_RX11_55 mi_X11_good ⟨TX11, 36, rfl⟩ dX11_band_93 rfl (Nat.le_of_ble_eq_true rfl) (Nat.le_of_ble_eq_true rfl) (mk_11_0 (nx_11 hN (j := 0) (by decide))) rfl rfl (Nat.le_of_ble_eq_true rfl) ?_
        exact r_iret hk hR dX11_band_96 h
      have h := if_f c20 h
      by_cases c25 : (x2 : Int32) = 3
      · have h := if_t c25 h
        refine r_tabIn 97 hk (k := 3) c25 dX11_band_33 (by decide) (by decide) rfl rfl ?_
        refine r_aload_n 98 hk dX11_band_97 rfl 0 rfl rfl ?_
        refine r_aload_n 99 hk dX11_band_98 rfl 0 rfl rfl ?_
        refine r_iload_n 100 hk dX11_band_99 rfl 1 rfl rfl ?_
        refine r_iconst 101 hk dX11_band_100 rfl ci_1 ?_
        obtain ⟨r26, w27, ew27, h⟩ := ob_e h
        refine r_cVi 104 (As := [.int x1, .int 1]) (rest := [.ref (al 11 0 0)]) hk (kX11_entriesOf hN ew27) cf_RX11_299 mi_X11_entriesOf ⟨TX11, 36, rfl⟩ dX11_band_101 rfl (Nat.le_of_ble_eq_true rfl) (Nat.le_of_ble_eq_true rfl) (mk_11_0 (nx_11 hN (j := 0) (by decide))) rfl rfl (Nat.le_of_ble_eq_true rfl) ?_
        obtain ⟨r28, w29, ew29, h⟩ := ob_e h
        refine r_cVi 107 (As := [.int r26]) (rest := []) hk (kX11_good hN ew29) cf_RX11_55 mi_X11_good ⟨TX11, 36, rfl⟩ dX11_band_104 rfl (Nat.le_of_ble_eq_true rfl) (Nat.le_of_ble_eq_true rfl) (mk_11_0 (nx_11 hN (j := 0) (by decide))) rfl rfl (Nat.le_of_ble_eq_true rfl) ?_
        exact r_iret hk hR dX11_band_107 h
      have h := if_f c25 h
      have nc12 := lv_neT c12 (k := 0) (a := 0) rfl
      have nc16 := lv_neT c16 (k := 1) (a := 1) rfl
      have nc20 := lv_neT c20 (k := 2) (a := 2) rfl
      have nc25 := lv_neT c25 (k := 3) (a := 3) rfl
      refine r_tabOut 108 hk dX11_band_33 (by omega) rfl ?_
      refine r_aload_n 109 hk dX11_band_108 rfl 0 rfl rfl ?_
      refine r_aload_n 110 hk dX11_band_109 rfl 0 rfl rfl ?_
      refine r_iload_n 111 hk dX11_band_110 rfl 1 rfl rfl ?_
      obtain ⟨r30, w31, ew31, h⟩ := ob_e h
      refine r_cVi 114 (As := [.int x1]) (rest := [.ref (al 11 0 0)]) hk (kX11_damagedIn hN ew31) cf_RX11_334 mi_X11_damagedIn ⟨TX11, 36, rfl⟩ dX11_band_111 rfl (Nat.le_of_ble_eq_true rfl) (Nat.le_of_ble_eq_true rfl) (mk_11_0 (nx_11 hN (j := 0) (by decide))) rfl rfl (Nat.le_of_ble_eq_true rfl) ?_
      obtain ⟨r32, w33, ew33, h⟩ := ob_e h
      refine r_cVi 117 (As := [.int r30]) (rest := []) hk (kX11_good hN ew33) cf_RX11_55 mi_X11_good ⟨TX11, 36, rfl⟩ dX11_band_114 rfl (Nat.le_of_ble_eq_true rfl) (Nat.le_of_ble_eq_true rfl) (mk_11_0 (nx_11 hN (j := 0) (by decide))) rfl rfl (Nat.le_of_ble_eq_true rfl) ?_
      exact r_iret hk hR dX11_band_117 h
    · have h := if_t c9 h
      refine r_aload_n 23 hk dX11_band_22 rfl 0 rfl rfl ?_
      refine r_iconst 24 hk dX11_band_23 rfl ci_1 ?_
      obtain ⟨r34, w35, ew35, h⟩ := ob_e h
      refine r_cVi 27 (As := [.int 1]) (rest := []) hk (kX11_refused hN ew35) cf_RX11_51 mi_X11_refused ⟨TX11, 36, rfl⟩ dX11_band_24 rfl (Nat.le_of_ble_eq_true rfl) (Nat.le_of_ble_eq_true rfl) (mk_11_0 (nx_11 hN (j := 0) (by decide))) rfl rfl (Nat.le_of_ble_eq_true rfl) ?_
      exact r_iret hk hR dX11_band_27 h
def fX11_wide (nd : Nat) (w : Wd) : Option (Int32 × Wd) :=
  lw (sI w 11 0 0 (0)) fun w1 =>
  if (w1 11 0).2.2.1 3 = 0 then
    ob (fX11_refused nd w1 (1)) fun r3 w4 =>
    some (r3, w4)
  else
    ckp ((w1 11 0).2.2.1 3) nd fun q5 =>
    lw ((((w1 10 q5).1 2) - 1)) fun x1_6 =>
    ckp ((w1 11 0).2.2.1 3) nd fun q7 =>
    ckp ((w1 11 0).2.2.1 3) nd fun q8 =>
    ob (fX11_good nd w1 ((((w1 10 q7).1 3) + (x1_6 * ((w1 10 q8).1 0))))) fun r9 w10 =>
    some (r9, w10)
set_option maxRecDepth 100000 in
set_option maxHeartbeats 4000000 in
theorem kX11_wide {l : Launch} {G : Gx} {al : Al} {w : Wd} {r : Int32} {wz : Wd} (hN : NX G) (h : fX11_wide (gN G 10) w = some (r, wz)) : MC l G yX11_wide cX11_wide 2 (some (.int)) 1 21 al w [.ref (al 11 0 0)] (some (.int r)) wz := by
  refine mc_of [(0, .ref (al 11 0 0))] (by decide) (Nat.le_of_ble_eq_true rfl) rfl ?_
  intro K hk hR hn hl hG
  subst hl; subst hG
  have hk : VH K RX11 cX11_wide 1 21 := hk
  rw [fX11_wide.eq_1] at h
  refine r_aload_n 1 hk dX11_wide_0 rfl 0 rfl rfl ?_
  refine r_iconst 2 hk dX11_wide_1 rfl ci_0 ?_
  obtain ⟨w1, ew1, h⟩ := lw_e h
  refine r_putI 5 w1 hk dX11_wide_2 rfl ff_RX11_45 fi_11_0 (mk_11_0 (nx_11 hN (j := 0) (by decide))) ew1 ?_
  refine r_aload_n 6 hk dX11_wide_5 rfl 0 rfl rfl ?_
  refine r_get 9 hk dX11_wide_6 rfl ff_RX11_260 (mk_11_0 (nx_11 hN (j := 0) (by decide))) (gv_11_3 _ _ _) ?_
  by_cases c2 : (w1 11 0).2.2.1 3 = 0
  · have h := if_t c2 h
    refine r_pv0 c2 ?_
    refine r_ifnonnull0 12 hk dX11_wide_9 rfl ?_
    refine r_aload_n 13 hk dX11_wide_12 rfl 0 rfl rfl ?_
    refine r_iconst 14 hk dX11_wide_13 rfl ci_1 ?_
    obtain ⟨r3, w4, ew4, h⟩ := ob_e h
    refine r_cVi 17 (As := [.int 1]) (rest := []) hk (kX11_refused hN ew4) cf_RX11_51 mi_X11_refused ⟨TX11, 36, rfl⟩ dX11_wide_14 rfl (Nat.le_of_ble_eq_true rfl) (Nat.le_of_ble_eq_true rfl) (mk_11_0 (nx_11 hN (j := 0) (by decide))) rfl rfl (Nat.le_of_ble_eq_true rfl) ?_
    exact r_iret hk hR dX11_wide_17 h
  · have h := if_f c2 h
    obtain ⟨q11, eq11⟩ := Nat.exists_eq_succ_of_ne_zero c2
    refine r_pv1 eq11 ?_
    refine r_ifnonnull1 18 hk dX11_wide_9 rfl ?_
    refine r_aload_n 19 hk dX11_wide_18 rfl 0 rfl rfl ?_
    refine r_get 22 hk dX11_wide_19 rfl ff_RX11_260 (mk_11_0 (nx_11 hN (j := 0) (by decide))) (gv_11_3 _ _ _) ?_
    obtain ⟨q5, eq5, lq5, h⟩ := ckp_e h
    refine r_pv1 eq5 ?_
    refine r_get 25 hk dX11_wide_22 rfl ff_RX11_155 (mk_10_0 lq5) (gv_10_2 _ _ _) ?_
    refine r_iconst 26 hk dX11_wide_25 rfl ci_1 ?_
    refine r_isub 27 hk dX11_wide_26 rfl ?_
    obtain ⟨x1_6, ex1_6, h⟩ := lw_e h
    refine r_istore_n 28 [(1, .int x1_6), (0, .ref (al 11 0 0))] hk dX11_wide_27 rfl rfl hn (by decide) ex1_6 rfl ?_
    refine r_aload_n 29 hk dX11_wide_28 rfl 1 rfl rfl ?_
    refine r_aload_n 30 hk dX11_wide_29 rfl 1 rfl rfl ?_
    refine r_get 33 hk dX11_wide_30 rfl ff_RX11_260 (mk_11_0 (nx_11 hN (j := 0) (by decide))) (gv_11_3 _ _ _) ?_
    obtain ⟨q7, eq7, lq7, h⟩ := ckp_e h
    refine r_pv1 eq7 ?_
    refine r_get 36 hk dX11_wide_33 rfl ff_RX11_209 (mk_10_0 lq7) (gv_10_3 _ _ _) ?_
    refine r_iload_n 37 hk dX11_wide_36 rfl 0 rfl rfl ?_
    refine r_aload_n 38 hk dX11_wide_37 rfl 1 rfl rfl ?_
    refine r_get 41 hk dX11_wide_38 rfl ff_RX11_260 (mk_11_0 (nx_11 hN (j := 0) (by decide))) (gv_11_3 _ _ _) ?_
    obtain ⟨q8, eq8, lq8, h⟩ := ckp_e h
    refine r_pv1 eq8 ?_
    refine r_get 44 hk dX11_wide_41 rfl ff_RX11_143 (mk_10_0 lq8) (gv_10_0 _ _ _) ?_
    refine r_imul 45 hk dX11_wide_44 rfl ?_
    refine r_iadd 46 hk dX11_wide_45 rfl ?_
    obtain ⟨r9, w10, ew10, h⟩ := ob_e h
    refine r_cVi 49 (As := [.int ((((w1 10 q7).1 3) + (x1_6 * ((w1 10 q8).1 0))))]) (rest := []) hk (kX11_good hN ew10) cf_RX11_55 mi_X11_good ⟨TX11, 36, rfl⟩ dX11_wide_46 rfl (Nat.le_of_ble_eq_true rfl) (Nat.le_of_ble_eq_true rfl) (mk_11_0 (nx_11 hN (j := 0) (by decide))) rfl rfl (Nat.le_of_ble_eq_true rfl) ?_
    exact r_iret hk hR dX11_wide_49 h
def fX11_down (nd : Nat) (w : Wd) : Option (Int32 × Wd) :=
  lw (sI w 11 0 0 (0)) fun w1 =>
  if (w1 11 0).2.2.1 3 = 0 then
    ob (fX11_refused nd w1 (1)) fun r3 w4 =>
    some (r3, w4)
  else
    ck (inb (97) 110) <|
    ob (fX11_good nd w1 (((w1 11 0).2.1 15 (97 : Int32).toNatClampNeg))) fun r6 w7 =>
    some (r6, w7)
set_option maxRecDepth 100000 in
set_option maxHeartbeats 4000000 in
theorem kX11_down {l : Launch} {G : Gx} {al : Al} {w : Wd} {r : Int32} {wz : Wd} (hN : NX G) (h : fX11_down (gN G 10) w = some (r, wz)) : MC l G yX11_down cX11_down 1 (some (.int)) 1 21 al w [.ref (al 11 0 0)] (some (.int r)) wz := by
  refine mc_of [(0, .ref (al 11 0 0))] (by decide) (Nat.le_of_ble_eq_true rfl) rfl ?_
  intro K hk hR hn hl hG
  subst hl; subst hG
  have hk : VH K RX11 cX11_down 1 21 := hk
  rw [fX11_down.eq_1] at h
  refine r_aload_n 1 hk dX11_down_0 rfl 0 rfl rfl ?_
  refine r_iconst 2 hk dX11_down_1 rfl ci_0 ?_
  obtain ⟨w1, ew1, h⟩ := lw_e h
  refine r_putI 5 w1 hk dX11_down_2 rfl ff_RX11_45 fi_11_0 (mk_11_0 (nx_11 hN (j := 0) (by decide))) ew1 ?_
  refine r_aload_n 6 hk dX11_down_5 rfl 0 rfl rfl ?_
  refine r_get 9 hk dX11_down_6 rfl ff_RX11_260 (mk_11_0 (nx_11 hN (j := 0) (by decide))) (gv_11_3 _ _ _) ?_
  by_cases c2 : (w1 11 0).2.2.1 3 = 0
  · have h := if_t c2 h
    refine r_pv0 c2 ?_
    refine r_ifnonnull0 12 hk dX11_down_9 rfl ?_
    refine r_aload_n 13 hk dX11_down_12 rfl 0 rfl rfl ?_
    refine r_iconst 14 hk dX11_down_13 rfl ci_1 ?_
    obtain ⟨r3, w4, ew4, h⟩ := ob_e h
    refine r_cVi 17 (As := [.int 1]) (rest := []) hk (kX11_refused hN ew4) cf_RX11_51 mi_X11_refused ⟨TX11, 36, rfl⟩ dX11_down_14 rfl (Nat.le_of_ble_eq_true rfl) (Nat.le_of_ble_eq_true rfl) (mk_11_0 (nx_11 hN (j := 0) (by decide))) rfl rfl (Nat.le_of_ble_eq_true rfl) ?_
    exact r_iret hk hR dX11_down_17 h
  · have h := if_f c2 h
    obtain ⟨q8, eq8⟩ := Nat.exists_eq_succ_of_ne_zero c2
    refine r_pv1 eq8 ?_
    refine r_ifnonnull1 18 hk dX11_down_9 rfl ?_
    refine r_aload_n 19 hk dX11_down_18 rfl 0 rfl rfl ?_
    refine r_aload_n 20 hk dX11_down_19 rfl 0 rfl rfl ?_
    refine r_get 23 hk dX11_down_20 rfl ff_RX11_17 (mk_11_0 (nx_11 hN (j := 0) (by decide))) (gv_11_15 _ _ _) ?_
    refine r_bipush 25 hk dX11_down_23 rfl cb_97 ?_
    obtain ⟨b5, h⟩ := ck_e h
    refine r_iald 26 hk dX11_down_25 rfl rfl (mk_11_16 (nx_11 hN (j := 0) (by decide))) rfl b5 ?_
    obtain ⟨r6, w7, ew7, h⟩ := ob_e h
    refine r_cVi 29 (As := [.int (((w1 11 0).2.1 15 (97 : Int32).toNatClampNeg))]) (rest := []) hk (kX11_good hN ew7) cf_RX11_55 mi_X11_good ⟨TX11, 36, rfl⟩ dX11_down_26 rfl (Nat.le_of_ble_eq_true rfl) (Nat.le_of_ble_eq_true rfl) (mk_11_0 (nx_11 hN (j := 0) (by decide))) rfl rfl (Nat.le_of_ble_eq_true rfl) ?_
    exact r_iret hk hR dX11_down_29 h
def fX11_journal (nd : Nat) (w : Wd) : Option (Int32 × Wd) :=
  lw (sI w 11 0 0 (0)) fun w1 =>
  if (w1 11 0).2.2.1 3 = 0 then
    ob (fX11_refused nd w1 (1)) fun r3 w4 =>
    some (r3, w4)
  else
    ck (inb (99) 110) <|
    ob (fX11_good nd w1 (((w1 11 0).2.1 15 (99 : Int32).toNatClampNeg))) fun r6 w7 =>
    some (r6, w7)
set_option maxRecDepth 100000 in
set_option maxHeartbeats 4000000 in
theorem kX11_journal {l : Launch} {G : Gx} {al : Al} {w : Wd} {r : Int32} {wz : Wd} (hN : NX G) (h : fX11_journal (gN G 10) w = some (r, wz)) : MC l G yX11_journal cX11_journal 1 (some (.int)) 1 21 al w [.ref (al 11 0 0)] (some (.int r)) wz := by
  refine mc_of [(0, .ref (al 11 0 0))] (by decide) (Nat.le_of_ble_eq_true rfl) rfl ?_
  intro K hk hR hn hl hG
  subst hl; subst hG
  have hk : VH K RX11 cX11_journal 1 21 := hk
  rw [fX11_journal.eq_1] at h
  refine r_aload_n 1 hk dX11_journal_0 rfl 0 rfl rfl ?_
  refine r_iconst 2 hk dX11_journal_1 rfl ci_0 ?_
  obtain ⟨w1, ew1, h⟩ := lw_e h
  refine r_putI 5 w1 hk dX11_journal_2 rfl ff_RX11_45 fi_11_0 (mk_11_0 (nx_11 hN (j := 0) (by decide))) ew1 ?_
  refine r_aload_n 6 hk dX11_journal_5 rfl 0 rfl rfl ?_
  refine r_get 9 hk dX11_journal_6 rfl ff_RX11_260 (mk_11_0 (nx_11 hN (j := 0) (by decide))) (gv_11_3 _ _ _) ?_
  by_cases c2 : (w1 11 0).2.2.1 3 = 0
  · have h := if_t c2 h
    refine r_pv0 c2 ?_
    refine r_ifnonnull0 12 hk dX11_journal_9 rfl ?_
    refine r_aload_n 13 hk dX11_journal_12 rfl 0 rfl rfl ?_
    refine r_iconst 14 hk dX11_journal_13 rfl ci_1 ?_
    obtain ⟨r3, w4, ew4, h⟩ := ob_e h
    refine r_cVi 17 (As := [.int 1]) (rest := []) hk (kX11_refused hN ew4) cf_RX11_51 mi_X11_refused ⟨TX11, 36, rfl⟩ dX11_journal_14 rfl (Nat.le_of_ble_eq_true rfl) (Nat.le_of_ble_eq_true rfl) (mk_11_0 (nx_11 hN (j := 0) (by decide))) rfl rfl (Nat.le_of_ble_eq_true rfl) ?_
    exact r_iret hk hR dX11_journal_17 h
  · have h := if_f c2 h
    obtain ⟨q8, eq8⟩ := Nat.exists_eq_succ_of_ne_zero c2
    refine r_pv1 eq8 ?_
    refine r_ifnonnull1 18 hk dX11_journal_9 rfl ?_
    refine r_aload_n 19 hk dX11_journal_18 rfl 0 rfl rfl ?_
    refine r_aload_n 20 hk dX11_journal_19 rfl 0 rfl rfl ?_
    refine r_get 23 hk dX11_journal_20 rfl ff_RX11_17 (mk_11_0 (nx_11 hN (j := 0) (by decide))) (gv_11_15 _ _ _) ?_
    refine r_bipush 25 hk dX11_journal_23 rfl cb_99 ?_
    obtain ⟨b5, h⟩ := ck_e h
    refine r_iald 26 hk dX11_journal_25 rfl rfl (mk_11_16 (nx_11 hN (j := 0) (by decide))) rfl b5 ?_
    obtain ⟨r6, w7, ew7, h⟩ := ob_e h
    refine r_cVi 29 (As := [.int (((w1 11 0).2.1 15 (99 : Int32).toNatClampNeg))]) (rest := []) hk (kX11_good hN ew7) cf_RX11_55 mi_X11_good ⟨TX11, 36, rfl⟩ dX11_journal_26 rfl (Nat.le_of_ble_eq_true rfl) (Nat.le_of_ble_eq_true rfl) (mk_11_0 (nx_11 hN (j := 0) (by decide))) rfl rfl (Nat.le_of_ble_eq_true rfl) ?_
    exact r_iret hk hR dX11_journal_29 h
def fX11_isEntry (nd : Nat) (w : Wd) (x1 : Int32) : Option (Int32 × Wd) :=
  if (w 11 0).2.2.1 3 = 0 then
    some (0, w)
  else
    if (x1 : Int32) < 0 then
      some (0, w)
    else
      ck (inb (48) 110) <|
      if (((w 11 0).2.1 15 (48 : Int32).toNatClampNeg) : Int32) ≤ x1 then
        some (0, w)
      else
        some (1, w)
set_option maxRecDepth 100000 in
set_option maxHeartbeats 4000000 in
theorem kX11_isEntry {l : Launch} {G : Gx} {al : Al} {w : Wd} {x1 : Int32} {r : Int32} {wz : Wd} (hN : NX G) (h : fX11_isEntry (gN G 10) w x1 = some (r, wz)) : MC l G yX11_isEntry cX11_isEntry 2 (some (.boolean)) 0 0 al w [.ref (al 11 0 0), .int x1] (some (.int r)) wz := by
  refine mc_of [(0, .ref (al 11 0 0)), (1, .int x1)] (by decide) (Nat.le_of_ble_eq_true rfl) rfl ?_
  intro K hk hR hn hl hG
  subst hl; subst hG
  have hk : VH K RX11 cX11_isEntry 0 0 := hk
  rw [fX11_isEntry.eq_1] at h
  refine r_aload_n 1 hk dX11_isEntry_0 rfl 0 rfl rfl ?_
  refine r_get 4 hk dX11_isEntry_1 rfl ff_RX11_260 (mk_11_0 (nx_11 hN (j := 0) (by decide))) (gv_11_3 _ _ _) ?_
  by_cases c1 : (w 11 0).2.2.1 3 = 0
  · have h := if_t c1 h
    refine r_pv0 c1 ?_
    refine r_ifnull1 26 hk (x := 0) dX11_isEntry_4 rfl ?_
    refine r_iconst 27 hk dX11_isEntry_26 rfl ci_0 ?_
    exact r_zret hk hR dX11_isEntry_27 (by decide) h
  · have h := if_f c1 h
    obtain ⟨q5, eq5⟩ := Nat.exists_eq_succ_of_ne_zero c1
    refine r_pv1 eq5 ?_
    refine r_ifnull0 7 hk dX11_isEntry_4 rfl ?_
    refine r_iload_n 8 hk dX11_isEntry_7 rfl 1 rfl rfl ?_
    refine r_if_lt 26 11 hk dX11_isEntry_8 rfl rfl (fun c2 => ?_) (fun c2 => ?_)
    · have h := if_t c2 h
      refine r_iconst 27 hk dX11_isEntry_26 rfl ci_0 ?_
      exact r_zret hk hR dX11_isEntry_27 (by decide) h
    · have h := if_f c2 h
      refine r_iload_n 12 hk dX11_isEntry_11 rfl 1 rfl rfl ?_
      refine r_aload_n 13 hk dX11_isEntry_12 rfl 0 rfl rfl ?_
      refine r_get 16 hk dX11_isEntry_13 rfl ff_RX11_17 (mk_11_0 (nx_11 hN (j := 0) (by decide))) (gv_11_15 _ _ _) ?_
      refine r_bipush 18 hk dX11_isEntry_16 rfl cb_48 ?_
      obtain ⟨b3, h⟩ := ck_e h
      refine r_iald 19 hk dX11_isEntry_18 rfl rfl (mk_11_16 (nx_11 hN (j := 0) (by decide))) rfl b3 ?_
      refine r_icmp_ge 26 22 hk dX11_isEntry_19 rfl rfl (fun c4 => ?_) (fun c4 => ?_)
      · have h := if_t c4 h
        refine r_iconst 27 hk dX11_isEntry_26 rfl ci_0 ?_
        exact r_zret hk hR dX11_isEntry_27 (by decide) h
      · have h := if_f c4 h
        refine r_iconst 23 hk dX11_isEntry_22 rfl ci_1 ?_
        refine r_goto 27 hk (x := 0) dX11_isEntry_23 rfl ?_
        exact r_zret hk hR dX11_isEntry_27 (by decide) h
def fX11_entries (nd : Nat) (w : Wd) : Option (Int32 × Wd) :=
  lw (sI w 11 0 0 (0)) fun w1 =>
  if (w1 11 0).2.2.1 3 = 0 then
    ob (fX11_refused nd w1 (1)) fun r3 w4 =>
    some (r3, w4)
  else
    ck (inb (48) 110) <|
    ob (fX11_good nd w1 (((w1 11 0).2.1 15 (48 : Int32).toNatClampNeg))) fun r6 w7 =>
    some (r6, w7)
set_option maxRecDepth 100000 in
set_option maxHeartbeats 4000000 in
theorem kX11_entries {l : Launch} {G : Gx} {al : Al} {w : Wd} {r : Int32} {wz : Wd} (hN : NX G) (h : fX11_entries (gN G 10) w = some (r, wz)) : MC l G yX11_entries cX11_entries 1 (some (.int)) 1 21 al w [.ref (al 11 0 0)] (some (.int r)) wz := by
  refine mc_of [(0, .ref (al 11 0 0))] (by decide) (Nat.le_of_ble_eq_true rfl) rfl ?_
  intro K hk hR hn hl hG
  subst hl; subst hG
  have hk : VH K RX11 cX11_entries 1 21 := hk
  rw [fX11_entries.eq_1] at h
  refine r_aload_n 1 hk dX11_entries_0 rfl 0 rfl rfl ?_
  refine r_iconst 2 hk dX11_entries_1 rfl ci_0 ?_
  obtain ⟨w1, ew1, h⟩ := lw_e h
  refine r_putI 5 w1 hk dX11_entries_2 rfl ff_RX11_45 fi_11_0 (mk_11_0 (nx_11 hN (j := 0) (by decide))) ew1 ?_
  refine r_aload_n 6 hk dX11_entries_5 rfl 0 rfl rfl ?_
  refine r_get 9 hk dX11_entries_6 rfl ff_RX11_260 (mk_11_0 (nx_11 hN (j := 0) (by decide))) (gv_11_3 _ _ _) ?_
  by_cases c2 : (w1 11 0).2.2.1 3 = 0
  · have h := if_t c2 h
    refine r_pv0 c2 ?_
    refine r_ifnonnull0 12 hk dX11_entries_9 rfl ?_
    refine r_aload_n 13 hk dX11_entries_12 rfl 0 rfl rfl ?_
    refine r_iconst 14 hk dX11_entries_13 rfl ci_1 ?_
    obtain ⟨r3, w4, ew4, h⟩ := ob_e h
    refine r_cVi 17 (As := [.int 1]) (rest := []) hk (kX11_refused hN ew4) cf_RX11_51 mi_X11_refused ⟨TX11, 36, rfl⟩ dX11_entries_14 rfl (Nat.le_of_ble_eq_true rfl) (Nat.le_of_ble_eq_true rfl) (mk_11_0 (nx_11 hN (j := 0) (by decide))) rfl rfl (Nat.le_of_ble_eq_true rfl) ?_
    exact r_iret hk hR dX11_entries_17 h
  · have h := if_f c2 h
    obtain ⟨q8, eq8⟩ := Nat.exists_eq_succ_of_ne_zero c2
    refine r_pv1 eq8 ?_
    refine r_ifnonnull1 18 hk dX11_entries_9 rfl ?_
    refine r_aload_n 19 hk dX11_entries_18 rfl 0 rfl rfl ?_
    refine r_aload_n 20 hk dX11_entries_19 rfl 0 rfl rfl ?_
    refine r_get 23 hk dX11_entries_20 rfl ff_RX11_17 (mk_11_0 (nx_11 hN (j := 0) (by decide))) (gv_11_15 _ _ _) ?_
    refine r_bipush 25 hk dX11_entries_23 rfl cb_48 ?_
    obtain ⟨b5, h⟩ := ck_e h
    refine r_iald 26 hk dX11_entries_25 rfl rfl (mk_11_16 (nx_11 hN (j := 0) (by decide))) rfl b5 ?_
    obtain ⟨r6, w7, ew7, h⟩ := ob_e h
    refine r_cVi 29 (As := [.int (((w1 11 0).2.1 15 (48 : Int32).toNatClampNeg))]) (rest := []) hk (kX11_good hN ew7) cf_RX11_55 mi_X11_good ⟨TX11, 36, rfl⟩ dX11_entries_26 rfl (Nat.le_of_ble_eq_true rfl) (Nat.le_of_ble_eq_true rfl) (mk_11_0 (nx_11 hN (j := 0) (by decide))) rfl rfl (Nat.le_of_ble_eq_true rfl) ?_
    exact r_iret hk hR dX11_entries_29 h
def fX11_entry (nd : Nat) (w : Wd) (x1 : Int32) (x2 : Int32) : Option (Int32 × Wd) :=
  lw (sI w 11 0 0 (0)) fun w1 =>
  ob (fX11_isEntry nd w1 (x1)) fun r2 w3 =>
  if (r2 : Int32) = 0 then
    ob (fX11_refused nd w3 (1)) fun r5 w6 =>
    some (r5, w6)
  else
    ob (fX11_in nd w3 (x2) (0) (2)) fun r7 w8 =>
    if (r7 : Int32) = 0 then
      ob (fX11_refused nd w8 (1)) fun r27 w28 =>
      some (r27, w28)
    else
      ob (fX11_works nd w8 ) fun _ w11 =>
      if (x2 : Int32) = 0 then
        ck (inb ((49 + x1)) 110) <|
        ob (fX11_good nd w11 (((w11 11 0).2.1 16 ((49 + x1) : Int32).toNatClampNeg))) fun r14 w15 =>
        some (r14, w15)
      else
      if (x2 : Int32) = 1 then
        ck (inb ((73 + x1)) 110) <|
        ob (fX11_good nd w11 (((w11 11 0).2.1 16 ((73 + x1) : Int32).toNatClampNeg))) fun r18 w19 =>
        some (r18, w19)
      else
      ob (fX11_isLive nd w11 (x1)) fun r20 w21 =>
      if (r20 : Int32) = 0 then
        ob (fX11_good nd w21 (0)) fun r23 w24 =>
        some (r23, w24)
      else
        ob (fX11_good nd w21 (1)) fun r25 w26 =>
        some (r25, w26)
set_option maxRecDepth 100000 in
set_option maxHeartbeats 4000000 in
theorem kX11_entry {l : Launch} {G : Gx} {al : Al} {w : Wd} {x1 : Int32} {x2 : Int32} {r : Int32} {wz : Wd} (hN : NX G) (h : fX11_entry (gN G 10) w x1 x2 = some (r, wz)) : MC l G yX11_entry cX11_entry 3 (some (.int)) 2 43 al w [.ref (al 11 0 0), .int x1, .int x2] (some (.int r)) wz := by
  refine mc_of [(0, .ref (al 11 0 0)), (1, .int x1), (2, .int x2)] (by decide) (Nat.le_of_ble_eq_true rfl) rfl ?_
  intro K hk hR hn hl hG
  subst hl; subst hG
  have hk : VH K RX11 cX11_entry 2 43 := hk
  rw [fX11_entry.eq_1] at h
  refine r_aload_n 1 hk dX11_entry_0 rfl 0 rfl rfl ?_
  refine r_iconst 2 hk dX11_entry_1 rfl ci_0 ?_
  obtain ⟨w1, ew1, h⟩ := lw_e h
  refine r_putI 5 w1 hk dX11_entry_2 rfl ff_RX11_45 fi_11_0 (mk_11_0 (nx_11 hN (j := 0) (by decide))) ew1 ?_
  refine r_aload_n 6 hk dX11_entry_5 rfl 0 rfl rfl ?_
  refine r_iload_n 7 hk dX11_entry_6 rfl 1 rfl rfl ?_
  obtain ⟨r2, w3, ew3, h⟩ := ob_e h
  refine r_cVi 10 (As := [.int x1]) (rest := []) hk (kX11_isEntry hN ew3) cf_RX11_358 mi_X11_isEntry ⟨TX11, 36, rfl⟩ dX11_entry_7 rfl (Nat.le_of_ble_eq_true rfl) (Nat.le_of_ble_eq_true rfl) (mk_11_0 (nx_11 hN (j := 0) (by decide))) rfl rfl (Nat.le_of_ble_eq_true rfl) ?_
  refine r_if_eq 22 13 hk dX11_entry_10 rfl rfl (fun c4 => ?_) (fun c4 => ?_)
  · have h := if_t c4 h
    refine r_aload_n 23 hk dX11_entry_22 rfl 0 rfl rfl ?_
    refine r_iconst 24 hk dX11_entry_23 rfl ci_1 ?_
    obtain ⟨r5, w6, ew6, h⟩ := ob_e h
    refine r_cVi 27 (As := [.int 1]) (rest := []) hk (kX11_refused hN ew6) cf_RX11_51 mi_X11_refused ⟨TX11, 36, rfl⟩ dX11_entry_24 rfl (Nat.le_of_ble_eq_true rfl) (Nat.le_of_ble_eq_true rfl) (mk_11_0 (nx_11 hN (j := 0) (by decide))) rfl rfl (Nat.le_of_ble_eq_true rfl) ?_
    exact r_iret hk hR dX11_entry_27 h
  · have h := if_f c4 h
    refine r_iload_n 14 hk dX11_entry_13 rfl 2 rfl rfl ?_
    refine r_iconst 15 hk dX11_entry_14 rfl ci_0 ?_
    refine r_iconst 16 hk dX11_entry_15 rfl ci_2 ?_
    obtain ⟨r7, w8, ew8, h⟩ := ob_e h
    refine r_cSi 19 (As := [.int x2, .int 0, .int 2]) (rest := []) hk (kX11_in hN ew8) cf_RX11_124 ms_X11_in dX11_entry_16 rfl (Nat.le_of_ble_eq_true rfl) (Nat.le_of_ble_eq_true rfl) rfl rfl (Nat.le_of_ble_eq_true rfl) ?_
    refine r_if_ne 28 22 hk dX11_entry_19 rfl rfl (fun c9 => ?_) (fun c9 => ?_)
    · have h := if_f c9 h
      refine r_aload_n 29 hk dX11_entry_28 rfl 0 rfl rfl ?_
      obtain ⟨r10, w11, ew11, h⟩ := ob_e h
      refine r_cVv 32 (As := []) (rest := []) hk (kX11_works hN ew11) cf_RX11_352 mi_X11_works ⟨TX11, 36, rfl⟩ dX11_entry_29 rfl (Nat.le_of_ble_eq_true rfl) (Nat.le_of_ble_eq_true rfl) (mk_11_0 (nx_11 hN (j := 0) (by decide))) rfl rfl (Nat.le_of_ble_eq_true rfl) ?_
      refine r_iload_n 33 hk dX11_entry_32 rfl 2 rfl rfl ?_
      by_cases c12 : (x2 : Int32) = 0
      · have h := if_t c12 h
        refine r_lookup 60 hk (off := 27) dX11_entry_33 (by decide) (by rw [c12] <;> rfl) rfl ?_
        refine r_aload_n 61 hk dX11_entry_60 rfl 0 rfl rfl ?_
        refine r_aload_n 62 hk dX11_entry_61 rfl 0 rfl rfl ?_
        refine r_get 65 hk dX11_entry_62 rfl ff_RX11_21 (mk_11_0 (nx_11 hN (j := 0) (by decide))) (gv_11_16 _ _ _) ?_
        refine r_bipush 67 hk dX11_entry_65 rfl cb_49 ?_
        refine r_iload_n 68 hk dX11_entry_67 rfl 1 rfl rfl ?_
        refine r_iadd 69 hk dX11_entry_68 rfl ?_
        obtain ⟨b13, h⟩ := ck_e h
        refine r_iald 70 hk dX11_entry_69 rfl rfl (mk_11_17 (nx_11 hN (j := 0) (by decide))) rfl b13 ?_
        obtain ⟨r14, w15, ew15, h⟩ := ob_e h
        refine r_cVi 73 (As := [.int (((w11 11 0).2.1 16 ((49 + x1) : Int32).toNatClampNeg))]) (rest := []) hk (kX11_good hN ew15) cf_RX11_55 mi_X11_good ⟨TX11, 36, rfl⟩ dX11_entry_70 rfl (Nat.le_of_ble_eq_true rfl) (Nat.le_of_ble_eq_true rfl) (mk_11_0 (nx_11 hN (j := 0) (by decide))) rfl rfl (Nat.le_of_ble_eq_true rfl) ?_
        exact r_iret hk hR dX11_entry_73 h
      have h := if_f c12 h
      by_cases c16 : (x2 : Int32) = 1
      · have h := if_t c16 h
        refine r_lookup 74 hk (off := 41) dX11_entry_33 (by decide) (by rw [c16] <;> rfl) rfl ?_
        refine r_aload_n 75 hk dX11_entry_74 rfl 0 rfl rfl ?_
        refine r_aload_n 76 hk dX11_entry_75 rfl 0 rfl rfl ?_
        refine r_get 79 hk dX11_entry_76 rfl ff_RX11_21 (mk_11_0 (nx_11 hN (j := 0) (by decide))) (gv_11_16 _ _ _) ?_
        refine r_bipush 81 hk dX11_entry_79 rfl cb_73 ?_
        refine r_iload_n 82 hk dX11_entry_81 rfl 1 rfl rfl ?_
        refine r_iadd 83 hk dX11_entry_82 rfl ?_
        obtain ⟨b17, h⟩ := ck_e h
        refine r_iald 84 hk dX11_entry_83 rfl rfl (mk_11_17 (nx_11 hN (j := 0) (by decide))) rfl b17 ?_
        obtain ⟨r18, w19, ew19, h⟩ := ob_e h
        refine r_cVi 87 (As := [.int (((w11 11 0).2.1 16 ((73 + x1) : Int32).toNatClampNeg))]) (rest := []) hk (kX11_good hN ew19) cf_RX11_55 mi_X11_good ⟨TX11, 36, rfl⟩ dX11_entry_84 rfl (Nat.le_of_ble_eq_true rfl) (Nat.le_of_ble_eq_true rfl) (mk_11_0 (nx_11 hN (j := 0) (by decide))) rfl rfl (Nat.le_of_ble_eq_true rfl) ?_
        exact r_iret hk hR dX11_entry_87 h
      have h := if_f c16 h
      refine r_lookup 88 hk (off := 55) dX11_entry_33 (by decide) (by show Op.lookupswitch.offset [(0, 27), (1, 41)] 55 _ = 55; rw [lv_osw c12 (k := 0) (a := 0) rfl, lv_osw c16 (k := 1) (a := 1) rfl] <;> rfl) rfl ?_
      refine r_aload_n 89 hk dX11_entry_88 rfl 0 rfl rfl ?_
      refine r_aload_n 90 hk dX11_entry_89 rfl 0 rfl rfl ?_
      refine r_iload_n 91 hk dX11_entry_90 rfl 1 rfl rfl ?_
      obtain ⟨r20, w21, ew21, h⟩ := ob_e h
      refine r_cVi 94 (As := [.int x1]) (rest := [.ref (al 11 0 0)]) hk (kX11_isLive hN ew21) cf_RX11_291 mi_X11_isLive ⟨TX11, 36, rfl⟩ dX11_entry_91 rfl (Nat.le_of_ble_eq_true rfl) (Nat.le_of_ble_eq_true rfl) (mk_11_0 (nx_11 hN (j := 0) (by decide))) rfl rfl (Nat.le_of_ble_eq_true rfl) ?_
      refine r_if_eq 101 97 hk dX11_entry_94 rfl rfl (fun c22 => ?_) (fun c22 => ?_)
      · have h := if_t c22 h
        refine r_iconst 102 hk dX11_entry_101 rfl ci_0 ?_
        obtain ⟨r23, w24, ew24, h⟩ := ob_e h
        refine r_cVi 105 (As := [.int 0]) (rest := []) hk (kX11_good hN ew24) cf_RX11_55 mi_X11_good ⟨TX11, 36, rfl⟩ dX11_entry_102 rfl (Nat.le_of_ble_eq_true rfl) (Nat.le_of_ble_eq_true rfl) (mk_11_0 (nx_11 hN (j := 0) (by decide))) rfl rfl (Nat.le_of_ble_eq_true rfl) ?_
        exact r_iret hk hR dX11_entry_105 h
      · have h := if_f c22 h
        refine r_iconst 98 hk dX11_entry_97 rfl ci_1 ?_
        refine r_goto 102 hk (x := 0) dX11_entry_98 rfl ?_
        obtain ⟨r25, w26, ew26, h⟩ := ob_e h
        refine r_cVi 105 (As := [.int 1]) (rest := []) hk (kX11_good hN ew26) cf_RX11_55 mi_X11_good ⟨TX11, 36, rfl⟩ dX11_entry_102 rfl (Nat.le_of_ble_eq_true rfl) (Nat.le_of_ble_eq_true rfl) (mk_11_0 (nx_11 hN (j := 0) (by decide))) rfl rfl (Nat.le_of_ble_eq_true rfl) ?_
        exact r_iret hk hR dX11_entry_105 h
    · have h := if_t c9 h
      refine r_aload_n 23 hk dX11_entry_22 rfl 0 rfl rfl ?_
      refine r_iconst 24 hk dX11_entry_23 rfl ci_1 ?_
      obtain ⟨r27, w28, ew28, h⟩ := ob_e h
      refine r_cVi 27 (As := [.int 1]) (rest := []) hk (kX11_refused hN ew28) cf_RX11_51 mi_X11_refused ⟨TX11, 36, rfl⟩ dX11_entry_24 rfl (Nat.le_of_ble_eq_true rfl) (Nat.le_of_ble_eq_true rfl) (mk_11_0 (nx_11 hN (j := 0) (by decide))) rfl rfl (Nat.le_of_ble_eq_true rfl) ?_
      exact r_iret hk hR dX11_entry_27 h
def fX11_live (nd : Nat) (w : Wd) : Option (Int32 × Wd) :=
  lw (sI w 11 0 0 (0)) fun w1 =>
  if (w1 11 0).2.2.1 3 = 0 then
    ob (fX11_refused nd w1 (1)) fun r3 w4 =>
    some (r3, w4)
  else
    ob (fX11_works nd w1 ) fun _ w6 =>
    ob (fX11_liveMany nd w6 ) fun r7 w8 =>
    ob (fX11_good nd w8 (r7)) fun r9 w10 =>
    some (r9, w10)
set_option maxRecDepth 100000 in
set_option maxHeartbeats 4000000 in
theorem kX11_live {l : Launch} {G : Gx} {al : Al} {w : Wd} {r : Int32} {wz : Wd} (hN : NX G) (h : fX11_live (gN G 10) w = some (r, wz)) : MC l G yX11_live cX11_live 1 (some (.int)) 2 44 al w [.ref (al 11 0 0)] (some (.int r)) wz := by
  refine mc_of [(0, .ref (al 11 0 0))] (by decide) (Nat.le_of_ble_eq_true rfl) rfl ?_
  intro K hk hR hn hl hG
  subst hl; subst hG
  have hk : VH K RX11 cX11_live 2 44 := hk
  rw [fX11_live.eq_1] at h
  refine r_aload_n 1 hk dX11_live_0 rfl 0 rfl rfl ?_
  refine r_iconst 2 hk dX11_live_1 rfl ci_0 ?_
  obtain ⟨w1, ew1, h⟩ := lw_e h
  refine r_putI 5 w1 hk dX11_live_2 rfl ff_RX11_45 fi_11_0 (mk_11_0 (nx_11 hN (j := 0) (by decide))) ew1 ?_
  refine r_aload_n 6 hk dX11_live_5 rfl 0 rfl rfl ?_
  refine r_get 9 hk dX11_live_6 rfl ff_RX11_260 (mk_11_0 (nx_11 hN (j := 0) (by decide))) (gv_11_3 _ _ _) ?_
  by_cases c2 : (w1 11 0).2.2.1 3 = 0
  · have h := if_t c2 h
    refine r_pv0 c2 ?_
    refine r_ifnonnull0 12 hk dX11_live_9 rfl ?_
    refine r_aload_n 13 hk dX11_live_12 rfl 0 rfl rfl ?_
    refine r_iconst 14 hk dX11_live_13 rfl ci_1 ?_
    obtain ⟨r3, w4, ew4, h⟩ := ob_e h
    refine r_cVi 17 (As := [.int 1]) (rest := []) hk (kX11_refused hN ew4) cf_RX11_51 mi_X11_refused ⟨TX11, 36, rfl⟩ dX11_live_14 rfl (Nat.le_of_ble_eq_true rfl) (Nat.le_of_ble_eq_true rfl) (mk_11_0 (nx_11 hN (j := 0) (by decide))) rfl rfl (Nat.le_of_ble_eq_true rfl) ?_
    exact r_iret hk hR dX11_live_17 h
  · have h := if_f c2 h
    obtain ⟨q11, eq11⟩ := Nat.exists_eq_succ_of_ne_zero c2
    refine r_pv1 eq11 ?_
    refine r_ifnonnull1 18 hk dX11_live_9 rfl ?_
    refine r_aload_n 19 hk dX11_live_18 rfl 0 rfl rfl ?_
    obtain ⟨r5, w6, ew6, h⟩ := ob_e h
    refine r_cVv 22 (As := []) (rest := []) hk (kX11_works hN ew6) cf_RX11_352 mi_X11_works ⟨TX11, 36, rfl⟩ dX11_live_19 rfl (Nat.le_of_ble_eq_true rfl) (Nat.le_of_ble_eq_true rfl) (mk_11_0 (nx_11 hN (j := 0) (by decide))) rfl rfl (Nat.le_of_ble_eq_true rfl) ?_
    refine r_aload_n 23 hk dX11_live_22 rfl 0 rfl rfl ?_
    refine r_aload_n 24 hk dX11_live_23 rfl 0 rfl rfl ?_
    obtain ⟨r7, w8, ew8, h⟩ := ob_e h
    refine r_cVi 27 (As := []) (rest := [.ref (al 11 0 0)]) hk (kX11_liveMany hN ew8) cf_RX11_361 mi_X11_liveMany ⟨TX11, 36, rfl⟩ dX11_live_24 rfl (Nat.le_of_ble_eq_true rfl) (Nat.le_of_ble_eq_true rfl) (mk_11_0 (nx_11 hN (j := 0) (by decide))) rfl rfl (Nat.le_of_ble_eq_true rfl) ?_
    obtain ⟨r9, w10, ew10, h⟩ := ob_e h
    refine r_cVi 30 (As := [.int r7]) (rest := []) hk (kX11_good hN ew10) cf_RX11_55 mi_X11_good ⟨TX11, 36, rfl⟩ dX11_live_27 rfl (Nat.le_of_ble_eq_true rfl) (Nat.le_of_ble_eq_true rfl) (mk_11_0 (nx_11 hN (j := 0) (by decide))) rfl rfl (Nat.le_of_ble_eq_true rfl) ?_
    exact r_iret hk hR dX11_live_30 h
def fX11_goesWith (nd : Nat) (w : Wd) (x1 : Int32) : Option (Int32 × Wd) :=
  if (x1 : Int32) = 0 then
    some (0, w)
  else
    ob (fX11_liveOf nd w (x1)) fun r2 w3 =>
    ob (fX11_liveOf nd w3 ((x1 - 1))) fun r4 w5 =>
    if (r2 : Int32) = (-1) then
      some (0, w5)
    else
      if (r4 : Int32) = (-1) then
        some (0, w5)
      else
        if (r2 : Int32) = (r4 + 1) then
          some (1, w5)
        else
          some (0, w5)
set_option maxRecDepth 100000 in
set_option maxHeartbeats 4000000 in
theorem kX11_goesWith {l : Launch} {G : Gx} {al : Al} {w : Wd} {x1 : Int32} {r : Int32} {wz : Wd} (hN : NX G) (h : fX11_goesWith (gN G 10) w x1 = some (r, wz)) : MC l G yX11_goesWith cX11_goesWith 4 (some (.boolean)) 1 22 al w [.ref (al 11 0 0), .int x1] (some (.int r)) wz := by
  refine mc_of [(0, .ref (al 11 0 0)), (1, .int x1)] (by decide) (Nat.le_of_ble_eq_true rfl) rfl ?_
  intro K hk hR hn hl hG
  subst hl; subst hG
  have hk : VH K RX11 cX11_goesWith 1 22 := hk
  rw [fX11_goesWith.eq_1] at h
  refine r_iload_n 1 hk dX11_goesWith_0 rfl 1 rfl rfl ?_
  refine r_if_ne 6 4 hk dX11_goesWith_1 rfl rfl (fun c1 => ?_) (fun c1 => ?_)
  · have h := if_f c1 h
    refine r_aload_n 7 hk dX11_goesWith_6 rfl 0 rfl rfl ?_
    refine r_iload_n 8 hk dX11_goesWith_7 rfl 1 rfl rfl ?_
    obtain ⟨r2, w3, ew3, h⟩ := ob_e h
    refine r_cVi 11 (As := [.int x1]) (rest := []) hk (kX11_liveOf hN ew3) cf_RX11_284 mi_X11_liveOf ⟨TX11, 36, rfl⟩ dX11_goesWith_8 rfl (Nat.le_of_ble_eq_true rfl) (Nat.le_of_ble_eq_true rfl) (mk_11_0 (nx_11 hN (j := 0) (by decide))) rfl rfl (Nat.le_of_ble_eq_true rfl) ?_
    refine r_istore_n 12 [(2, .int r2), (0, .ref (al 11 0 0)), (1, .int x1)] hk dX11_goesWith_11 rfl rfl hn (by decide) rfl rfl ?_
    refine r_aload_n 13 hk dX11_goesWith_12 rfl 1 rfl rfl ?_
    refine r_iload_n 14 hk dX11_goesWith_13 rfl 2 rfl rfl ?_
    refine r_iconst 15 hk dX11_goesWith_14 rfl ci_1 ?_
    refine r_isub 16 hk dX11_goesWith_15 rfl ?_
    obtain ⟨r4, w5, ew5, h⟩ := ob_e h
    refine r_cVi 19 (As := [.int ((x1 - 1))]) (rest := []) hk (kX11_liveOf hN ew5) cf_RX11_284 mi_X11_liveOf ⟨TX11, 36, rfl⟩ dX11_goesWith_16 rfl (Nat.le_of_ble_eq_true rfl) (Nat.le_of_ble_eq_true rfl) (mk_11_0 (nx_11 hN (j := 0) (by decide))) rfl rfl (Nat.le_of_ble_eq_true rfl) ?_
    refine r_istore_n 20 [(3, .int r4), (2, .int r2), (0, .ref (al 11 0 0)), (1, .int x1)] hk dX11_goesWith_19 rfl rfl hn (by decide) rfl rfl ?_
    refine r_iload_n 21 hk dX11_goesWith_20 rfl 1 rfl rfl ?_
    refine r_iconst 22 hk dX11_goesWith_21 rfl ci_m1 ?_
    refine r_icmp_eq 41 25 hk dX11_goesWith_22 rfl rfl (fun c6 => ?_) (fun c6 => ?_)
    · have h := if_t c6 h
      refine r_iconst 42 hk dX11_goesWith_41 rfl ci_0 ?_
      exact r_zret hk hR dX11_goesWith_42 (by decide) h
    · have h := if_f c6 h
      refine r_iload_n 26 hk dX11_goesWith_25 rfl 0 rfl rfl ?_
      refine r_iconst 27 hk dX11_goesWith_26 rfl ci_m1 ?_
      refine r_icmp_eq 41 30 hk dX11_goesWith_27 rfl rfl (fun c7 => ?_) (fun c7 => ?_)
      · have h := if_t c7 h
        refine r_iconst 42 hk dX11_goesWith_41 rfl ci_0 ?_
        exact r_zret hk hR dX11_goesWith_42 (by decide) h
      · have h := if_f c7 h
        refine r_iload_n 31 hk dX11_goesWith_30 rfl 1 rfl rfl ?_
        refine r_iload_n 32 hk dX11_goesWith_31 rfl 0 rfl rfl ?_
        refine r_iconst 33 hk dX11_goesWith_32 rfl ci_1 ?_
        refine r_iadd 34 hk dX11_goesWith_33 rfl ?_
        refine r_icmp_ne 41 37 hk dX11_goesWith_34 rfl rfl (fun c8 => ?_) (fun c8 => ?_)
        · have h := if_f c8 h
          refine r_iconst 42 hk dX11_goesWith_41 rfl ci_0 ?_
          exact r_zret hk hR dX11_goesWith_42 (by decide) h
        · have h := if_t c8 h
          refine r_iconst 38 hk dX11_goesWith_37 rfl ci_1 ?_
          refine r_goto 42 hk (x := 0) dX11_goesWith_38 rfl ?_
          exact r_zret hk hR dX11_goesWith_42 (by decide) h
  · have h := if_t c1 h
    refine r_iconst 5 hk dX11_goesWith_4 rfl ci_0 ?_
    exact r_zret hk hR dX11_goesWith_5 (by decide) h
def fX11_extentsNow_11 (nd : Nat) : Nat → Wd → Int32 → Option (Unit × Wd)
  | 0, _, _ => none
  | n + 1, w, x1 =>
    ckp ((w 11 0).2.2.1 3) nd fun q4 =>
    if (((w 10 q4).1 3) : Int32) ≤ x1 then
      some ((), w)
    else
      ob (fX11_liveOf nd w (x1)) fun r6 w7 =>
      if (r6 : Int32) = (-1) then
        lw (x1 + 1) fun x1_22 =>
        fX11_extentsNow_11 nd n w7 (x1_22)
      else
        ob (fX11_goesWith nd w7 (x1)) fun r9 w10 =>
        if (r9 : Int32) = 0 then
          ck (inb (((w10 11 0).1 28)) 48) <|
          lw (sA w10 11 0 26 (((w10 11 0).1 28) : Int32).toNatClampNeg (x1)) fun w13 =>
          ck (inb (((w13 11 0).1 28)) 48) <|
          lw (sA w13 11 0 27 (((w13 11 0).1 28) : Int32).toNatClampNeg (1)) fun w15 =>
          lw (sI w15 11 0 28 ((((w15 11 0).1 28) + 1))) fun w16 =>
          lw (x1 + 1) fun x1_17 =>
          fX11_extentsNow_11 nd n w16 (x1_17)
        else
          ck (inb ((((w10 11 0).1 28) - 1)) 48) <|
          ck (inb ((((w10 11 0).1 28) - 1)) 48) <|
          lw (sA w10 11 0 27 ((((w10 11 0).1 28) - 1) : Int32).toNatClampNeg ((((w10 11 0).2.1 27 ((((w10 11 0).1 28) - 1) : Int32).toNatClampNeg) + 1))) fun w20 =>
          lw (x1 + 1) fun x1_21 =>
          fX11_extentsNow_11 nd n w20 (x1_21)
def fX11_extentsNow (nd : Nat) (w : Wd) : Option (Unit × Wd) :=
  ob (fX11_works nd w ) fun _ w2 =>
  lw (sI w2 11 0 28 (0)) fun w3 =>
  fX11_extentsNow_11 nd fuel0 w3 (0)
set_option maxRecDepth 100000 in
set_option maxHeartbeats 4000000 in
theorem sX11_extentsNow_11 {K : VC} {al : Al} {r : Unit} {wz : Wd}  (hk : VH K RX11 cX11_extentsNow 2 45) (hR : VR K al none none wz) (hn : kn K = 2) (hN : NX (kG K)) : ∀ (n : Nat) (w : Wd) (x1 : Int32), fX11_extentsNow_11 (gN (kG K) 10) n w x1 = some (r, wz) → V K al w 11 [(0, .ref (al 11 0 0)), (1, .int x1)] [] := by
  intro n
  induction n with
  | zero => intro w x1 h; cases h
  | succ n ih =>
    intro w x1 h
    rw [fX11_extentsNow_11.eq_2] at h
    refine r_iload_n 12 hk dX11_extentsNow_11 rfl 1 rfl rfl ?_
    refine r_aload_n 13 hk dX11_extentsNow_12 rfl 0 rfl rfl ?_
    refine r_get 16 hk dX11_extentsNow_13 rfl ff_RX11_260 (mk_11_0 (nx_11 hN (j := 0) (by decide))) (gv_11_3 _ _ _) ?_
    obtain ⟨q4, eq4, lq4, h⟩ := ckp_e h
    refine r_pv1 eq4 ?_
    refine r_get 19 hk dX11_extentsNow_16 rfl ff_RX11_209 (mk_10_0 lq4) (gv_10_3 _ _ _) ?_
    refine r_icmp_ge 96 22 hk dX11_extentsNow_19 rfl rfl (fun c5 => ?_) (fun c5 => ?_)
    · have h := if_t c5 h
      exact r_vret hk hR dX11_extentsNow_96 h
    · have h := if_f c5 h
      refine r_aload_n 23 hk dX11_extentsNow_22 rfl 0 rfl rfl ?_
      refine r_iload_n 24 hk dX11_extentsNow_23 rfl 1 rfl rfl ?_
      obtain ⟨r6, w7, ew7, h⟩ := ob_e h
      refine r_cVi 27 (As := [.int x1]) (rest := []) hk (kX11_liveOf hN ew7) cf_RX11_284 mi_X11_liveOf ⟨TX11, 36, rfl⟩ dX11_extentsNow_24 rfl (Nat.le_of_ble_eq_true rfl) (Nat.le_of_ble_eq_true rfl) (mk_11_0 (nx_11 hN (j := 0) (by decide))) rfl rfl (Nat.le_of_ble_eq_true rfl) ?_
      refine r_iconst 28 hk dX11_extentsNow_27 rfl ci_m1 ?_
      refine r_icmp_ne 34 31 hk dX11_extentsNow_28 rfl rfl (fun c8 => ?_) (fun c8 => ?_)
      · have h := if_f c8 h
        refine r_aload_n 35 hk dX11_extentsNow_34 rfl 0 rfl rfl ?_
        refine r_iload_n 36 hk dX11_extentsNow_35 rfl 1 rfl rfl ?_
        obtain ⟨r9, w10, ew10, h⟩ := ob_e h
        refine r_cVi 39 (As := [.int x1]) (rest := []) hk (kX11_goesWith hN ew10) cf_RX11_367 mi_X11_goesWith ⟨TX11, 36, rfl⟩ dX11_extentsNow_36 rfl (Nat.le_of_ble_eq_true rfl) (Nat.le_of_ble_eq_true rfl) (mk_11_0 (nx_11 hN (j := 0) (by decide))) rfl rfl (Nat.le_of_ble_eq_true rfl) ?_
        refine r_if_eq 60 42 hk dX11_extentsNow_39 rfl rfl (fun c11 => ?_) (fun c11 => ?_)
        · have h := if_t c11 h
          refine r_aload_n 61 hk dX11_extentsNow_60 rfl 0 rfl rfl ?_
          refine r_get 64 hk dX11_extentsNow_61 rfl ff_RX11_36 (mk_11_0 (nx_11 hN (j := 0) (by decide))) (gv_11_26 _ _ _) ?_
          refine r_aload_n 65 hk dX11_extentsNow_64 rfl 0 rfl rfl ?_
          refine r_get 68 hk dX11_extentsNow_65 rfl ff_RX11_364 (mk_11_0 (nx_11 hN (j := 0) (by decide))) (gv_11_28 _ _ _) ?_
          refine r_iload_n 69 hk dX11_extentsNow_68 rfl 1 rfl rfl ?_
          obtain ⟨b12, h⟩ := ck_e h
          obtain ⟨w13, ew13, h⟩ := lw_e h
          refine r_iast 70 w13 hk dX11_extentsNow_69 rfl rfl (mk_11_27 (nx_11 hN (j := 0) (by decide))) rfl b12 ew13 ?_
          refine r_aload_n 71 hk dX11_extentsNow_70 rfl 0 rfl rfl ?_
          refine r_get 74 hk dX11_extentsNow_71 rfl ff_RX11_39 (mk_11_0 (nx_11 hN (j := 0) (by decide))) (gv_11_27 _ _ _) ?_
          refine r_aload_n 75 hk dX11_extentsNow_74 rfl 0 rfl rfl ?_
          refine r_get 78 hk dX11_extentsNow_75 rfl ff_RX11_364 (mk_11_0 (nx_11 hN (j := 0) (by decide))) (gv_11_28 _ _ _) ?_
          refine r_iconst 79 hk dX11_extentsNow_78 rfl ci_1 ?_
          obtain ⟨b14, h⟩ := ck_e h
          obtain ⟨w15, ew15, h⟩ := lw_e h
          refine r_iast 80 w15 hk dX11_extentsNow_79 rfl rfl (mk_11_28 (nx_11 hN (j := 0) (by decide))) rfl b14 ew15 ?_
          refine r_aload_n 81 hk dX11_extentsNow_80 rfl 0 rfl rfl ?_
          refine r_dup 82 hk dX11_extentsNow_81 rfl rfl ?_
          refine r_get 85 hk dX11_extentsNow_82 rfl ff_RX11_364 (mk_11_0 (nx_11 hN (j := 0) (by decide))) (gv_11_28 _ _ _) ?_
          refine r_iconst 86 hk dX11_extentsNow_85 rfl ci_1 ?_
          refine r_iadd 87 hk dX11_extentsNow_86 rfl ?_
          obtain ⟨w16, ew16, h⟩ := lw_e h
          refine r_putI 90 w16 hk dX11_extentsNow_87 rfl ff_RX11_364 fi_11_28 (mk_11_0 (nx_11 hN (j := 0) (by decide))) ew16 ?_
          obtain ⟨x1_17, ex1_17, h⟩ := lw_e h
          refine r_iinc 93 [(1, .int x1_17), (0, .ref (al 11 0 0))] hk (j := 1) dX11_extentsNow_90 rfl hn (by decide) rfl ex1_17 rfl ?_
          refine r_goto 11 hk (x := 0) dX11_extentsNow_93 rfl ?_
          refine r_sub [1, 0] rfl ?_
          exact ih _ _ h
        · have h := if_f c11 h
          refine r_aload_n 43 hk dX11_extentsNow_42 rfl 0 rfl rfl ?_
          refine r_get 46 hk dX11_extentsNow_43 rfl ff_RX11_39 (mk_11_0 (nx_11 hN (j := 0) (by decide))) (gv_11_27 _ _ _) ?_
          refine r_aload_n 47 hk dX11_extentsNow_46 rfl 0 rfl rfl ?_
          refine r_get 50 hk dX11_extentsNow_47 rfl ff_RX11_364 (mk_11_0 (nx_11 hN (j := 0) (by decide))) (gv_11_28 _ _ _) ?_
          refine r_iconst 51 hk dX11_extentsNow_50 rfl ci_1 ?_
          refine r_isub 52 hk dX11_extentsNow_51 rfl ?_
          refine r_dup2 53 hk dX11_extentsNow_52 rfl rfl rfl ?_
          obtain ⟨b18, h⟩ := ck_e h
          refine r_iald 54 hk dX11_extentsNow_53 rfl rfl (mk_11_28 (nx_11 hN (j := 0) (by decide))) rfl b18 ?_
          refine r_iconst 55 hk dX11_extentsNow_54 rfl ci_1 ?_
          refine r_iadd 56 hk dX11_extentsNow_55 rfl ?_
          obtain ⟨b19, h⟩ := ck_e h
          obtain ⟨w20, ew20, h⟩ := lw_e h
          refine r_iast 57 w20 hk dX11_extentsNow_56 rfl rfl (mk_11_28 (nx_11 hN (j := 0) (by decide))) rfl b19 ew20 ?_
          refine r_goto 90 hk (x := 0) dX11_extentsNow_57 rfl ?_
          obtain ⟨x1_21, ex1_21, h⟩ := lw_e h
          refine r_iinc 93 [(1, .int x1_21), (0, .ref (al 11 0 0))] hk (j := 1) dX11_extentsNow_90 rfl hn (by decide) rfl ex1_21 rfl ?_
          refine r_goto 11 hk (x := 0) dX11_extentsNow_93 rfl ?_
          refine r_sub [1, 0] rfl ?_
          exact ih _ _ h
      · have h := if_t c8 h
        refine r_goto 90 hk (x := 0) dX11_extentsNow_31 rfl ?_
        obtain ⟨x1_22, ex1_22, h⟩ := lw_e h
        refine r_iinc 93 [(1, .int x1_22), (0, .ref (al 11 0 0))] hk (j := 1) dX11_extentsNow_90 rfl hn (by decide) rfl ex1_22 rfl ?_
        refine r_goto 11 hk (x := 0) dX11_extentsNow_93 rfl ?_
        refine r_sub [1, 0] rfl ?_
        exact ih _ _ h
set_option maxRecDepth 100000 in
set_option maxHeartbeats 4000000 in
theorem kX11_extentsNow {l : Launch} {G : Gx} {al : Al} {w : Wd} {r : Unit} {wz : Wd} (hN : NX G) (h : fX11_extentsNow (gN G 10) w = some (r, wz)) : MC l G yX11_extentsNow cX11_extentsNow 2 none 2 45 al w [.ref (al 11 0 0)] none wz := by
  refine mc_of [(0, .ref (al 11 0 0))] (by decide) (Nat.le_of_ble_eq_true rfl) rfl ?_
  intro K hk hR hn hl hG
  subst hl; subst hG
  have hk : VH K RX11 cX11_extentsNow 2 45 := hk
  rw [fX11_extentsNow.eq_1] at h
  refine r_aload_n 1 hk dX11_extentsNow_0 rfl 0 rfl rfl ?_
  obtain ⟨r1, w2, ew2, h⟩ := ob_e h
  refine r_cVv 4 (As := []) (rest := []) hk (kX11_works hN ew2) cf_RX11_352 mi_X11_works ⟨TX11, 36, rfl⟩ dX11_extentsNow_1 rfl (Nat.le_of_ble_eq_true rfl) (Nat.le_of_ble_eq_true rfl) (mk_11_0 (nx_11 hN (j := 0) (by decide))) rfl rfl (Nat.le_of_ble_eq_true rfl) ?_
  refine r_aload_n 5 hk dX11_extentsNow_4 rfl 0 rfl rfl ?_
  refine r_iconst 6 hk dX11_extentsNow_5 rfl ci_0 ?_
  obtain ⟨w3, ew3, h⟩ := lw_e h
  refine r_putI 9 w3 hk dX11_extentsNow_6 rfl ff_RX11_364 fi_11_28 (mk_11_0 (nx_11 hN (j := 0) (by decide))) ew3 ?_
  refine r_iconst 10 hk dX11_extentsNow_9 rfl ci_0 ?_
  refine r_istore_n 11 [(1, .int 0), (0, .ref (al 11 0 0))] hk dX11_extentsNow_10 rfl rfl hn (by decide) rfl rfl ?_
  refine r_sub [1, 0] rfl ?_
  exact sX11_extentsNow_11 hk hR hn hN _ _ _ h
def fX11_extents (nd : Nat) (w : Wd) : Option (Int32 × Wd) :=
  lw (sI w 11 0 0 (0)) fun w1 =>
  if (w1 11 0).2.2.1 3 = 0 then
    ob (fX11_refused nd w1 (1)) fun r3 w4 =>
    some (r3, w4)
  else
    ob (fX11_extentsNow nd w1 ) fun _ w6 =>
    ob (fX11_good nd w6 (((w6 11 0).1 28))) fun r7 w8 =>
    some (r7, w8)
set_option maxRecDepth 100000 in
set_option maxHeartbeats 4000000 in
theorem kX11_extents {l : Launch} {G : Gx} {al : Al} {w : Wd} {r : Int32} {wz : Wd} (hN : NX G) (h : fX11_extents (gN G 10) w = some (r, wz)) : MC l G yX11_extents cX11_extents 1 (some (.int)) 3 66 al w [.ref (al 11 0 0)] (some (.int r)) wz := by
  refine mc_of [(0, .ref (al 11 0 0))] (by decide) (Nat.le_of_ble_eq_true rfl) rfl ?_
  intro K hk hR hn hl hG
  subst hl; subst hG
  have hk : VH K RX11 cX11_extents 3 66 := hk
  rw [fX11_extents.eq_1] at h
  refine r_aload_n 1 hk dX11_extents_0 rfl 0 rfl rfl ?_
  refine r_iconst 2 hk dX11_extents_1 rfl ci_0 ?_
  obtain ⟨w1, ew1, h⟩ := lw_e h
  refine r_putI 5 w1 hk dX11_extents_2 rfl ff_RX11_45 fi_11_0 (mk_11_0 (nx_11 hN (j := 0) (by decide))) ew1 ?_
  refine r_aload_n 6 hk dX11_extents_5 rfl 0 rfl rfl ?_
  refine r_get 9 hk dX11_extents_6 rfl ff_RX11_260 (mk_11_0 (nx_11 hN (j := 0) (by decide))) (gv_11_3 _ _ _) ?_
  by_cases c2 : (w1 11 0).2.2.1 3 = 0
  · have h := if_t c2 h
    refine r_pv0 c2 ?_
    refine r_ifnonnull0 12 hk dX11_extents_9 rfl ?_
    refine r_aload_n 13 hk dX11_extents_12 rfl 0 rfl rfl ?_
    refine r_iconst 14 hk dX11_extents_13 rfl ci_1 ?_
    obtain ⟨r3, w4, ew4, h⟩ := ob_e h
    refine r_cVi 17 (As := [.int 1]) (rest := []) hk (kX11_refused hN ew4) cf_RX11_51 mi_X11_refused ⟨TX11, 36, rfl⟩ dX11_extents_14 rfl (Nat.le_of_ble_eq_true rfl) (Nat.le_of_ble_eq_true rfl) (mk_11_0 (nx_11 hN (j := 0) (by decide))) rfl rfl (Nat.le_of_ble_eq_true rfl) ?_
    exact r_iret hk hR dX11_extents_17 h
  · have h := if_f c2 h
    obtain ⟨q9, eq9⟩ := Nat.exists_eq_succ_of_ne_zero c2
    refine r_pv1 eq9 ?_
    refine r_ifnonnull1 18 hk dX11_extents_9 rfl ?_
    refine r_aload_n 19 hk dX11_extents_18 rfl 0 rfl rfl ?_
    obtain ⟨r5, w6, ew6, h⟩ := ob_e h
    refine r_cVv 22 (As := []) (rest := []) hk (kX11_extentsNow hN ew6) cf_RX11_370 mi_X11_extentsNow ⟨TX11, 36, rfl⟩ dX11_extents_19 rfl (Nat.le_of_ble_eq_true rfl) (Nat.le_of_ble_eq_true rfl) (mk_11_0 (nx_11 hN (j := 0) (by decide))) rfl rfl (Nat.le_of_ble_eq_true rfl) ?_
    refine r_aload_n 23 hk dX11_extents_22 rfl 0 rfl rfl ?_
    refine r_aload_n 24 hk dX11_extents_23 rfl 0 rfl rfl ?_
    refine r_get 27 hk dX11_extents_24 rfl ff_RX11_364 (mk_11_0 (nx_11 hN (j := 0) (by decide))) (gv_11_28 _ _ _) ?_
    obtain ⟨r7, w8, ew8, h⟩ := ob_e h
    refine r_cVi 30 (As := [.int (((w6 11 0).1 28))]) (rest := []) hk (kX11_good hN ew8) cf_RX11_55 mi_X11_good ⟨TX11, 36, rfl⟩ dX11_extents_27 rfl (Nat.le_of_ble_eq_true rfl) (Nat.le_of_ble_eq_true rfl) (mk_11_0 (nx_11 hN (j := 0) (by decide))) rfl rfl (Nat.le_of_ble_eq_true rfl) ?_
    exact r_iret hk hR dX11_extents_30 h
def fX11_extent (nd : Nat) (w : Wd) (x1 : Int32) (x2 : Int32) : Option (Int32 × Wd) :=
  lw (sI w 11 0 0 (0)) fun w1 =>
  if (w1 11 0).2.2.1 3 = 0 then
    ob (fX11_refused nd w1 (1)) fun r3 w4 =>
    some (r3, w4)
  else
    if (x1 : Int32) < 0 then
      ob (fX11_refused nd w1 (1)) fun r6 w7 =>
      some (r6, w7)
    else
      ob (fX11_in nd w1 (x2) (0) (2)) fun r8 w9 =>
      if (r8 : Int32) = 0 then
        ob (fX11_refused nd w9 (1)) fun r29 w30 =>
        some (r29, w30)
      else
        ob (fX11_extentsNow nd w9 ) fun _ w12 =>
        if (x1 : Int32) < ((w12 11 0).1 28) then
          if (x2 : Int32) = 0 then
            ck (inb (x1) 48) <|
            ob (fX11_good nd w12 (((w12 11 0).2.1 26 (x1 : Int32).toNatClampNeg))) fun r16 w17 =>
            some (r16, w17)
          else
          if (x2 : Int32) = 1 then
            ck (inb (x1) 48) <|
            ob (fX11_good nd w12 (((w12 11 0).2.1 27 (x1 : Int32).toNatClampNeg))) fun r20 w21 =>
            some (r20, w21)
          else
          ck (inb (x1) 48) <|
          ob (fX11_liveOf nd w12 (((w12 11 0).2.1 26 (x1 : Int32).toNatClampNeg))) fun r23 w24 =>
          ob (fX11_good nd w24 (r23)) fun r25 w26 =>
          some (r25, w26)
        else
          ob (fX11_refused nd w12 (1)) fun r27 w28 =>
          some (r27, w28)
set_option maxRecDepth 100000 in
set_option maxHeartbeats 4000000 in
theorem kX11_extent {l : Launch} {G : Gx} {al : Al} {w : Wd} {x1 : Int32} {x2 : Int32} {r : Int32} {wz : Wd} (hN : NX G) (h : fX11_extent (gN G 10) w x1 x2 = some (r, wz)) : MC l G yX11_extent cX11_extent 3 (some (.int)) 3 66 al w [.ref (al 11 0 0), .int x1, .int x2] (some (.int r)) wz := by
  refine mc_of [(0, .ref (al 11 0 0)), (1, .int x1), (2, .int x2)] (by decide) (Nat.le_of_ble_eq_true rfl) rfl ?_
  intro K hk hR hn hl hG
  subst hl; subst hG
  have hk : VH K RX11 cX11_extent 3 66 := hk
  rw [fX11_extent.eq_1] at h
  refine r_aload_n 1 hk dX11_extent_0 rfl 0 rfl rfl ?_
  refine r_iconst 2 hk dX11_extent_1 rfl ci_0 ?_
  obtain ⟨w1, ew1, h⟩ := lw_e h
  refine r_putI 5 w1 hk dX11_extent_2 rfl ff_RX11_45 fi_11_0 (mk_11_0 (nx_11 hN (j := 0) (by decide))) ew1 ?_
  refine r_aload_n 6 hk dX11_extent_5 rfl 0 rfl rfl ?_
  refine r_get 9 hk dX11_extent_6 rfl ff_RX11_260 (mk_11_0 (nx_11 hN (j := 0) (by decide))) (gv_11_3 _ _ _) ?_
  by_cases c2 : (w1 11 0).2.2.1 3 = 0
  · have h := if_t c2 h
    refine r_pv0 c2 ?_
    refine r_ifnull1 25 hk (x := 0) dX11_extent_9 rfl ?_
    refine r_aload_n 26 hk dX11_extent_25 rfl 0 rfl rfl ?_
    refine r_iconst 27 hk dX11_extent_26 rfl ci_1 ?_
    obtain ⟨r3, w4, ew4, h⟩ := ob_e h
    refine r_cVi 30 (As := [.int 1]) (rest := []) hk (kX11_refused hN ew4) cf_RX11_51 mi_X11_refused ⟨TX11, 36, rfl⟩ dX11_extent_27 rfl (Nat.le_of_ble_eq_true rfl) (Nat.le_of_ble_eq_true rfl) (mk_11_0 (nx_11 hN (j := 0) (by decide))) rfl rfl (Nat.le_of_ble_eq_true rfl) ?_
    exact r_iret hk hR dX11_extent_30 h
  · have h := if_f c2 h
    obtain ⟨q31, eq31⟩ := Nat.exists_eq_succ_of_ne_zero c2
    refine r_pv1 eq31 ?_
    refine r_ifnull0 12 hk dX11_extent_9 rfl ?_
    refine r_iload_n 13 hk dX11_extent_12 rfl 1 rfl rfl ?_
    refine r_if_lt 25 16 hk dX11_extent_13 rfl rfl (fun c5 => ?_) (fun c5 => ?_)
    · have h := if_t c5 h
      refine r_aload_n 26 hk dX11_extent_25 rfl 0 rfl rfl ?_
      refine r_iconst 27 hk dX11_extent_26 rfl ci_1 ?_
      obtain ⟨r6, w7, ew7, h⟩ := ob_e h
      refine r_cVi 30 (As := [.int 1]) (rest := []) hk (kX11_refused hN ew7) cf_RX11_51 mi_X11_refused ⟨TX11, 36, rfl⟩ dX11_extent_27 rfl (Nat.le_of_ble_eq_true rfl) (Nat.le_of_ble_eq_true rfl) (mk_11_0 (nx_11 hN (j := 0) (by decide))) rfl rfl (Nat.le_of_ble_eq_true rfl) ?_
      exact r_iret hk hR dX11_extent_30 h
    · have h := if_f c5 h
      refine r_iload_n 17 hk dX11_extent_16 rfl 2 rfl rfl ?_
      refine r_iconst 18 hk dX11_extent_17 rfl ci_0 ?_
      refine r_iconst 19 hk dX11_extent_18 rfl ci_2 ?_
      obtain ⟨r8, w9, ew9, h⟩ := ob_e h
      refine r_cSi 22 (As := [.int x2, .int 0, .int 2]) (rest := []) hk (kX11_in hN ew9) cf_RX11_124 ms_X11_in dX11_extent_19 rfl (Nat.le_of_ble_eq_true rfl) (Nat.le_of_ble_eq_true rfl) rfl rfl (Nat.le_of_ble_eq_true rfl) ?_
      refine r_if_ne 31 25 hk dX11_extent_22 rfl rfl (fun c10 => ?_) (fun c10 => ?_)
      · have h := if_f c10 h
        refine r_aload_n 32 hk dX11_extent_31 rfl 0 rfl rfl ?_
        obtain ⟨r11, w12, ew12, h⟩ := ob_e h
        refine r_cVv 35 (As := []) (rest := []) hk (kX11_extentsNow hN ew12) cf_RX11_370 mi_X11_extentsNow ⟨TX11, 36, rfl⟩ dX11_extent_32 rfl (Nat.le_of_ble_eq_true rfl) (Nat.le_of_ble_eq_true rfl) (mk_11_0 (nx_11 hN (j := 0) (by decide))) rfl rfl (Nat.le_of_ble_eq_true rfl) ?_
        refine r_iload_n 36 hk dX11_extent_35 rfl 1 rfl rfl ?_
        refine r_aload_n 37 hk dX11_extent_36 rfl 0 rfl rfl ?_
        refine r_get 40 hk dX11_extent_37 rfl ff_RX11_364 (mk_11_0 (nx_11 hN (j := 0) (by decide))) (gv_11_28 _ _ _) ?_
        refine r_icmp_lt 49 43 hk dX11_extent_40 rfl rfl (fun c13 => ?_) (fun c13 => ?_)
        · have h := if_t c13 h
          refine r_iload_n 50 hk dX11_extent_49 rfl 2 rfl rfl ?_
          by_cases c14 : (x2 : Int32) = 0
          · have h := if_t c14 h
            refine r_lookup 76 hk (off := 26) dX11_extent_50 (by decide) (by rw [c14] <;> rfl) rfl ?_
            refine r_aload_n 77 hk dX11_extent_76 rfl 0 rfl rfl ?_
            refine r_aload_n 78 hk dX11_extent_77 rfl 0 rfl rfl ?_
            refine r_get 81 hk dX11_extent_78 rfl ff_RX11_36 (mk_11_0 (nx_11 hN (j := 0) (by decide))) (gv_11_26 _ _ _) ?_
            refine r_iload_n 82 hk dX11_extent_81 rfl 1 rfl rfl ?_
            obtain ⟨b15, h⟩ := ck_e h
            refine r_iald 83 hk dX11_extent_82 rfl rfl (mk_11_27 (nx_11 hN (j := 0) (by decide))) rfl b15 ?_
            obtain ⟨r16, w17, ew17, h⟩ := ob_e h
            refine r_cVi 86 (As := [.int (((w12 11 0).2.1 26 (x1 : Int32).toNatClampNeg))]) (rest := []) hk (kX11_good hN ew17) cf_RX11_55 mi_X11_good ⟨TX11, 36, rfl⟩ dX11_extent_83 rfl (Nat.le_of_ble_eq_true rfl) (Nat.le_of_ble_eq_true rfl) (mk_11_0 (nx_11 hN (j := 0) (by decide))) rfl rfl (Nat.le_of_ble_eq_true rfl) ?_
            exact r_iret hk hR dX11_extent_86 h
          have h := if_f c14 h
          by_cases c18 : (x2 : Int32) = 1
          · have h := if_t c18 h
            refine r_lookup 87 hk (off := 37) dX11_extent_50 (by decide) (by rw [c18] <;> rfl) rfl ?_
            refine r_aload_n 88 hk dX11_extent_87 rfl 0 rfl rfl ?_
            refine r_aload_n 89 hk dX11_extent_88 rfl 0 rfl rfl ?_
            refine r_get 92 hk dX11_extent_89 rfl ff_RX11_39 (mk_11_0 (nx_11 hN (j := 0) (by decide))) (gv_11_27 _ _ _) ?_
            refine r_iload_n 93 hk dX11_extent_92 rfl 1 rfl rfl ?_
            obtain ⟨b19, h⟩ := ck_e h
            refine r_iald 94 hk dX11_extent_93 rfl rfl (mk_11_28 (nx_11 hN (j := 0) (by decide))) rfl b19 ?_
            obtain ⟨r20, w21, ew21, h⟩ := ob_e h
            refine r_cVi 97 (As := [.int (((w12 11 0).2.1 27 (x1 : Int32).toNatClampNeg))]) (rest := []) hk (kX11_good hN ew21) cf_RX11_55 mi_X11_good ⟨TX11, 36, rfl⟩ dX11_extent_94 rfl (Nat.le_of_ble_eq_true rfl) (Nat.le_of_ble_eq_true rfl) (mk_11_0 (nx_11 hN (j := 0) (by decide))) rfl rfl (Nat.le_of_ble_eq_true rfl) ?_
            exact r_iret hk hR dX11_extent_97 h
          have h := if_f c18 h
          refine r_lookup 98 hk (off := 48) dX11_extent_50 (by decide) (by show Op.lookupswitch.offset [(0, 26), (1, 37)] 48 _ = 48; rw [lv_osw c14 (k := 0) (a := 0) rfl, lv_osw c18 (k := 1) (a := 1) rfl] <;> rfl) rfl ?_
          refine r_aload_n 99 hk dX11_extent_98 rfl 0 rfl rfl ?_
          refine r_aload_n 100 hk dX11_extent_99 rfl 0 rfl rfl ?_
          refine r_aload_n 101 hk dX11_extent_100 rfl 0 rfl rfl ?_
          refine r_get 104 hk dX11_extent_101 rfl ff_RX11_36 (mk_11_0 (nx_11 hN (j := 0) (by decide))) (gv_11_26 _ _ _) ?_
          refine r_iload_n 105 hk dX11_extent_104 rfl 1 rfl rfl ?_
          obtain ⟨b22, h⟩ := ck_e h
          refine r_iald 106 hk dX11_extent_105 rfl rfl (mk_11_27 (nx_11 hN (j := 0) (by decide))) rfl b22 ?_
          obtain ⟨r23, w24, ew24, h⟩ := ob_e h
          refine r_cVi 109 (As := [.int (((w12 11 0).2.1 26 (x1 : Int32).toNatClampNeg))]) (rest := [.ref (al 11 0 0)]) hk (kX11_liveOf hN ew24) cf_RX11_284 mi_X11_liveOf ⟨TX11, 36, rfl⟩ dX11_extent_106 rfl (Nat.le_of_ble_eq_true rfl) (Nat.le_of_ble_eq_true rfl) (mk_11_0 (nx_11 hN (j := 0) (by decide))) rfl rfl (Nat.le_of_ble_eq_true rfl) ?_
          obtain ⟨r25, w26, ew26, h⟩ := ob_e h
          refine r_cVi 112 (As := [.int r23]) (rest := []) hk (kX11_good hN ew26) cf_RX11_55 mi_X11_good ⟨TX11, 36, rfl⟩ dX11_extent_109 rfl (Nat.le_of_ble_eq_true rfl) (Nat.le_of_ble_eq_true rfl) (mk_11_0 (nx_11 hN (j := 0) (by decide))) rfl rfl (Nat.le_of_ble_eq_true rfl) ?_
          exact r_iret hk hR dX11_extent_112 h
        · have h := if_f c13 h
          refine r_aload_n 44 hk dX11_extent_43 rfl 0 rfl rfl ?_
          refine r_iconst 45 hk dX11_extent_44 rfl ci_1 ?_
          obtain ⟨r27, w28, ew28, h⟩ := ob_e h
          refine r_cVi 48 (As := [.int 1]) (rest := []) hk (kX11_refused hN ew28) cf_RX11_51 mi_X11_refused ⟨TX11, 36, rfl⟩ dX11_extent_45 rfl (Nat.le_of_ble_eq_true rfl) (Nat.le_of_ble_eq_true rfl) (mk_11_0 (nx_11 hN (j := 0) (by decide))) rfl rfl (Nat.le_of_ble_eq_true rfl) ?_
          exact r_iret hk hR dX11_extent_48 h
      · have h := if_t c10 h
        refine r_aload_n 26 hk dX11_extent_25 rfl 0 rfl rfl ?_
        refine r_iconst 27 hk dX11_extent_26 rfl ci_1 ?_
        obtain ⟨r29, w30, ew30, h⟩ := ob_e h
        refine r_cVi 30 (As := [.int 1]) (rest := []) hk (kX11_refused hN ew30) cf_RX11_51 mi_X11_refused ⟨TX11, 36, rfl⟩ dX11_extent_27 rfl (Nat.le_of_ble_eq_true rfl) (Nat.le_of_ble_eq_true rfl) (mk_11_0 (nx_11 hN (j := 0) (by decide))) rfl rfl (Nat.le_of_ble_eq_true rfl) ?_
        exact r_iret hk hR dX11_extent_30 h
def fX11_extentFrom_25 (nd : Nat) : Nat → Wd → Int32 → Int32 → Option (Int32 × Wd)
  | 0, _, _, _ => none
  | n + 1, w, x1, x2 =>
    if (((w 11 0).1 28) : Int32) ≤ x2 then
      ob (fX11_good nd w ((-2))) fun r10 w11 =>
      some (r10, w11)
    else
      ck (inb (x2) 48) <|
      ck (inb (x2) 48) <|
      if ((((w 11 0).2.1 26 (x2 : Int32).toNatClampNeg) + ((w 11 0).2.1 27 (x2 : Int32).toNatClampNeg)) : Int32) ≤ x1 then
        lw (x2 + 1) fun x2_15 =>
        fX11_extentFrom_25 nd n w (x1) (x2_15)
      else
        ob (fX11_good nd w (x2)) fun r16 w17 =>
        some (r16, w17)
def fX11_extentFrom (nd : Nat) (w : Wd) (x1 : Int32) : Option (Int32 × Wd) :=
  lw (sI w 11 0 0 (0)) fun w1 =>
  ob (fX11_isTrack nd w1 (x1)) fun r2 w3 =>
  if (r2 : Int32) = 0 then
    ob (fX11_refused nd w3 (1)) fun r7 w8 =>
    some (r7, w8)
  else
    ob (fX11_extentsNow nd w3 ) fun _ w6 =>
    fX11_extentFrom_25 nd fuel0 w6 (x1) (0)
set_option maxRecDepth 100000 in
set_option maxHeartbeats 4000000 in
theorem sX11_extentFrom_25 {K : VC} {al : Al} {r : Int32} {wz : Wd}  (hk : VH K RX11 cX11_extentFrom 3 66) (hR : VR K al (some (.int)) (some (.int r)) wz) (hn : kn K = 3) (hN : NX (kG K)) : ∀ (n : Nat) (w : Wd) (x1 : Int32) (x2 : Int32), fX11_extentFrom_25 (gN (kG K) 10) n w x1 x2 = some (r, wz) → V K al w 25 [(0, .ref (al 11 0 0)), (1, .int x1), (2, .int x2)] [] := by
  intro n
  induction n with
  | zero => intro w x1 x2 h; cases h
  | succ n ih =>
    intro w x1 x2 h
    rw [fX11_extentFrom_25.eq_2] at h
    refine r_iload_n 26 hk dX11_extentFrom_25 rfl 2 rfl rfl ?_
    refine r_aload_n 27 hk dX11_extentFrom_26 rfl 0 rfl rfl ?_
    refine r_get 30 hk dX11_extentFrom_27 rfl ff_RX11_364 (mk_11_0 (nx_11 hN (j := 0) (by decide))) (gv_11_28 _ _ _) ?_
    refine r_icmp_ge 62 33 hk dX11_extentFrom_30 rfl rfl (fun c9 => ?_) (fun c9 => ?_)
    · have h := if_t c9 h
      refine r_aload_n 63 hk dX11_extentFrom_62 rfl 0 rfl rfl ?_
      refine r_bipush 65 hk dX11_extentFrom_63 rfl cb_m2 ?_
      obtain ⟨r10, w11, ew11, h⟩ := ob_e h
      refine r_cVi 68 (As := [.int (-2)]) (rest := []) hk (kX11_good hN ew11) cf_RX11_55 mi_X11_good ⟨TX11, 36, rfl⟩ dX11_extentFrom_65 rfl (Nat.le_of_ble_eq_true rfl) (Nat.le_of_ble_eq_true rfl) (mk_11_0 (nx_11 hN (j := 0) (by decide))) rfl rfl (Nat.le_of_ble_eq_true rfl) ?_
      exact r_iret hk hR dX11_extentFrom_68 h
    · have h := if_f c9 h
      refine r_iload_n 34 hk dX11_extentFrom_33 rfl 1 rfl rfl ?_
      refine r_aload_n 35 hk dX11_extentFrom_34 rfl 0 rfl rfl ?_
      refine r_get 38 hk dX11_extentFrom_35 rfl ff_RX11_36 (mk_11_0 (nx_11 hN (j := 0) (by decide))) (gv_11_26 _ _ _) ?_
      refine r_iload_n 39 hk dX11_extentFrom_38 rfl 2 rfl rfl ?_
      obtain ⟨b12, h⟩ := ck_e h
      refine r_iald 40 hk dX11_extentFrom_39 rfl rfl (mk_11_27 (nx_11 hN (j := 0) (by decide))) rfl b12 ?_
      refine r_aload_n 41 hk dX11_extentFrom_40 rfl 0 rfl rfl ?_
      refine r_get 44 hk dX11_extentFrom_41 rfl ff_RX11_39 (mk_11_0 (nx_11 hN (j := 0) (by decide))) (gv_11_27 _ _ _) ?_
      refine r_iload_n 45 hk dX11_extentFrom_44 rfl 2 rfl rfl ?_
      obtain ⟨b13, h⟩ := ck_e h
      refine r_iald 46 hk dX11_extentFrom_45 rfl rfl (mk_11_28 (nx_11 hN (j := 0) (by decide))) rfl b13 ?_
      refine r_iadd 47 hk dX11_extentFrom_46 rfl ?_
      refine r_icmp_ge 56 50 hk dX11_extentFrom_47 rfl rfl (fun c14 => ?_) (fun c14 => ?_)
      · have h := if_t c14 h
        obtain ⟨x2_15, ex2_15, h⟩ := lw_e h
        refine r_iinc 59 [(2, .int x2_15), (0, .ref (al 11 0 0)), (1, .int x1)] hk (j := 2) dX11_extentFrom_56 rfl hn (by decide) rfl ex2_15 rfl ?_
        refine r_goto 25 hk (x := 0) dX11_extentFrom_59 rfl ?_
        refine r_sub [1, 2, 0] rfl ?_
        exact ih _ _ _ h
      · have h := if_f c14 h
        refine r_aload_n 51 hk dX11_extentFrom_50 rfl 0 rfl rfl ?_
        refine r_iload_n 52 hk dX11_extentFrom_51 rfl 2 rfl rfl ?_
        obtain ⟨r16, w17, ew17, h⟩ := ob_e h
        refine r_cVi 55 (As := [.int x2]) (rest := []) hk (kX11_good hN ew17) cf_RX11_55 mi_X11_good ⟨TX11, 36, rfl⟩ dX11_extentFrom_52 rfl (Nat.le_of_ble_eq_true rfl) (Nat.le_of_ble_eq_true rfl) (mk_11_0 (nx_11 hN (j := 0) (by decide))) rfl rfl (Nat.le_of_ble_eq_true rfl) ?_
        exact r_iret hk hR dX11_extentFrom_55 h
set_option maxRecDepth 100000 in
set_option maxHeartbeats 4000000 in
theorem kX11_extentFrom {l : Launch} {G : Gx} {al : Al} {w : Wd} {x1 : Int32} {r : Int32} {wz : Wd} (hN : NX G) (h : fX11_extentFrom (gN G 10) w x1 = some (r, wz)) : MC l G yX11_extentFrom cX11_extentFrom 3 (some (.int)) 3 66 al w [.ref (al 11 0 0), .int x1] (some (.int r)) wz := by
  refine mc_of [(0, .ref (al 11 0 0)), (1, .int x1)] (by decide) (Nat.le_of_ble_eq_true rfl) rfl ?_
  intro K hk hR hn hl hG
  subst hl; subst hG
  have hk : VH K RX11 cX11_extentFrom 3 66 := hk
  rw [fX11_extentFrom.eq_1] at h
  refine r_aload_n 1 hk dX11_extentFrom_0 rfl 0 rfl rfl ?_
  refine r_iconst 2 hk dX11_extentFrom_1 rfl ci_0 ?_
  obtain ⟨w1, ew1, h⟩ := lw_e h
  refine r_putI 5 w1 hk dX11_extentFrom_2 rfl ff_RX11_45 fi_11_0 (mk_11_0 (nx_11 hN (j := 0) (by decide))) ew1 ?_
  refine r_aload_n 6 hk dX11_extentFrom_5 rfl 0 rfl rfl ?_
  refine r_iload_n 7 hk dX11_extentFrom_6 rfl 1 rfl rfl ?_
  obtain ⟨r2, w3, ew3, h⟩ := ob_e h
  refine r_cVi 10 (As := [.int x1]) (rest := []) hk (kX11_isTrack hN ew3) cf_RX11_346 mi_X11_isTrack ⟨TX11, 36, rfl⟩ dX11_extentFrom_7 rfl (Nat.le_of_ble_eq_true rfl) (Nat.le_of_ble_eq_true rfl) (mk_11_0 (nx_11 hN (j := 0) (by decide))) rfl rfl (Nat.le_of_ble_eq_true rfl) ?_
  refine r_if_ne 19 13 hk dX11_extentFrom_10 rfl rfl (fun c4 => ?_) (fun c4 => ?_)
  · have h := if_f c4 h
    refine r_aload_n 20 hk dX11_extentFrom_19 rfl 0 rfl rfl ?_
    obtain ⟨r5, w6, ew6, h⟩ := ob_e h
    refine r_cVv 23 (As := []) (rest := []) hk (kX11_extentsNow hN ew6) cf_RX11_370 mi_X11_extentsNow ⟨TX11, 36, rfl⟩ dX11_extentFrom_20 rfl (Nat.le_of_ble_eq_true rfl) (Nat.le_of_ble_eq_true rfl) (mk_11_0 (nx_11 hN (j := 0) (by decide))) rfl rfl (Nat.le_of_ble_eq_true rfl) ?_
    refine r_iconst 24 hk dX11_extentFrom_23 rfl ci_0 ?_
    refine r_istore_n 25 [(2, .int 0), (0, .ref (al 11 0 0)), (1, .int x1)] hk dX11_extentFrom_24 rfl rfl hn (by decide) rfl rfl ?_
    refine r_sub [1, 2, 0] rfl ?_
    exact sX11_extentFrom_25 hk hR hn hN _ _ _ _ h
  · have h := if_t c4 h
    refine r_aload_n 14 hk dX11_extentFrom_13 rfl 0 rfl rfl ?_
    refine r_iconst 15 hk dX11_extentFrom_14 rfl ci_1 ?_
    obtain ⟨r7, w8, ew8, h⟩ := ob_e h
    refine r_cVi 18 (As := [.int 1]) (rest := []) hk (kX11_refused hN ew8) cf_RX11_51 mi_X11_refused ⟨TX11, 36, rfl⟩ dX11_extentFrom_15 rfl (Nat.le_of_ble_eq_true rfl) (Nat.le_of_ble_eq_true rfl) (mk_11_0 (nx_11 hN (j := 0) (by decide))) rfl rfl (Nat.le_of_ble_eq_true rfl) ?_
    exact r_iret hk hR dX11_extentFrom_18 h
def fX11_cleansNext (nd : Nat) (w : Wd) : Option (Int32 × Wd) :=
  lw (sI w 11 0 0 (0)) fun w1 =>
  if (w1 11 0).2.2.1 3 = 0 then
    ob (fX11_refused nd w1 (1)) fun r3 w4 =>
    some (r3, w4)
  else
    ob (fX11_works nd w1 ) fun _ w6 =>
    ob (fX11_nextBand nd w6 ) fun r7 w8 =>
    ob (fX11_good nd w8 (r7)) fun r9 w10 =>
    some (r9, w10)
set_option maxRecDepth 100000 in
set_option maxHeartbeats 4000000 in
theorem kX11_cleansNext {l : Launch} {G : Gx} {al : Al} {w : Wd} {r : Int32} {wz : Wd} (hN : NX G) (h : fX11_cleansNext (gN G 10) w = some (r, wz)) : MC l G yX11_cleansNext cX11_cleansNext 1 (some (.int)) 4 90 al w [.ref (al 11 0 0)] (some (.int r)) wz := by
  refine mc_of [(0, .ref (al 11 0 0))] (by decide) (Nat.le_of_ble_eq_true rfl) rfl ?_
  intro K hk hR hn hl hG
  subst hl; subst hG
  have hk : VH K RX11 cX11_cleansNext 4 90 := hk
  rw [fX11_cleansNext.eq_1] at h
  refine r_aload_n 1 hk dX11_cleansNext_0 rfl 0 rfl rfl ?_
  refine r_iconst 2 hk dX11_cleansNext_1 rfl ci_0 ?_
  obtain ⟨w1, ew1, h⟩ := lw_e h
  refine r_putI 5 w1 hk dX11_cleansNext_2 rfl ff_RX11_45 fi_11_0 (mk_11_0 (nx_11 hN (j := 0) (by decide))) ew1 ?_
  refine r_aload_n 6 hk dX11_cleansNext_5 rfl 0 rfl rfl ?_
  refine r_get 9 hk dX11_cleansNext_6 rfl ff_RX11_260 (mk_11_0 (nx_11 hN (j := 0) (by decide))) (gv_11_3 _ _ _) ?_
  by_cases c2 : (w1 11 0).2.2.1 3 = 0
  · have h := if_t c2 h
    refine r_pv0 c2 ?_
    refine r_ifnonnull0 12 hk dX11_cleansNext_9 rfl ?_
    refine r_aload_n 13 hk dX11_cleansNext_12 rfl 0 rfl rfl ?_
    refine r_iconst 14 hk dX11_cleansNext_13 rfl ci_1 ?_
    obtain ⟨r3, w4, ew4, h⟩ := ob_e h
    refine r_cVi 17 (As := [.int 1]) (rest := []) hk (kX11_refused hN ew4) cf_RX11_51 mi_X11_refused ⟨TX11, 36, rfl⟩ dX11_cleansNext_14 rfl (Nat.le_of_ble_eq_true rfl) (Nat.le_of_ble_eq_true rfl) (mk_11_0 (nx_11 hN (j := 0) (by decide))) rfl rfl (Nat.le_of_ble_eq_true rfl) ?_
    exact r_iret hk hR dX11_cleansNext_17 h
  · have h := if_f c2 h
    obtain ⟨q11, eq11⟩ := Nat.exists_eq_succ_of_ne_zero c2
    refine r_pv1 eq11 ?_
    refine r_ifnonnull1 18 hk dX11_cleansNext_9 rfl ?_
    refine r_aload_n 19 hk dX11_cleansNext_18 rfl 0 rfl rfl ?_
    obtain ⟨r5, w6, ew6, h⟩ := ob_e h
    refine r_cVv 22 (As := []) (rest := []) hk (kX11_works hN ew6) cf_RX11_352 mi_X11_works ⟨TX11, 36, rfl⟩ dX11_cleansNext_19 rfl (Nat.le_of_ble_eq_true rfl) (Nat.le_of_ble_eq_true rfl) (mk_11_0 (nx_11 hN (j := 0) (by decide))) rfl rfl (Nat.le_of_ble_eq_true rfl) ?_
    refine r_aload_n 23 hk dX11_cleansNext_22 rfl 0 rfl rfl ?_
    refine r_aload_n 24 hk dX11_cleansNext_23 rfl 0 rfl rfl ?_
    obtain ⟨r7, w8, ew8, h⟩ := ob_e h
    refine r_cVi 27 (As := []) (rest := [.ref (al 11 0 0)]) hk (kX11_nextBand hN ew8) cf_RX11_340 mi_X11_nextBand ⟨TX11, 36, rfl⟩ dX11_cleansNext_24 rfl (Nat.le_of_ble_eq_true rfl) (Nat.le_of_ble_eq_true rfl) (mk_11_0 (nx_11 hN (j := 0) (by decide))) rfl rfl (Nat.le_of_ble_eq_true rfl) ?_
    obtain ⟨r9, w10, ew10, h⟩ := ob_e h
    refine r_cVi 30 (As := [.int r7]) (rest := []) hk (kX11_good hN ew10) cf_RX11_55 mi_X11_good ⟨TX11, 36, rfl⟩ dX11_cleansNext_27 rfl (Nat.le_of_ble_eq_true rfl) (Nat.le_of_ble_eq_true rfl) (mk_11_0 (nx_11 hN (j := 0) (by decide))) rfl rfl (Nat.le_of_ble_eq_true rfl) ?_
    exact r_iret hk hR dX11_cleansNext_30 h
def fX11_cleansThen_33 (nd : Nat) : Nat → Wd → Int32 → Int32 → Int32 → Option (Int32 × Wd)
  | 0, _, _, _, _ => none
  | n + 1, w, x1, x2, x3 =>
    if (x1 : Int32) ≤ x3 then
      ob (fX11_good nd w (x2)) fun r14 w15 =>
      some (r14, w15)
    else
      if (x2 : Int32) = (-2) then
        ob (fX11_good nd w (x2)) fun r17 w18 =>
        some (r17, w18)
      else
        ob (fX11_taken nd w (x2)) fun _ w20 =>
        ob (fX11_nextBand nd w20 ) fun r21 w22 =>
        lw (x3 + 1) fun x3_23 =>
        fX11_cleansThen_33 nd n w22 (x1) (r21) (x3_23)
def fX11_cleansThen (nd : Nat) (w : Wd) (x1 : Int32) : Option (Int32 × Wd) :=
  lw (sI w 11 0 0 (0)) fun w1 =>
  if (w1 11 0).2.2.1 3 = 0 then
    ob (fX11_refused nd w1 (1)) fun r3 w4 =>
    some (r3, w4)
  else
    if (0 : Int32) ≤ x1 then
      ob (fX11_works nd w1 ) fun _ w7 =>
      ob (fX11_nextBand nd w7 ) fun r8 w9 =>
      fX11_cleansThen_33 nd fuel0 w9 (x1) (r8) (0)
    else
      ob (fX11_refused nd w1 (1)) fun r10 w11 =>
      some (r10, w11)
set_option maxRecDepth 100000 in
set_option maxHeartbeats 4000000 in
theorem sX11_cleansThen_33 {K : VC} {al : Al} {r : Int32} {wz : Wd}  (hk : VH K RX11 cX11_cleansThen 4 90) (hR : VR K al (some (.int)) (some (.int r)) wz) (hn : kn K = 4) (hN : NX (kG K)) : ∀ (n : Nat) (w : Wd) (x1 : Int32) (x2 : Int32) (x3 : Int32), fX11_cleansThen_33 (gN (kG K) 10) n w x1 x2 x3 = some (r, wz) → V K al w 33 [(0, .ref (al 11 0 0)), (1, .int x1), (2, .int x2), (3, .int x3)] [] := by
  intro n
  induction n with
  | zero => intro w x1 x2 x3 h; cases h
  | succ n ih =>
    intro w x1 x2 x3 h
    rw [fX11_cleansThen_33.eq_2] at h
    refine r_iload_n 34 hk dX11_cleansThen_33 rfl 3 rfl rfl ?_
    refine r_iload_n 35 hk dX11_cleansThen_34 rfl 1 rfl rfl ?_
    refine r_icmp_ge 60 38 hk dX11_cleansThen_35 rfl rfl (fun c13 => ?_) (fun c13 => ?_)
    · have h := if_t c13 h
      refine r_aload_n 61 hk dX11_cleansThen_60 rfl 0 rfl rfl ?_
      refine r_iload_n 62 hk dX11_cleansThen_61 rfl 2 rfl rfl ?_
      obtain ⟨r14, w15, ew15, h⟩ := ob_e h
      refine r_cVi 65 (As := [.int x2]) (rest := []) hk (kX11_good hN ew15) cf_RX11_55 mi_X11_good ⟨TX11, 36, rfl⟩ dX11_cleansThen_62 rfl (Nat.le_of_ble_eq_true rfl) (Nat.le_of_ble_eq_true rfl) (mk_11_0 (nx_11 hN (j := 0) (by decide))) rfl rfl (Nat.le_of_ble_eq_true rfl) ?_
      exact r_iret hk hR dX11_cleansThen_65 h
    · have h := if_f c13 h
      refine r_iload_n 39 hk dX11_cleansThen_38 rfl 2 rfl rfl ?_
      refine r_bipush 41 hk dX11_cleansThen_39 rfl cb_m2 ?_
      refine r_icmp_eq 60 44 hk dX11_cleansThen_41 rfl rfl (fun c16 => ?_) (fun c16 => ?_)
      · have h := if_t c16 h
        refine r_aload_n 61 hk dX11_cleansThen_60 rfl 0 rfl rfl ?_
        refine r_iload_n 62 hk dX11_cleansThen_61 rfl 2 rfl rfl ?_
        obtain ⟨r17, w18, ew18, h⟩ := ob_e h
        refine r_cVi 65 (As := [.int x2]) (rest := []) hk (kX11_good hN ew18) cf_RX11_55 mi_X11_good ⟨TX11, 36, rfl⟩ dX11_cleansThen_62 rfl (Nat.le_of_ble_eq_true rfl) (Nat.le_of_ble_eq_true rfl) (mk_11_0 (nx_11 hN (j := 0) (by decide))) rfl rfl (Nat.le_of_ble_eq_true rfl) ?_
        exact r_iret hk hR dX11_cleansThen_65 h
      · have h := if_f c16 h
        refine r_aload_n 45 hk dX11_cleansThen_44 rfl 0 rfl rfl ?_
        refine r_iload_n 46 hk dX11_cleansThen_45 rfl 2 rfl rfl ?_
        obtain ⟨r19, w20, ew20, h⟩ := ob_e h
        refine r_cVv 49 (As := [.int x2]) (rest := []) hk (kX11_taken hN ew20) cf_RX11_319 mi_X11_taken ⟨TX11, 36, rfl⟩ dX11_cleansThen_46 rfl (Nat.le_of_ble_eq_true rfl) (Nat.le_of_ble_eq_true rfl) (mk_11_0 (nx_11 hN (j := 0) (by decide))) rfl rfl (Nat.le_of_ble_eq_true rfl) ?_
        refine r_aload_n 50 hk dX11_cleansThen_49 rfl 0 rfl rfl ?_
        obtain ⟨r21, w22, ew22, h⟩ := ob_e h
        refine r_cVi 53 (As := []) (rest := []) hk (kX11_nextBand hN ew22) cf_RX11_340 mi_X11_nextBand ⟨TX11, 36, rfl⟩ dX11_cleansThen_50 rfl (Nat.le_of_ble_eq_true rfl) (Nat.le_of_ble_eq_true rfl) (mk_11_0 (nx_11 hN (j := 0) (by decide))) rfl rfl (Nat.le_of_ble_eq_true rfl) ?_
        refine r_istore_n 54 [(2, .int r21), (0, .ref (al 11 0 0)), (1, .int x1), (3, .int x3)] hk dX11_cleansThen_53 rfl rfl hn (by decide) rfl rfl ?_
        obtain ⟨x3_23, ex3_23, h⟩ := lw_e h
        refine r_iinc 57 [(3, .int x3_23), (2, .int r21), (0, .ref (al 11 0 0)), (1, .int x1)] hk (j := 3) dX11_cleansThen_54 rfl hn (by decide) rfl ex3_23 rfl ?_
        refine r_goto 33 hk (x := 0) dX11_cleansThen_57 rfl ?_
        refine r_sub [2, 3, 1, 0] rfl ?_
        exact ih _ _ _ _ h
set_option maxRecDepth 100000 in
set_option maxHeartbeats 4000000 in
theorem kX11_cleansThen {l : Launch} {G : Gx} {al : Al} {w : Wd} {x1 : Int32} {r : Int32} {wz : Wd} (hN : NX G) (h : fX11_cleansThen (gN G 10) w x1 = some (r, wz)) : MC l G yX11_cleansThen cX11_cleansThen 4 (some (.int)) 4 90 al w [.ref (al 11 0 0), .int x1] (some (.int r)) wz := by
  refine mc_of [(0, .ref (al 11 0 0)), (1, .int x1)] (by decide) (Nat.le_of_ble_eq_true rfl) rfl ?_
  intro K hk hR hn hl hG
  subst hl; subst hG
  have hk : VH K RX11 cX11_cleansThen 4 90 := hk
  rw [fX11_cleansThen.eq_1] at h
  refine r_aload_n 1 hk dX11_cleansThen_0 rfl 0 rfl rfl ?_
  refine r_iconst 2 hk dX11_cleansThen_1 rfl ci_0 ?_
  obtain ⟨w1, ew1, h⟩ := lw_e h
  refine r_putI 5 w1 hk dX11_cleansThen_2 rfl ff_RX11_45 fi_11_0 (mk_11_0 (nx_11 hN (j := 0) (by decide))) ew1 ?_
  refine r_aload_n 6 hk dX11_cleansThen_5 rfl 0 rfl rfl ?_
  refine r_get 9 hk dX11_cleansThen_6 rfl ff_RX11_260 (mk_11_0 (nx_11 hN (j := 0) (by decide))) (gv_11_3 _ _ _) ?_
  by_cases c2 : (w1 11 0).2.2.1 3 = 0
  · have h := if_t c2 h
    refine r_pv0 c2 ?_
    refine r_ifnull1 16 hk (x := 0) dX11_cleansThen_9 rfl ?_
    refine r_aload_n 17 hk dX11_cleansThen_16 rfl 0 rfl rfl ?_
    refine r_iconst 18 hk dX11_cleansThen_17 rfl ci_1 ?_
    obtain ⟨r3, w4, ew4, h⟩ := ob_e h
    refine r_cVi 21 (As := [.int 1]) (rest := []) hk (kX11_refused hN ew4) cf_RX11_51 mi_X11_refused ⟨TX11, 36, rfl⟩ dX11_cleansThen_18 rfl (Nat.le_of_ble_eq_true rfl) (Nat.le_of_ble_eq_true rfl) (mk_11_0 (nx_11 hN (j := 0) (by decide))) rfl rfl (Nat.le_of_ble_eq_true rfl) ?_
    exact r_iret hk hR dX11_cleansThen_21 h
  · have h := if_f c2 h
    obtain ⟨q12, eq12⟩ := Nat.exists_eq_succ_of_ne_zero c2
    refine r_pv1 eq12 ?_
    refine r_ifnull0 12 hk dX11_cleansThen_9 rfl ?_
    refine r_iload_n 13 hk dX11_cleansThen_12 rfl 1 rfl rfl ?_
    refine r_if_ge 22 16 hk dX11_cleansThen_13 rfl rfl (fun c5 => ?_) (fun c5 => ?_)
    · have h := if_t c5 h
      refine r_aload_n 23 hk dX11_cleansThen_22 rfl 0 rfl rfl ?_
      obtain ⟨r6, w7, ew7, h⟩ := ob_e h
      refine r_cVv 26 (As := []) (rest := []) hk (kX11_works hN ew7) cf_RX11_352 mi_X11_works ⟨TX11, 36, rfl⟩ dX11_cleansThen_23 rfl (Nat.le_of_ble_eq_true rfl) (Nat.le_of_ble_eq_true rfl) (mk_11_0 (nx_11 hN (j := 0) (by decide))) rfl rfl (Nat.le_of_ble_eq_true rfl) ?_
      refine r_aload_n 27 hk dX11_cleansThen_26 rfl 0 rfl rfl ?_
      obtain ⟨r8, w9, ew9, h⟩ := ob_e h
      refine r_cVi 30 (As := []) (rest := []) hk (kX11_nextBand hN ew9) cf_RX11_340 mi_X11_nextBand ⟨TX11, 36, rfl⟩ dX11_cleansThen_27 rfl (Nat.le_of_ble_eq_true rfl) (Nat.le_of_ble_eq_true rfl) (mk_11_0 (nx_11 hN (j := 0) (by decide))) rfl rfl (Nat.le_of_ble_eq_true rfl) ?_
      refine r_istore_n 31 [(2, .int r8), (0, .ref (al 11 0 0)), (1, .int x1)] hk dX11_cleansThen_30 rfl rfl hn (by decide) rfl rfl ?_
      refine r_iconst 32 hk dX11_cleansThen_31 rfl ci_0 ?_
      refine r_istore_n 33 [(3, .int 0), (2, .int r8), (0, .ref (al 11 0 0)), (1, .int x1)] hk dX11_cleansThen_32 rfl rfl hn (by decide) rfl rfl ?_
      refine r_sub [2, 3, 1, 0] rfl ?_
      exact sX11_cleansThen_33 hk hR hn hN _ _ _ _ _ h
    · have h := if_f c5 h
      refine r_aload_n 17 hk dX11_cleansThen_16 rfl 0 rfl rfl ?_
      refine r_iconst 18 hk dX11_cleansThen_17 rfl ci_1 ?_
      obtain ⟨r10, w11, ew11, h⟩ := ob_e h
      refine r_cVi 21 (As := [.int 1]) (rest := []) hk (kX11_refused hN ew11) cf_RX11_51 mi_X11_refused ⟨TX11, 36, rfl⟩ dX11_cleansThen_18 rfl (Nat.le_of_ble_eq_true rfl) (Nat.le_of_ble_eq_true rfl) (mk_11_0 (nx_11 hN (j := 0) (by decide))) rfl rfl (Nat.le_of_ble_eq_true rfl) ?_
      exact r_iret hk hR dX11_cleansThen_21 h
def fX11_steps (nd : Nat) (w : Wd) (x1 : Int32) : Option (Int32 × Wd) :=
  lw (sI w 11 0 0 (0)) fun w1 =>
  ob (fX11_isBand nd w1 (x1)) fun r2 w3 =>
  if (r2 : Int32) = 0 then
    ob (fX11_refused nd w3 (1)) fun r11 w12 =>
    some (r11, w12)
  else
    ob (fX11_works nd w3 ) fun _ w6 =>
    ob (fX11_stepsOf nd w6 (x1)) fun r7 w8 =>
    ob (fX11_good nd w8 (r7)) fun r9 w10 =>
    some (r9, w10)
set_option maxRecDepth 100000 in
set_option maxHeartbeats 4000000 in
theorem kX11_steps {l : Launch} {G : Gx} {al : Al} {w : Wd} {x1 : Int32} {r : Int32} {wz : Wd} (hN : NX G) (h : fX11_steps (gN G 10) w x1 = some (r, wz)) : MC l G yX11_steps cX11_steps 2 (some (.int)) 2 43 al w [.ref (al 11 0 0), .int x1] (some (.int r)) wz := by
  refine mc_of [(0, .ref (al 11 0 0)), (1, .int x1)] (by decide) (Nat.le_of_ble_eq_true rfl) rfl ?_
  intro K hk hR hn hl hG
  subst hl; subst hG
  have hk : VH K RX11 cX11_steps 2 43 := hk
  rw [fX11_steps.eq_1] at h
  refine r_aload_n 1 hk dX11_steps_0 rfl 0 rfl rfl ?_
  refine r_iconst 2 hk dX11_steps_1 rfl ci_0 ?_
  obtain ⟨w1, ew1, h⟩ := lw_e h
  refine r_putI 5 w1 hk dX11_steps_2 rfl ff_RX11_45 fi_11_0 (mk_11_0 (nx_11 hN (j := 0) (by decide))) ew1 ?_
  refine r_aload_n 6 hk dX11_steps_5 rfl 0 rfl rfl ?_
  refine r_iload_n 7 hk dX11_steps_6 rfl 1 rfl rfl ?_
  obtain ⟨r2, w3, ew3, h⟩ := ob_e h
  refine r_cVi 10 (As := [.int x1]) (rest := []) hk (kX11_isBand hN ew3) cf_RX11_355 mi_X11_isBand ⟨TX11, 36, rfl⟩ dX11_steps_7 rfl (Nat.le_of_ble_eq_true rfl) (Nat.le_of_ble_eq_true rfl) (mk_11_0 (nx_11 hN (j := 0) (by decide))) rfl rfl (Nat.le_of_ble_eq_true rfl) ?_
  refine r_if_ne 19 13 hk dX11_steps_10 rfl rfl (fun c4 => ?_) (fun c4 => ?_)
  · have h := if_f c4 h
    refine r_aload_n 20 hk dX11_steps_19 rfl 0 rfl rfl ?_
    obtain ⟨r5, w6, ew6, h⟩ := ob_e h
    refine r_cVv 23 (As := []) (rest := []) hk (kX11_works hN ew6) cf_RX11_352 mi_X11_works ⟨TX11, 36, rfl⟩ dX11_steps_20 rfl (Nat.le_of_ble_eq_true rfl) (Nat.le_of_ble_eq_true rfl) (mk_11_0 (nx_11 hN (j := 0) (by decide))) rfl rfl (Nat.le_of_ble_eq_true rfl) ?_
    refine r_aload_n 24 hk dX11_steps_23 rfl 0 rfl rfl ?_
    refine r_aload_n 25 hk dX11_steps_24 rfl 0 rfl rfl ?_
    refine r_iload_n 26 hk dX11_steps_25 rfl 1 rfl rfl ?_
    obtain ⟨r7, w8, ew8, h⟩ := ob_e h
    refine r_cVi 29 (As := [.int x1]) (rest := [.ref (al 11 0 0)]) hk (kX11_stepsOf hN ew8) cf_RX11_328 mi_X11_stepsOf ⟨TX11, 36, rfl⟩ dX11_steps_26 rfl (Nat.le_of_ble_eq_true rfl) (Nat.le_of_ble_eq_true rfl) (mk_11_0 (nx_11 hN (j := 0) (by decide))) rfl rfl (Nat.le_of_ble_eq_true rfl) ?_
    obtain ⟨r9, w10, ew10, h⟩ := ob_e h
    refine r_cVi 32 (As := [.int r7]) (rest := []) hk (kX11_good hN ew10) cf_RX11_55 mi_X11_good ⟨TX11, 36, rfl⟩ dX11_steps_29 rfl (Nat.le_of_ble_eq_true rfl) (Nat.le_of_ble_eq_true rfl) (mk_11_0 (nx_11 hN (j := 0) (by decide))) rfl rfl (Nat.le_of_ble_eq_true rfl) ?_
    exact r_iret hk hR dX11_steps_32 h
  · have h := if_t c4 h
    refine r_aload_n 14 hk dX11_steps_13 rfl 0 rfl rfl ?_
    refine r_iconst 15 hk dX11_steps_14 rfl ci_1 ?_
    obtain ⟨r11, w12, ew12, h⟩ := ob_e h
    refine r_cVi 18 (As := [.int 1]) (rest := []) hk (kX11_refused hN ew12) cf_RX11_51 mi_X11_refused ⟨TX11, 36, rfl⟩ dX11_steps_15 rfl (Nat.le_of_ble_eq_true rfl) (Nat.le_of_ble_eq_true rfl) (mk_11_0 (nx_11 hN (j := 0) (by decide))) rfl rfl (Nat.le_of_ble_eq_true rfl) ?_
    exact r_iret hk hR dX11_steps_18 h
def fX11_rids (nd : Nat) (w : Wd) (x1 : Int32) : Option (Int32 × Wd) :=
  lw (sI w 11 0 0 (0)) fun w1 =>
  ob (fX11_isBand nd w1 (x1)) fun r2 w3 =>
  if (r2 : Int32) = 0 then
    ob (fX11_refused nd w3 (1)) fun r11 w12 =>
    some (r11, w12)
  else
    ob (fX11_works nd w3 ) fun _ w6 =>
    ob (fX11_entriesOf nd w6 (x1) (0)) fun r7 w8 =>
    ob (fX11_good nd w8 (r7)) fun r9 w10 =>
    some (r9, w10)
set_option maxRecDepth 100000 in
set_option maxHeartbeats 4000000 in
theorem kX11_rids {l : Launch} {G : Gx} {al : Al} {w : Wd} {x1 : Int32} {r : Int32} {wz : Wd} (hN : NX G) (h : fX11_rids (gN G 10) w x1 = some (r, wz)) : MC l G yX11_rids cX11_rids 2 (some (.int)) 2 46 al w [.ref (al 11 0 0), .int x1] (some (.int r)) wz := by
  refine mc_of [(0, .ref (al 11 0 0)), (1, .int x1)] (by decide) (Nat.le_of_ble_eq_true rfl) rfl ?_
  intro K hk hR hn hl hG
  subst hl; subst hG
  have hk : VH K RX11 cX11_rids 2 46 := hk
  rw [fX11_rids.eq_1] at h
  refine r_aload_n 1 hk dX11_rids_0 rfl 0 rfl rfl ?_
  refine r_iconst 2 hk dX11_rids_1 rfl ci_0 ?_
  obtain ⟨w1, ew1, h⟩ := lw_e h
  refine r_putI 5 w1 hk dX11_rids_2 rfl ff_RX11_45 fi_11_0 (mk_11_0 (nx_11 hN (j := 0) (by decide))) ew1 ?_
  refine r_aload_n 6 hk dX11_rids_5 rfl 0 rfl rfl ?_
  refine r_iload_n 7 hk dX11_rids_6 rfl 1 rfl rfl ?_
  obtain ⟨r2, w3, ew3, h⟩ := ob_e h
  refine r_cVi 10 (As := [.int x1]) (rest := []) hk (kX11_isBand hN ew3) cf_RX11_355 mi_X11_isBand ⟨TX11, 36, rfl⟩ dX11_rids_7 rfl (Nat.le_of_ble_eq_true rfl) (Nat.le_of_ble_eq_true rfl) (mk_11_0 (nx_11 hN (j := 0) (by decide))) rfl rfl (Nat.le_of_ble_eq_true rfl) ?_
  refine r_if_ne 19 13 hk dX11_rids_10 rfl rfl (fun c4 => ?_) (fun c4 => ?_)
  · have h := if_f c4 h
    refine r_aload_n 20 hk dX11_rids_19 rfl 0 rfl rfl ?_
    obtain ⟨r5, w6, ew6, h⟩ := ob_e h
    refine r_cVv 23 (As := []) (rest := []) hk (kX11_works hN ew6) cf_RX11_352 mi_X11_works ⟨TX11, 36, rfl⟩ dX11_rids_20 rfl (Nat.le_of_ble_eq_true rfl) (Nat.le_of_ble_eq_true rfl) (mk_11_0 (nx_11 hN (j := 0) (by decide))) rfl rfl (Nat.le_of_ble_eq_true rfl) ?_
    refine r_aload_n 24 hk dX11_rids_23 rfl 0 rfl rfl ?_
    refine r_aload_n 25 hk dX11_rids_24 rfl 0 rfl rfl ?_
    refine r_iload_n 26 hk dX11_rids_25 rfl 1 rfl rfl ?_
    refine r_iconst 27 hk dX11_rids_26 rfl ci_0 ?_
    obtain ⟨r7, w8, ew8, h⟩ := ob_e h
    refine r_cVi 30 (As := [.int x1, .int 0]) (rest := [.ref (al 11 0 0)]) hk (kX11_entriesOf hN ew8) cf_RX11_299 mi_X11_entriesOf ⟨TX11, 36, rfl⟩ dX11_rids_27 rfl (Nat.le_of_ble_eq_true rfl) (Nat.le_of_ble_eq_true rfl) (mk_11_0 (nx_11 hN (j := 0) (by decide))) rfl rfl (Nat.le_of_ble_eq_true rfl) ?_
    obtain ⟨r9, w10, ew10, h⟩ := ob_e h
    refine r_cVi 33 (As := [.int r7]) (rest := []) hk (kX11_good hN ew10) cf_RX11_55 mi_X11_good ⟨TX11, 36, rfl⟩ dX11_rids_30 rfl (Nat.le_of_ble_eq_true rfl) (Nat.le_of_ble_eq_true rfl) (mk_11_0 (nx_11 hN (j := 0) (by decide))) rfl rfl (Nat.le_of_ble_eq_true rfl) ?_
    exact r_iret hk hR dX11_rids_33 h
  · have h := if_t c4 h
    refine r_aload_n 14 hk dX11_rids_13 rfl 0 rfl rfl ?_
    refine r_iconst 15 hk dX11_rids_14 rfl ci_1 ?_
    obtain ⟨r11, w12, ew12, h⟩ := ob_e h
    refine r_cVi 18 (As := [.int 1]) (rest := []) hk (kX11_refused hN ew12) cf_RX11_51 mi_X11_refused ⟨TX11, 36, rfl⟩ dX11_rids_15 rfl (Nat.le_of_ble_eq_true rfl) (Nat.le_of_ble_eq_true rfl) (mk_11_0 (nx_11 hN (j := 0) (by decide))) rfl rfl (Nat.le_of_ble_eq_true rfl) ?_
    exact r_iret hk hR dX11_rids_18 h
def fX11_refusesCut (nd : Nat) (w : Wd) (x1 : Int32) (x2 : Int32) : Option (Int32 × Wd) :=
  ob (fX11_isBand nd w (x1)) fun r1 w2 =>
  if (r1 : Int32) = 0 then
    some (1, w2)
  else
    ob (fX11_works nd w2 ) fun _ w5 =>
    ob (fX11_stepsOf nd w5 (x1)) fun r6 w7 =>
    ob (fX11_in nd w7 (x2) (0) (r6)) fun r8 w9 =>
    if (r8 : Int32) = 0 then
      some (2, w9)
    else
      ob (fX11_isDown nd w9 ) fun r11 w12 =>
      if (r11 : Int32) = 0 then
        some (0, w12)
      else
        some (5, w12)
set_option maxRecDepth 100000 in
set_option maxHeartbeats 4000000 in
theorem kX11_refusesCut {l : Launch} {G : Gx} {al : Al} {w : Wd} {x1 : Int32} {x2 : Int32} {r : Int32} {wz : Wd} (hN : NX G) (h : fX11_refusesCut (gN G 10) w x1 x2 = some (r, wz)) : MC l G yX11_refusesCut cX11_refusesCut 3 (some (.int)) 2 43 al w [.ref (al 11 0 0), .int x1, .int x2] (some (.int r)) wz := by
  refine mc_of [(0, .ref (al 11 0 0)), (1, .int x1), (2, .int x2)] (by decide) (Nat.le_of_ble_eq_true rfl) rfl ?_
  intro K hk hR hn hl hG
  subst hl; subst hG
  have hk : VH K RX11 cX11_refusesCut 2 43 := hk
  rw [fX11_refusesCut.eq_1] at h
  refine r_aload_n 1 hk dX11_refusesCut_0 rfl 0 rfl rfl ?_
  refine r_iload_n 2 hk dX11_refusesCut_1 rfl 1 rfl rfl ?_
  obtain ⟨r1, w2, ew2, h⟩ := ob_e h
  refine r_cVi 5 (As := [.int x1]) (rest := []) hk (kX11_isBand hN ew2) cf_RX11_355 mi_X11_isBand ⟨TX11, 36, rfl⟩ dX11_refusesCut_2 rfl (Nat.le_of_ble_eq_true rfl) (Nat.le_of_ble_eq_true rfl) (mk_11_0 (nx_11 hN (j := 0) (by decide))) rfl rfl (Nat.le_of_ble_eq_true rfl) ?_
  refine r_if_ne 10 8 hk dX11_refusesCut_5 rfl rfl (fun c3 => ?_) (fun c3 => ?_)
  · have h := if_f c3 h
    refine r_aload_n 11 hk dX11_refusesCut_10 rfl 0 rfl rfl ?_
    obtain ⟨r4, w5, ew5, h⟩ := ob_e h
    refine r_cVv 14 (As := []) (rest := []) hk (kX11_works hN ew5) cf_RX11_352 mi_X11_works ⟨TX11, 36, rfl⟩ dX11_refusesCut_11 rfl (Nat.le_of_ble_eq_true rfl) (Nat.le_of_ble_eq_true rfl) (mk_11_0 (nx_11 hN (j := 0) (by decide))) rfl rfl (Nat.le_of_ble_eq_true rfl) ?_
    refine r_iload_n 15 hk dX11_refusesCut_14 rfl 2 rfl rfl ?_
    refine r_iconst 16 hk dX11_refusesCut_15 rfl ci_0 ?_
    refine r_aload_n 17 hk dX11_refusesCut_16 rfl 0 rfl rfl ?_
    refine r_iload_n 18 hk dX11_refusesCut_17 rfl 1 rfl rfl ?_
    obtain ⟨r6, w7, ew7, h⟩ := ob_e h
    refine r_cVi 21 (As := [.int x1]) (rest := [.int 0, .int x2]) hk (kX11_stepsOf hN ew7) cf_RX11_328 mi_X11_stepsOf ⟨TX11, 36, rfl⟩ dX11_refusesCut_18 rfl (Nat.le_of_ble_eq_true rfl) (Nat.le_of_ble_eq_true rfl) (mk_11_0 (nx_11 hN (j := 0) (by decide))) rfl rfl (Nat.le_of_ble_eq_true rfl) ?_
    obtain ⟨r8, w9, ew9, h⟩ := ob_e h
    refine r_cSi 24 (As := [.int x2, .int 0, .int r6]) (rest := []) hk (kX11_in hN ew9) cf_RX11_124 ms_X11_in dX11_refusesCut_21 rfl (Nat.le_of_ble_eq_true rfl) (Nat.le_of_ble_eq_true rfl) rfl rfl (Nat.le_of_ble_eq_true rfl) ?_
    refine r_if_ne 29 27 hk dX11_refusesCut_24 rfl rfl (fun c10 => ?_) (fun c10 => ?_)
    · have h := if_f c10 h
      refine r_aload_n 30 hk dX11_refusesCut_29 rfl 0 rfl rfl ?_
      obtain ⟨r11, w12, ew12, h⟩ := ob_e h
      refine r_cVi 33 (As := []) (rest := []) hk (kX11_isDown hN ew12) cf_RX11_349 mi_X11_isDown ⟨TX11, 36, rfl⟩ dX11_refusesCut_30 rfl (Nat.le_of_ble_eq_true rfl) (Nat.le_of_ble_eq_true rfl) (mk_11_0 (nx_11 hN (j := 0) (by decide))) rfl rfl (Nat.le_of_ble_eq_true rfl) ?_
      refine r_if_eq 40 36 hk dX11_refusesCut_33 rfl rfl (fun c13 => ?_) (fun c13 => ?_)
      · have h := if_t c13 h
        refine r_iconst 41 hk dX11_refusesCut_40 rfl ci_0 ?_
        exact r_iret hk hR dX11_refusesCut_41 h
      · have h := if_f c13 h
        refine r_iconst 37 hk dX11_refusesCut_36 rfl ci_5 ?_
        refine r_goto 41 hk (x := 0) dX11_refusesCut_37 rfl ?_
        exact r_iret hk hR dX11_refusesCut_41 h
    · have h := if_t c10 h
      refine r_iconst 28 hk dX11_refusesCut_27 rfl ci_2 ?_
      exact r_iret hk hR dX11_refusesCut_28 h
  · have h := if_t c3 h
    refine r_iconst 9 hk dX11_refusesCut_8 rfl ci_1 ?_
    exact r_iret hk hR dX11_refusesCut_9 h
def fX11_damages (nd : Nat) (w : Wd) (x1 : Int32) (x2 : Int32) : Option (Int32 × Wd) :=
  lw (sI w 11 0 0 (0)) fun w1 =>
  ob (fX11_refusesCut nd w1 (x1) (x2)) fun r2 w3 =>
  if (r2 : Int32) ≤ 0 then
    ob (fX11_cuts nd w3 (x1) (x2)) fun r5 w6 =>
    ob (fX11_good nd w6 (r5)) fun r7 w8 =>
    some (r7, w8)
  else
    ob (fX11_refused nd w3 (r2)) fun r9 w10 =>
    some (r9, w10)
set_option maxRecDepth 100000 in
set_option maxHeartbeats 4000000 in
theorem kX11_damages {l : Launch} {G : Gx} {al : Al} {w : Wd} {x1 : Int32} {x2 : Int32} {r : Int32} {wz : Wd} (hN : NX G) (h : fX11_damages (gN G 10) w x1 x2 = some (r, wz)) : MC l G yX11_damages cX11_damages 4 (some (.int)) 6 135 al w [.ref (al 11 0 0), .int x1, .int x2] (some (.int r)) wz := by
  refine mc_of [(0, .ref (al 11 0 0)), (1, .int x1), (2, .int x2)] (by decide) (Nat.le_of_ble_eq_true rfl) rfl ?_
  intro K hk hR hn hl hG
  subst hl; subst hG
  have hk : VH K RX11 cX11_damages 6 135 := hk
  rw [fX11_damages.eq_1] at h
  refine r_aload_n 1 hk dX11_damages_0 rfl 0 rfl rfl ?_
  refine r_iconst 2 hk dX11_damages_1 rfl ci_0 ?_
  obtain ⟨w1, ew1, h⟩ := lw_e h
  refine r_putI 5 w1 hk dX11_damages_2 rfl ff_RX11_45 fi_11_0 (mk_11_0 (nx_11 hN (j := 0) (by decide))) ew1 ?_
  refine r_aload_n 6 hk dX11_damages_5 rfl 0 rfl rfl ?_
  refine r_iload_n 7 hk dX11_damages_6 rfl 1 rfl rfl ?_
  refine r_iload_n 8 hk dX11_damages_7 rfl 2 rfl rfl ?_
  obtain ⟨r2, w3, ew3, h⟩ := ob_e h
  refine r_cVi 11 (As := [.int x1, .int x2]) (rest := []) hk (kX11_refusesCut hN ew3) cf_RX11_373 mi_X11_refusesCut ⟨TX11, 36, rfl⟩ dX11_damages_8 rfl (Nat.le_of_ble_eq_true rfl) (Nat.le_of_ble_eq_true rfl) (mk_11_0 (nx_11 hN (j := 0) (by decide))) rfl rfl (Nat.le_of_ble_eq_true rfl) ?_
  refine r_istore_n 12 [(3, .int r2), (0, .ref (al 11 0 0)), (1, .int x1), (2, .int x2)] hk dX11_damages_11 rfl rfl hn (by decide) rfl rfl ?_
  refine r_iload_n 13 hk dX11_damages_12 rfl 0 rfl rfl ?_
  refine r_if_le 22 16 hk dX11_damages_13 rfl rfl (fun c4 => ?_) (fun c4 => ?_)
  · have h := if_t c4 h
    refine r_aload_n 23 hk dX11_damages_22 rfl 1 rfl rfl ?_
    refine r_aload_n 24 hk dX11_damages_23 rfl 1 rfl rfl ?_
    refine r_iload_n 25 hk dX11_damages_24 rfl 2 rfl rfl ?_
    refine r_iload_n 26 hk dX11_damages_25 rfl 3 rfl rfl ?_
    obtain ⟨r5, w6, ew6, h⟩ := ob_e h
    refine r_cVi 29 (As := [.int x1, .int x2]) (rest := [.ref (al 11 0 0)]) hk (kX11_cuts hN ew6) cf_RX11_376 mi_X11_cuts ⟨TX11, 36, rfl⟩ dX11_damages_26 rfl (Nat.le_of_ble_eq_true rfl) (Nat.le_of_ble_eq_true rfl) (mk_11_0 (nx_11 hN (j := 0) (by decide))) rfl rfl (Nat.le_of_ble_eq_true rfl) ?_
    obtain ⟨r7, w8, ew8, h⟩ := ob_e h
    refine r_cVi 32 (As := [.int r5]) (rest := []) hk (kX11_good hN ew8) cf_RX11_55 mi_X11_good ⟨TX11, 36, rfl⟩ dX11_damages_29 rfl (Nat.le_of_ble_eq_true rfl) (Nat.le_of_ble_eq_true rfl) (mk_11_0 (nx_11 hN (j := 0) (by decide))) rfl rfl (Nat.le_of_ble_eq_true rfl) ?_
    exact r_iret hk hR dX11_damages_32 h
  · have h := if_f c4 h
    refine r_aload_n 17 hk dX11_damages_16 rfl 1 rfl rfl ?_
    refine r_iload_n 18 hk dX11_damages_17 rfl 0 rfl rfl ?_
    obtain ⟨r9, w10, ew10, h⟩ := ob_e h
    refine r_cVi 21 (As := [.int r2]) (rest := []) hk (kX11_refused hN ew10) cf_RX11_51 mi_X11_refused ⟨TX11, 36, rfl⟩ dX11_damages_18 rfl (Nat.le_of_ble_eq_true rfl) (Nat.le_of_ble_eq_true rfl) (mk_11_0 (nx_11 hN (j := 0) (by decide))) rfl rfl (Nat.le_of_ble_eq_true rfl) ?_
    exact r_iret hk hR dX11_damages_21 h
def fX11_fullThen (nd : Nat) (w : Wd) (x1 : Int32) (x2 : Int32) : Option (Int32 × Wd) :=
  lw (sI w 11 0 0 (0)) fun w1 =>
  ob (fX11_refusesCut nd w1 (x1) (x2)) fun r2 w3 =>
  if (r2 : Int32) ≤ 0 then
    ob (fX11_cuts nd w3 (x1) (x2)) fun r5 w6 =>
    ck (inb (100) 110) <|
    ob (fX11_good nd w6 (((w6 11 0).2.1 16 (100 : Int32).toNatClampNeg))) fun r8 w9 =>
    some (r8, w9)
  else
    ob (fX11_refused nd w3 (r2)) fun r10 w11 =>
    some (r10, w11)
set_option maxRecDepth 100000 in
set_option maxHeartbeats 4000000 in
theorem kX11_fullThen {l : Launch} {G : Gx} {al : Al} {w : Wd} {x1 : Int32} {x2 : Int32} {r : Int32} {wz : Wd} (hN : NX G) (h : fX11_fullThen (gN G 10) w x1 x2 = some (r, wz)) : MC l G yX11_fullThen cX11_fullThen 4 (some (.int)) 6 135 al w [.ref (al 11 0 0), .int x1, .int x2] (some (.int r)) wz := by
  refine mc_of [(0, .ref (al 11 0 0)), (1, .int x1), (2, .int x2)] (by decide) (Nat.le_of_ble_eq_true rfl) rfl ?_
  intro K hk hR hn hl hG
  subst hl; subst hG
  have hk : VH K RX11 cX11_fullThen 6 135 := hk
  rw [fX11_fullThen.eq_1] at h
  refine r_aload_n 1 hk dX11_fullThen_0 rfl 0 rfl rfl ?_
  refine r_iconst 2 hk dX11_fullThen_1 rfl ci_0 ?_
  obtain ⟨w1, ew1, h⟩ := lw_e h
  refine r_putI 5 w1 hk dX11_fullThen_2 rfl ff_RX11_45 fi_11_0 (mk_11_0 (nx_11 hN (j := 0) (by decide))) ew1 ?_
  refine r_aload_n 6 hk dX11_fullThen_5 rfl 0 rfl rfl ?_
  refine r_iload_n 7 hk dX11_fullThen_6 rfl 1 rfl rfl ?_
  refine r_iload_n 8 hk dX11_fullThen_7 rfl 2 rfl rfl ?_
  obtain ⟨r2, w3, ew3, h⟩ := ob_e h
  refine r_cVi 11 (As := [.int x1, .int x2]) (rest := []) hk (kX11_refusesCut hN ew3) cf_RX11_373 mi_X11_refusesCut ⟨TX11, 36, rfl⟩ dX11_fullThen_8 rfl (Nat.le_of_ble_eq_true rfl) (Nat.le_of_ble_eq_true rfl) (mk_11_0 (nx_11 hN (j := 0) (by decide))) rfl rfl (Nat.le_of_ble_eq_true rfl) ?_
  refine r_istore_n 12 [(3, .int r2), (0, .ref (al 11 0 0)), (1, .int x1), (2, .int x2)] hk dX11_fullThen_11 rfl rfl hn (by decide) rfl rfl ?_
  refine r_iload_n 13 hk dX11_fullThen_12 rfl 0 rfl rfl ?_
  refine r_if_le 22 16 hk dX11_fullThen_13 rfl rfl (fun c4 => ?_) (fun c4 => ?_)
  · have h := if_t c4 h
    refine r_aload_n 23 hk dX11_fullThen_22 rfl 1 rfl rfl ?_
    refine r_iload_n 24 hk dX11_fullThen_23 rfl 2 rfl rfl ?_
    refine r_iload_n 25 hk dX11_fullThen_24 rfl 3 rfl rfl ?_
    obtain ⟨r5, w6, ew6, h⟩ := ob_e h
    refine r_cVi 28 (As := [.int x1, .int x2]) (rest := []) hk (kX11_cuts hN ew6) cf_RX11_376 mi_X11_cuts ⟨TX11, 36, rfl⟩ dX11_fullThen_25 rfl (Nat.le_of_ble_eq_true rfl) (Nat.le_of_ble_eq_true rfl) (mk_11_0 (nx_11 hN (j := 0) (by decide))) rfl rfl (Nat.le_of_ble_eq_true rfl) ?_
    refine r_pop 29 hk dX11_fullThen_28 rfl rfl ?_
    refine r_aload_n 30 hk dX11_fullThen_29 rfl 1 rfl rfl ?_
    refine r_aload_n 31 hk dX11_fullThen_30 rfl 1 rfl rfl ?_
    refine r_get 34 hk dX11_fullThen_31 rfl ff_RX11_21 (mk_11_0 (nx_11 hN (j := 0) (by decide))) (gv_11_16 _ _ _) ?_
    refine r_bipush 36 hk dX11_fullThen_34 rfl cb_100 ?_
    obtain ⟨b7, h⟩ := ck_e h
    refine r_iald 37 hk dX11_fullThen_36 rfl rfl (mk_11_17 (nx_11 hN (j := 0) (by decide))) rfl b7 ?_
    obtain ⟨r8, w9, ew9, h⟩ := ob_e h
    refine r_cVi 40 (As := [.int (((w6 11 0).2.1 16 (100 : Int32).toNatClampNeg))]) (rest := []) hk (kX11_good hN ew9) cf_RX11_55 mi_X11_good ⟨TX11, 36, rfl⟩ dX11_fullThen_37 rfl (Nat.le_of_ble_eq_true rfl) (Nat.le_of_ble_eq_true rfl) (mk_11_0 (nx_11 hN (j := 0) (by decide))) rfl rfl (Nat.le_of_ble_eq_true rfl) ?_
    exact r_iret hk hR dX11_fullThen_40 h
  · have h := if_f c4 h
    refine r_aload_n 17 hk dX11_fullThen_16 rfl 1 rfl rfl ?_
    refine r_iload_n 18 hk dX11_fullThen_17 rfl 0 rfl rfl ?_
    obtain ⟨r10, w11, ew11, h⟩ := ob_e h
    refine r_cVi 21 (As := [.int r2]) (rest := []) hk (kX11_refused hN ew11) cf_RX11_51 mi_X11_refused ⟨TX11, 36, rfl⟩ dX11_fullThen_18 rfl (Nat.le_of_ble_eq_true rfl) (Nat.le_of_ble_eq_true rfl) (mk_11_0 (nx_11 hN (j := 0) (by decide))) rfl rfl (Nat.le_of_ble_eq_true rfl) ?_
    exact r_iret hk hR dX11_fullThen_21 h
def fX11_readThen_23 (nd : Nat) (w : Wd) (x1 : Int32) (x2 : Int32) (x3 : Int32) (t0 : Int32) : Option (Int32 × Wd) :=
    if (t0 : Int32) ≤ 0 then
      ob (fX11_cuts nd w (x1) (x2)) fun r8 w9 =>
      ob (fX11_recovers nd w9 ) fun r10 w11 =>
      ob (fX11_readOf nd w11 (x3)) fun r12 w13 =>
      ob (fX11_good nd w13 (r12)) fun r14 w15 =>
      some (r14, w15)
    else
      ob (fX11_refused nd w (t0)) fun r16 w17 =>
      some (r16, w17)
def fX11_readThen (nd : Nat) (w : Wd) (x1 : Int32) (x2 : Int32) (x3 : Int32) : Option (Int32 × Wd) :=
  lw (sI w 11 0 0 (0)) fun w1 =>
  ob (fX11_isTrack nd w1 (x3)) fun r2 w3 =>
  if (r2 : Int32) = 0 then
    fX11_readThen_23 nd w3 (x1) (x2) (x3) (1)
  else
    ob (fX11_refusesCut nd w3 (x1) (x2)) fun r5 w6 =>
    fX11_readThen_23 nd w6 (x1) (x2) (x3) (r5)
set_option maxRecDepth 100000 in
set_option maxHeartbeats 4000000 in
theorem sX11_readThen_23 {K : VC} {al : Al} {r : Int32} {wz : Wd}  (hk : VH K RX11 cX11_readThen 6 135) (hR : VR K al (some (.int)) (some (.int r)) wz) (hn : kn K = 5) (hN : NX (kG K)) (w : Wd) (x1 : Int32) (x2 : Int32) (x3 : Int32) (t0 : Int32) (h : fX11_readThen_23 (gN (kG K) 10) w x1 x2 x3 t0 = some (r, wz)) : V K al w 23 [(0, .ref (al 11 0 0)), (1, .int x1), (2, .int x2), (3, .int x3)] [.int t0] := by
  rw [fX11_readThen_23.eq_1] at h
  refine r_istore 25 [(4, .int t0), (0, .ref (al 11 0 0)), (1, .int x1), (2, .int x2), (3, .int x3)] hk dX11_readThen_23 rfl hn (by decide) rfl rfl ?_
  refine r_iload 27 hk dX11_readThen_25 rfl 0 rfl ?_
  refine r_if_le 37 30 hk dX11_readThen_27 rfl rfl (fun c7 => ?_) (fun c7 => ?_)
  · have h := if_t c7 h
    refine r_aload_n 38 hk dX11_readThen_37 rfl 1 rfl rfl ?_
    refine r_iload_n 39 hk dX11_readThen_38 rfl 2 rfl rfl ?_
    refine r_iload_n 40 hk dX11_readThen_39 rfl 3 rfl rfl ?_
    obtain ⟨r8, w9, ew9, h⟩ := ob_e h
    refine r_cVi 43 (As := [.int x1, .int x2]) (rest := []) hk (kX11_cuts hN ew9) cf_RX11_376 mi_X11_cuts ⟨TX11, 36, rfl⟩ dX11_readThen_40 rfl (Nat.le_of_ble_eq_true rfl) (Nat.le_of_ble_eq_true rfl) (mk_11_0 (nx_11 hN (j := 0) (by decide))) rfl rfl (Nat.le_of_ble_eq_true rfl) ?_
    refine r_pop 44 hk dX11_readThen_43 rfl rfl ?_
    refine r_aload_n 45 hk dX11_readThen_44 rfl 1 rfl rfl ?_
    obtain ⟨r10, w11, ew11, h⟩ := ob_e h
    refine r_cVi 48 (As := []) (rest := []) hk (kX11_recovers hN ew11) cf_RX11_379 mi_X11_recovers ⟨TX11, 36, rfl⟩ dX11_readThen_45 rfl (Nat.le_of_ble_eq_true rfl) (Nat.le_of_ble_eq_true rfl) (mk_11_0 (nx_11 hN (j := 0) (by decide))) rfl rfl (Nat.le_of_ble_eq_true rfl) ?_
    refine r_pop 49 hk dX11_readThen_48 rfl rfl ?_
    refine r_aload_n 50 hk dX11_readThen_49 rfl 1 rfl rfl ?_
    refine r_aload_n 51 hk dX11_readThen_50 rfl 1 rfl rfl ?_
    refine r_iload_n 52 hk dX11_readThen_51 rfl 4 rfl rfl ?_
    obtain ⟨r12, w13, ew13, h⟩ := ob_e h
    refine r_cVi 55 (As := [.int x3]) (rest := [.ref (al 11 0 0)]) hk (kX11_readOf hN ew13) cf_RX11_316 mi_X11_readOf ⟨TX11, 36, rfl⟩ dX11_readThen_52 rfl (Nat.le_of_ble_eq_true rfl) (Nat.le_of_ble_eq_true rfl) (mk_11_0 (nx_11 hN (j := 0) (by decide))) rfl rfl (Nat.le_of_ble_eq_true rfl) ?_
    obtain ⟨r14, w15, ew15, h⟩ := ob_e h
    refine r_cVi 58 (As := [.int r12]) (rest := []) hk (kX11_good hN ew15) cf_RX11_55 mi_X11_good ⟨TX11, 36, rfl⟩ dX11_readThen_55 rfl (Nat.le_of_ble_eq_true rfl) (Nat.le_of_ble_eq_true rfl) (mk_11_0 (nx_11 hN (j := 0) (by decide))) rfl rfl (Nat.le_of_ble_eq_true rfl) ?_
    exact r_iret hk hR dX11_readThen_58 h
  · have h := if_f c7 h
    refine r_aload_n 31 hk dX11_readThen_30 rfl 1 rfl rfl ?_
    refine r_iload 33 hk dX11_readThen_31 rfl 0 rfl ?_
    obtain ⟨r16, w17, ew17, h⟩ := ob_e h
    refine r_cVi 36 (As := [.int t0]) (rest := []) hk (kX11_refused hN ew17) cf_RX11_51 mi_X11_refused ⟨TX11, 36, rfl⟩ dX11_readThen_33 rfl (Nat.le_of_ble_eq_true rfl) (Nat.le_of_ble_eq_true rfl) (mk_11_0 (nx_11 hN (j := 0) (by decide))) rfl rfl (Nat.le_of_ble_eq_true rfl) ?_
    exact r_iret hk hR dX11_readThen_36 h
set_option maxRecDepth 100000 in
set_option maxHeartbeats 4000000 in
theorem kX11_readThen {l : Launch} {G : Gx} {al : Al} {w : Wd} {x1 : Int32} {x2 : Int32} {x3 : Int32} {r : Int32} {wz : Wd} (hN : NX G) (h : fX11_readThen (gN G 10) w x1 x2 x3 = some (r, wz)) : MC l G yX11_readThen cX11_readThen 5 (some (.int)) 6 135 al w [.ref (al 11 0 0), .int x1, .int x2, .int x3] (some (.int r)) wz := by
  refine mc_of [(0, .ref (al 11 0 0)), (1, .int x1), (2, .int x2), (3, .int x3)] (by decide) (Nat.le_of_ble_eq_true rfl) rfl ?_
  intro K hk hR hn hl hG
  subst hl; subst hG
  have hk : VH K RX11 cX11_readThen 6 135 := hk
  rw [fX11_readThen.eq_1] at h
  refine r_aload_n 1 hk dX11_readThen_0 rfl 0 rfl rfl ?_
  refine r_iconst 2 hk dX11_readThen_1 rfl ci_0 ?_
  obtain ⟨w1, ew1, h⟩ := lw_e h
  refine r_putI 5 w1 hk dX11_readThen_2 rfl ff_RX11_45 fi_11_0 (mk_11_0 (nx_11 hN (j := 0) (by decide))) ew1 ?_
  refine r_aload_n 6 hk dX11_readThen_5 rfl 0 rfl rfl ?_
  refine r_iload_n 7 hk dX11_readThen_6 rfl 3 rfl rfl ?_
  obtain ⟨r2, w3, ew3, h⟩ := ob_e h
  refine r_cVi 10 (As := [.int x3]) (rest := []) hk (kX11_isTrack hN ew3) cf_RX11_346 mi_X11_isTrack ⟨TX11, 36, rfl⟩ dX11_readThen_7 rfl (Nat.le_of_ble_eq_true rfl) (Nat.le_of_ble_eq_true rfl) (mk_11_0 (nx_11 hN (j := 0) (by decide))) rfl rfl (Nat.le_of_ble_eq_true rfl) ?_
  refine r_if_eq 22 13 hk dX11_readThen_10 rfl rfl (fun c4 => ?_) (fun c4 => ?_)
  · have h := if_t c4 h
    refine r_iconst 23 hk dX11_readThen_22 rfl ci_1 ?_
    exact sX11_readThen_23 hk hR hn hN _ _ _ _ _ h
  · have h := if_f c4 h
    refine r_aload_n 14 hk dX11_readThen_13 rfl 0 rfl rfl ?_
    refine r_iload_n 15 hk dX11_readThen_14 rfl 1 rfl rfl ?_
    refine r_iload_n 16 hk dX11_readThen_15 rfl 2 rfl rfl ?_
    obtain ⟨r5, w6, ew6, h⟩ := ob_e h
    refine r_cVi 19 (As := [.int x1, .int x2]) (rest := []) hk (kX11_refusesCut hN ew6) cf_RX11_373 mi_X11_refusesCut ⟨TX11, 36, rfl⟩ dX11_readThen_16 rfl (Nat.le_of_ble_eq_true rfl) (Nat.le_of_ble_eq_true rfl) (mk_11_0 (nx_11 hN (j := 0) (by decide))) rfl rfl (Nat.le_of_ble_eq_true rfl) ?_
    refine r_goto 23 hk (x := 0) dX11_readThen_19 rfl ?_
    exact sX11_readThen_23 hk hR hn hN _ _ _ _ _ h
def fX11_recoversBy (nd : Nat) (w : Wd) (x1 : Int32) (x2 : Int32) : Option (Int32 × Wd) :=
  lw (sI w 11 0 0 (0)) fun w1 =>
  ob (fX11_refusesCut nd w1 (x1) (x2)) fun r2 w3 =>
  if (r2 : Int32) ≤ 0 then
    ob (fX11_cuts nd w3 (x1) (x2)) fun r5 w6 =>
    ck (inb (109) 110) <|
    lw (((w6 11 0).2.1 16 (109 : Int32).toNatClampNeg)) fun x4_8 =>
    ob (fX11_recovers nd w6 ) fun r9 w10 =>
    ck (inb (109) 110) <|
    ob (fX11_good nd w10 ((((w10 11 0).2.1 16 (109 : Int32).toNatClampNeg) - x4_8))) fun r12 w13 =>
    some (r12, w13)
  else
    ob (fX11_refused nd w3 (r2)) fun r14 w15 =>
    some (r14, w15)
set_option maxRecDepth 100000 in
set_option maxHeartbeats 4000000 in
theorem kX11_recoversBy {l : Launch} {G : Gx} {al : Al} {w : Wd} {x1 : Int32} {x2 : Int32} {r : Int32} {wz : Wd} (hN : NX G) (h : fX11_recoversBy (gN G 10) w x1 x2 = some (r, wz)) : MC l G yX11_recoversBy cX11_recoversBy 5 (some (.int)) 6 135 al w [.ref (al 11 0 0), .int x1, .int x2] (some (.int r)) wz := by
  refine mc_of [(0, .ref (al 11 0 0)), (1, .int x1), (2, .int x2)] (by decide) (Nat.le_of_ble_eq_true rfl) rfl ?_
  intro K hk hR hn hl hG
  subst hl; subst hG
  have hk : VH K RX11 cX11_recoversBy 6 135 := hk
  rw [fX11_recoversBy.eq_1] at h
  refine r_aload_n 1 hk dX11_recoversBy_0 rfl 0 rfl rfl ?_
  refine r_iconst 2 hk dX11_recoversBy_1 rfl ci_0 ?_
  obtain ⟨w1, ew1, h⟩ := lw_e h
  refine r_putI 5 w1 hk dX11_recoversBy_2 rfl ff_RX11_45 fi_11_0 (mk_11_0 (nx_11 hN (j := 0) (by decide))) ew1 ?_
  refine r_aload_n 6 hk dX11_recoversBy_5 rfl 0 rfl rfl ?_
  refine r_iload_n 7 hk dX11_recoversBy_6 rfl 1 rfl rfl ?_
  refine r_iload_n 8 hk dX11_recoversBy_7 rfl 2 rfl rfl ?_
  obtain ⟨r2, w3, ew3, h⟩ := ob_e h
  refine r_cVi 11 (As := [.int x1, .int x2]) (rest := []) hk (kX11_refusesCut hN ew3) cf_RX11_373 mi_X11_refusesCut ⟨TX11, 36, rfl⟩ dX11_recoversBy_8 rfl (Nat.le_of_ble_eq_true rfl) (Nat.le_of_ble_eq_true rfl) (mk_11_0 (nx_11 hN (j := 0) (by decide))) rfl rfl (Nat.le_of_ble_eq_true rfl) ?_
  refine r_istore_n 12 [(3, .int r2), (0, .ref (al 11 0 0)), (1, .int x1), (2, .int x2)] hk dX11_recoversBy_11 rfl rfl hn (by decide) rfl rfl ?_
  refine r_iload_n 13 hk dX11_recoversBy_12 rfl 0 rfl rfl ?_
  refine r_if_le 22 16 hk dX11_recoversBy_13 rfl rfl (fun c4 => ?_) (fun c4 => ?_)
  · have h := if_t c4 h
    refine r_aload_n 23 hk dX11_recoversBy_22 rfl 1 rfl rfl ?_
    refine r_iload_n 24 hk dX11_recoversBy_23 rfl 2 rfl rfl ?_
    refine r_iload_n 25 hk dX11_recoversBy_24 rfl 3 rfl rfl ?_
    obtain ⟨r5, w6, ew6, h⟩ := ob_e h
    refine r_cVi 28 (As := [.int x1, .int x2]) (rest := []) hk (kX11_cuts hN ew6) cf_RX11_376 mi_X11_cuts ⟨TX11, 36, rfl⟩ dX11_recoversBy_25 rfl (Nat.le_of_ble_eq_true rfl) (Nat.le_of_ble_eq_true rfl) (mk_11_0 (nx_11 hN (j := 0) (by decide))) rfl rfl (Nat.le_of_ble_eq_true rfl) ?_
    refine r_pop 29 hk dX11_recoversBy_28 rfl rfl ?_
    refine r_aload_n 30 hk dX11_recoversBy_29 rfl 1 rfl rfl ?_
    refine r_get 33 hk dX11_recoversBy_30 rfl ff_RX11_21 (mk_11_0 (nx_11 hN (j := 0) (by decide))) (gv_11_16 _ _ _) ?_
    refine r_bipush 35 hk dX11_recoversBy_33 rfl cb_109 ?_
    obtain ⟨b7, h⟩ := ck_e h
    refine r_iald 36 hk dX11_recoversBy_35 rfl rfl (mk_11_17 (nx_11 hN (j := 0) (by decide))) rfl b7 ?_
    obtain ⟨x4_8, ex4_8, h⟩ := lw_e h
    refine r_istore 38 [(4, .int x4_8), (3, .int r2), (0, .ref (al 11 0 0)), (1, .int x1), (2, .int x2)] hk dX11_recoversBy_36 rfl hn (by decide) ex4_8 rfl ?_
    refine r_aload_n 39 hk dX11_recoversBy_38 rfl 2 rfl rfl ?_
    obtain ⟨r9, w10, ew10, h⟩ := ob_e h
    refine r_cVi 42 (As := []) (rest := []) hk (kX11_recovers hN ew10) cf_RX11_379 mi_X11_recovers ⟨TX11, 36, rfl⟩ dX11_recoversBy_39 rfl (Nat.le_of_ble_eq_true rfl) (Nat.le_of_ble_eq_true rfl) (mk_11_0 (nx_11 hN (j := 0) (by decide))) rfl rfl (Nat.le_of_ble_eq_true rfl) ?_
    refine r_pop 43 hk dX11_recoversBy_42 rfl rfl ?_
    refine r_aload_n 44 hk dX11_recoversBy_43 rfl 2 rfl rfl ?_
    refine r_aload_n 45 hk dX11_recoversBy_44 rfl 2 rfl rfl ?_
    refine r_get 48 hk dX11_recoversBy_45 rfl ff_RX11_21 (mk_11_0 (nx_11 hN (j := 0) (by decide))) (gv_11_16 _ _ _) ?_
    refine r_bipush 50 hk dX11_recoversBy_48 rfl cb_109 ?_
    obtain ⟨b11, h⟩ := ck_e h
    refine r_iald 51 hk dX11_recoversBy_50 rfl rfl (mk_11_17 (nx_11 hN (j := 0) (by decide))) rfl b11 ?_
    refine r_iload 53 hk dX11_recoversBy_51 rfl 0 rfl ?_
    refine r_isub 54 hk dX11_recoversBy_53 rfl ?_
    obtain ⟨r12, w13, ew13, h⟩ := ob_e h
    refine r_cVi 57 (As := [.int ((((w10 11 0).2.1 16 (109 : Int32).toNatClampNeg) - x4_8))]) (rest := []) hk (kX11_good hN ew13) cf_RX11_55 mi_X11_good ⟨TX11, 36, rfl⟩ dX11_recoversBy_54 rfl (Nat.le_of_ble_eq_true rfl) (Nat.le_of_ble_eq_true rfl) (mk_11_0 (nx_11 hN (j := 0) (by decide))) rfl rfl (Nat.le_of_ble_eq_true rfl) ?_
    exact r_iret hk hR dX11_recoversBy_57 h
  · have h := if_f c4 h
    refine r_aload_n 17 hk dX11_recoversBy_16 rfl 1 rfl rfl ?_
    refine r_iload_n 18 hk dX11_recoversBy_17 rfl 0 rfl rfl ?_
    obtain ⟨r14, w15, ew15, h⟩ := ob_e h
    refine r_cVi 21 (As := [.int r2]) (rest := []) hk (kX11_refused hN ew15) cf_RX11_51 mi_X11_refused ⟨TX11, 36, rfl⟩ dX11_recoversBy_18 rfl (Nat.le_of_ble_eq_true rfl) (Nat.le_of_ble_eq_true rfl) (mk_11_0 (nx_11 hN (j := 0) (by decide))) rfl rfl (Nat.le_of_ble_eq_true rfl) ?_
    exact r_iret hk hR dX11_recoversBy_21 h
def fX11_whatOf_2 (nd : Nat) : Nat → Wd → Int32 → Int32 → Int32 → Option (Int32 × Wd)
  | 0, _, _, _, _ => none
  | n + 1, w, x1, x2, x3 =>
    ckp ((w 11 0).2.2.1 3) nd fun q1 =>
    if (((w 10 q1).1 6) : Int32) ≤ x3 then
      ckp ((w 11 0).2.2.1 3) nd fun q3 =>
      ck (inb (x1) 16) <|
      some (((w 10 q3).2.1 12 (x1 : Int32).toNatClampNeg), w)
    else
      ckp ((w 11 0).2.2.1 3) nd fun q5 =>
      ck (inb (x3) 4) <|
      if (((w 10 q5).2.1 13 (x3 : Int32).toNatClampNeg) : Int32) = x1 then
        ob (fX11_bit nd w (x2) (x3)) fun r8 w9 =>
        if (r8 : Int32) = 0 then
          ckp ((w9 11 0).2.2.1 3) nd fun q11 =>
          ck (inb (x1) 16) <|
          some (((w9 10 q11).2.1 12 (x1 : Int32).toNatClampNeg), w9)
        else
          ckp ((w9 11 0).2.2.1 3) nd fun q13 =>
          ck (inb (x3) 4) <|
          some (((w9 10 q13).2.1 14 (x3 : Int32).toNatClampNeg), w9)
      else
        lw (x3 + 1) fun x3_15 =>
        fX11_whatOf_2 nd n w (x1) (x2) (x3_15)
def fX11_whatOf (nd : Nat) (w : Wd) (x1 : Int32) (x2 : Int32) : Option (Int32 × Wd) :=
  fX11_whatOf_2 nd fuel0 w (x1) (x2) (0)
set_option maxRecDepth 100000 in
set_option maxHeartbeats 4000000 in
theorem sX11_whatOf_2 {K : VC} {al : Al} {r : Int32} {wz : Wd}  (hk : VH K RX11 cX11_whatOf 1 21) (hR : VR K al (some (.int)) (some (.int r)) wz) (hn : kn K = 4) (hN : NX (kG K)) : ∀ (n : Nat) (w : Wd) (x1 : Int32) (x2 : Int32) (x3 : Int32), fX11_whatOf_2 (gN (kG K) 10) n w x1 x2 x3 = some (r, wz) → V K al w 2 [(0, .ref (al 11 0 0)), (1, .int x1), (2, .int x2), (3, .int x3)] [] := by
  intro n
  induction n with
  | zero => intro w x1 x2 x3 h; cases h
  | succ n ih =>
    intro w x1 x2 x3 h
    rw [fX11_whatOf_2.eq_2] at h
    refine r_iload_n 3 hk dX11_whatOf_2 rfl 3 rfl rfl ?_
    refine r_aload_n 4 hk dX11_whatOf_3 rfl 0 rfl rfl ?_
    refine r_get 7 hk dX11_whatOf_4 rfl ff_RX11_260 (mk_11_0 (nx_11 hN (j := 0) (by decide))) (gv_11_3 _ _ _) ?_
    obtain ⟨q1, eq1, lq1, h⟩ := ckp_e h
    refine r_pv1 eq1 ?_
    refine r_get 10 hk dX11_whatOf_7 rfl ff_RX11_233 (mk_10_0 lq1) (gv_10_6 _ _ _) ?_
    refine r_icmp_ge 65 13 hk dX11_whatOf_10 rfl rfl (fun c2 => ?_) (fun c2 => ?_)
    · have h := if_t c2 h
      refine r_aload_n 66 hk dX11_whatOf_65 rfl 0 rfl rfl ?_
      refine r_get 69 hk dX11_whatOf_66 rfl ff_RX11_260 (mk_11_0 (nx_11 hN (j := 0) (by decide))) (gv_11_3 _ _ _) ?_
      obtain ⟨q3, eq3, lq3, h⟩ := ckp_e h
      refine r_pv1 eq3 ?_
      refine r_get 72 hk dX11_whatOf_69 rfl ff_RX11_230 (mk_10_0 lq3) (gv_10_12 _ _ _) ?_
      refine r_iload_n 73 hk dX11_whatOf_72 rfl 1 rfl rfl ?_
      obtain ⟨b4, h⟩ := ck_e h
      refine r_iald 74 hk dX11_whatOf_73 rfl rfl (mk_10_13 lq3) rfl b4 ?_
      exact r_iret hk hR dX11_whatOf_74 h
    · have h := if_f c2 h
      refine r_aload_n 14 hk dX11_whatOf_13 rfl 0 rfl rfl ?_
      refine r_get 17 hk dX11_whatOf_14 rfl ff_RX11_260 (mk_11_0 (nx_11 hN (j := 0) (by decide))) (gv_11_3 _ _ _) ?_
      obtain ⟨q5, eq5, lq5, h⟩ := ckp_e h
      refine r_pv1 eq5 ?_
      refine r_get 20 hk dX11_whatOf_17 rfl ff_RX11_236 (mk_10_0 lq5) (gv_10_13 _ _ _) ?_
      refine r_iload_n 21 hk dX11_whatOf_20 rfl 3 rfl rfl ?_
      obtain ⟨b6, h⟩ := ck_e h
      refine r_iald 22 hk dX11_whatOf_21 rfl rfl (mk_10_14 lq5) rfl b6 ?_
      refine r_iload_n 23 hk dX11_whatOf_22 rfl 1 rfl rfl ?_
      refine r_icmp_eq 29 26 hk dX11_whatOf_23 rfl rfl (fun c7 => ?_) (fun c7 => ?_)
      · have h := if_t c7 h
        refine r_iload_n 30 hk dX11_whatOf_29 rfl 2 rfl rfl ?_
        refine r_iload_n 31 hk dX11_whatOf_30 rfl 3 rfl rfl ?_
        obtain ⟨r8, w9, ew9, h⟩ := ob_e h
        refine r_cSi 34 (As := [.int x2, .int x3]) (rest := []) hk (kX11_bit hN ew9) cf_RX11_388 ms_X11_bit dX11_whatOf_31 rfl (Nat.le_of_ble_eq_true rfl) (Nat.le_of_ble_eq_true rfl) rfl rfl (Nat.le_of_ble_eq_true rfl) ?_
        refine r_if_eq 49 37 hk dX11_whatOf_34 rfl rfl (fun c10 => ?_) (fun c10 => ?_)
        · have h := if_t c10 h
          refine r_aload_n 50 hk dX11_whatOf_49 rfl 0 rfl rfl ?_
          refine r_get 53 hk dX11_whatOf_50 rfl ff_RX11_260 (mk_11_0 (nx_11 hN (j := 0) (by decide))) (gv_11_3 _ _ _) ?_
          obtain ⟨q11, eq11, lq11, h⟩ := ckp_e h
          refine r_pv1 eq11 ?_
          refine r_get 56 hk dX11_whatOf_53 rfl ff_RX11_230 (mk_10_0 lq11) (gv_10_12 _ _ _) ?_
          refine r_iload_n 57 hk dX11_whatOf_56 rfl 1 rfl rfl ?_
          obtain ⟨b12, h⟩ := ck_e h
          refine r_iald 58 hk dX11_whatOf_57 rfl rfl (mk_10_13 lq11) rfl b12 ?_
          exact r_iret hk hR dX11_whatOf_58 h
        · have h := if_f c10 h
          refine r_aload_n 38 hk dX11_whatOf_37 rfl 0 rfl rfl ?_
          refine r_get 41 hk dX11_whatOf_38 rfl ff_RX11_260 (mk_11_0 (nx_11 hN (j := 0) (by decide))) (gv_11_3 _ _ _) ?_
          obtain ⟨q13, eq13, lq13, h⟩ := ckp_e h
          refine r_pv1 eq13 ?_
          refine r_get 44 hk dX11_whatOf_41 rfl ff_RX11_242 (mk_10_0 lq13) (gv_10_14 _ _ _) ?_
          refine r_iload_n 45 hk dX11_whatOf_44 rfl 3 rfl rfl ?_
          obtain ⟨b14, h⟩ := ck_e h
          refine r_iald 46 hk dX11_whatOf_45 rfl rfl (mk_10_15 lq13) rfl b14 ?_
          refine r_goto 58 hk (x := 0) dX11_whatOf_46 rfl ?_
          exact r_iret hk hR dX11_whatOf_58 h
      · have h := if_f c7 h
        refine r_goto 59 hk (x := 0) dX11_whatOf_26 rfl ?_
        obtain ⟨x3_15, ex3_15, h⟩ := lw_e h
        refine r_iinc 62 [(3, .int x3_15), (0, .ref (al 11 0 0)), (1, .int x1), (2, .int x2)] hk (j := 3) dX11_whatOf_59 rfl hn (by decide) rfl ex3_15 rfl ?_
        refine r_goto 2 hk (x := 0) dX11_whatOf_62 rfl ?_
        refine r_sub [1, 2, 3, 0] rfl ?_
        exact ih _ _ _ _ h
set_option maxRecDepth 100000 in
set_option maxHeartbeats 4000000 in
theorem kX11_whatOf {l : Launch} {G : Gx} {al : Al} {w : Wd} {x1 : Int32} {x2 : Int32} {r : Int32} {wz : Wd} (hN : NX G) (h : fX11_whatOf (gN G 10) w x1 x2 = some (r, wz)) : MC l G yX11_whatOf cX11_whatOf 4 (some (.int)) 1 21 al w [.ref (al 11 0 0), .int x1, .int x2] (some (.int r)) wz := by
  refine mc_of [(0, .ref (al 11 0 0)), (1, .int x1), (2, .int x2)] (by decide) (Nat.le_of_ble_eq_true rfl) rfl ?_
  intro K hk hR hn hl hG
  subst hl; subst hG
  have hk : VH K RX11 cX11_whatOf 1 21 := hk
  rw [fX11_whatOf.eq_1] at h
  refine r_iconst 1 hk dX11_whatOf_0 rfl ci_0 ?_
  refine r_istore_n 2 [(3, .int 0), (0, .ref (al 11 0 0)), (1, .int x1), (2, .int x2)] hk dX11_whatOf_1 rfl rfl hn (by decide) rfl rfl ?_
  refine r_sub [1, 2, 3, 0] rfl ?_
  exact sX11_whatOf_2 hk hR hn hN _ _ _ _ _ h
def fX11_goes_2 (nd : Nat) : Nat → Wd → Int32 → Int32 → Option (Unit × Wd)
  | 0, _, _, _ => none
  | n + 1, w, x1, x2 =>
    ckp ((w 11 0).2.2.1 3) nd fun q1 =>
    if (((w 10 q1).1 5) : Int32) ≤ x2 then
      some ((), w)
    else
      ckp ((w 11 0).2.2.1 3) nd fun q3 =>
      ck (inb (x2) 16) <|
      ob (fX11_whatOf nd w (x2) (x1)) fun r5 w6 =>
      ob (fX11_writes nd w6 (((w 10 q3).2.1 11 (x2 : Int32).toNatClampNeg)) (r5)) fun r7 w8 =>
      lw (x2 + 1) fun x2_9 =>
      fX11_goes_2 nd n w8 (x1) (x2_9)
def fX11_goes (nd : Nat) (w : Wd) (x1 : Int32) : Option (Unit × Wd) :=
  fX11_goes_2 nd fuel0 w (x1) (0)
set_option maxRecDepth 100000 in
set_option maxHeartbeats 4000000 in
theorem sX11_goes_2 {K : VC} {al : Al} {r : Unit} {wz : Wd}  (hk : VH K RX11 cX11_goes 7 158) (hR : VR K al none none wz) (hn : kn K = 3) (hN : NX (kG K)) : ∀ (n : Nat) (w : Wd) (x1 : Int32) (x2 : Int32), fX11_goes_2 (gN (kG K) 10) n w x1 x2 = some (r, wz) → V K al w 2 [(0, .ref (al 11 0 0)), (1, .int x1), (2, .int x2)] [] := by
  intro n
  induction n with
  | zero => intro w x1 x2 h; cases h
  | succ n ih =>
    intro w x1 x2 h
    rw [fX11_goes_2.eq_2] at h
    refine r_iload_n 3 hk dX11_goes_2 rfl 2 rfl rfl ?_
    refine r_aload_n 4 hk dX11_goes_3 rfl 0 rfl rfl ?_
    refine r_get 7 hk dX11_goes_4 rfl ff_RX11_260 (mk_11_0 (nx_11 hN (j := 0) (by decide))) (gv_11_3 _ _ _) ?_
    obtain ⟨q1, eq1, lq1, h⟩ := ckp_e h
    refine r_pv1 eq1 ?_
    refine r_get 10 hk dX11_goes_7 rfl ff_RX11_224 (mk_10_0 lq1) (gv_10_5 _ _ _) ?_
    refine r_icmp_ge 39 13 hk dX11_goes_10 rfl rfl (fun c2 => ?_) (fun c2 => ?_)
    · have h := if_t c2 h
      exact r_vret hk hR dX11_goes_39 h
    · have h := if_f c2 h
      refine r_aload_n 14 hk dX11_goes_13 rfl 0 rfl rfl ?_
      refine r_aload_n 15 hk dX11_goes_14 rfl 0 rfl rfl ?_
      refine r_get 18 hk dX11_goes_15 rfl ff_RX11_260 (mk_11_0 (nx_11 hN (j := 0) (by decide))) (gv_11_3 _ _ _) ?_
      obtain ⟨q3, eq3, lq3, h⟩ := ckp_e h
      refine r_pv1 eq3 ?_
      refine r_get 21 hk dX11_goes_18 rfl ff_RX11_227 (mk_10_0 lq3) (gv_10_11 _ _ _) ?_
      refine r_iload_n 22 hk dX11_goes_21 rfl 2 rfl rfl ?_
      obtain ⟨b4, h⟩ := ck_e h
      refine r_iald 23 hk dX11_goes_22 rfl rfl (mk_10_12 lq3) rfl b4 ?_
      refine r_aload_n 24 hk dX11_goes_23 rfl 0 rfl rfl ?_
      refine r_iload_n 25 hk dX11_goes_24 rfl 2 rfl rfl ?_
      refine r_iload_n 26 hk dX11_goes_25 rfl 1 rfl rfl ?_
      obtain ⟨r5, w6, ew6, h⟩ := ob_e h
      refine r_cVi 29 (As := [.int x2, .int x1]) (rest := [.int (((w 10 q3).2.1 11 (x2 : Int32).toNatClampNeg)), .ref (al 11 0 0)]) hk (kX11_whatOf hN ew6) cf_RX11_382 mi_X11_whatOf ⟨TX11, 36, rfl⟩ dX11_goes_26 rfl (Nat.le_of_ble_eq_true rfl) (Nat.le_of_ble_eq_true rfl) (mk_11_0 (nx_11 hN (j := 0) (by decide))) rfl rfl (Nat.le_of_ble_eq_true rfl) ?_
      obtain ⟨r7, w8, ew8, h⟩ := ob_e h
      refine r_cVi 32 (As := [.int (((w 10 q3).2.1 11 (x2 : Int32).toNatClampNeg)), .int r5]) (rest := []) hk (kX11_writes hN ew8) cf_RX11_385 mi_X11_writes ⟨TX11, 36, rfl⟩ dX11_goes_29 rfl (Nat.le_of_ble_eq_true rfl) (Nat.le_of_ble_eq_true rfl) (mk_11_0 (nx_11 hN (j := 0) (by decide))) rfl rfl (Nat.le_of_ble_eq_true rfl) ?_
      refine r_pop 33 hk dX11_goes_32 rfl rfl ?_
      obtain ⟨x2_9, ex2_9, h⟩ := lw_e h
      refine r_iinc 36 [(2, .int x2_9), (0, .ref (al 11 0 0)), (1, .int x1)] hk (j := 2) dX11_goes_33 rfl hn (by decide) rfl ex2_9 rfl ?_
      refine r_goto 2 hk (x := 0) dX11_goes_36 rfl ?_
      refine r_sub [1, 2, 0] rfl ?_
      exact ih _ _ _ h
set_option maxRecDepth 100000 in
set_option maxHeartbeats 4000000 in
theorem kX11_goes {l : Launch} {G : Gx} {al : Al} {w : Wd} {x1 : Int32} {r : Unit} {wz : Wd} (hN : NX G) (h : fX11_goes (gN G 10) w x1 = some (r, wz)) : MC l G yX11_goes cX11_goes 3 none 7 158 al w [.ref (al 11 0 0), .int x1] none wz := by
  refine mc_of [(0, .ref (al 11 0 0)), (1, .int x1)] (by decide) (Nat.le_of_ble_eq_true rfl) rfl ?_
  intro K hk hR hn hl hG
  subst hl; subst hG
  have hk : VH K RX11 cX11_goes 7 158 := hk
  rw [fX11_goes.eq_1] at h
  refine r_iconst 1 hk dX11_goes_0 rfl ci_0 ?_
  refine r_istore_n 2 [(2, .int 0), (0, .ref (al 11 0 0)), (1, .int x1)] hk dX11_goes_1 rfl rfl hn (by decide) rfl rfl ?_
  refine r_sub [1, 2, 0] rfl ?_
  exact sX11_goes_2 hk hR hn hN _ _ _ _ h
def fX11_runs (nd : Nat) (w : Wd) : Option (Unit × Wd) :=
  ob (fX11_asTold nd w ) fun _ w2 =>
  ob (fX11_goes nd w2 (0)) fun _ w4 =>
  some ((), w4)
set_option maxRecDepth 100000 in
set_option maxHeartbeats 4000000 in
theorem kX11_runs {l : Launch} {G : Gx} {al : Al} {w : Wd} {r : Unit} {wz : Wd} (hN : NX G) (h : fX11_runs (gN G 10) w = some (r, wz)) : MC l G yX11_runs cX11_runs 1 none 8 180 al w [.ref (al 11 0 0)] none wz := by
  refine mc_of [(0, .ref (al 11 0 0))] (by decide) (Nat.le_of_ble_eq_true rfl) rfl ?_
  intro K hk hR hn hl hG
  subst hl; subst hG
  have hk : VH K RX11 cX11_runs 8 180 := hk
  rw [fX11_runs.eq_1] at h
  refine r_aload_n 1 hk dX11_runs_0 rfl 0 rfl rfl ?_
  obtain ⟨r1, w2, ew2, h⟩ := ob_e h
  refine r_cVv 4 (As := []) (rest := []) hk (kX11_asTold hN ew2) cf_RX11_262 mi_X11_asTold ⟨TX11, 36, rfl⟩ dX11_runs_1 rfl (Nat.le_of_ble_eq_true rfl) (Nat.le_of_ble_eq_true rfl) (mk_11_0 (nx_11 hN (j := 0) (by decide))) rfl rfl (Nat.le_of_ble_eq_true rfl) ?_
  refine r_aload_n 5 hk dX11_runs_4 rfl 0 rfl rfl ?_
  refine r_iconst 6 hk dX11_runs_5 rfl ci_0 ?_
  obtain ⟨r3, w4, ew4, h⟩ := ob_e h
  refine r_cVv 9 (As := [.int 0]) (rest := []) hk (kX11_goes hN ew4) cf_RX11_391 mi_X11_goes ⟨TX11, 36, rfl⟩ dX11_runs_6 rfl (Nat.le_of_ble_eq_true rfl) (Nat.le_of_ble_eq_true rfl) (mk_11_0 (nx_11 hN (j := 0) (by decide))) rfl rfl (Nat.le_of_ble_eq_true rfl) ?_
  exact r_vret hk hR dX11_runs_9 h
def fX11_runWrites (nd : Nat) (w : Wd) : Option (Int32 × Wd) :=
  lw (sI w 11 0 0 (0)) fun w1 =>
  if (w1 11 0).2.2.1 3 = 0 then
    ob (fX11_refused nd w1 (1)) fun r3 w4 =>
    some (r3, w4)
  else
    ob (fX11_runs nd w1 ) fun _ w6 =>
    ck (inb (109) 110) <|
    ob (fX11_good nd w6 (((w6 11 0).2.1 16 (109 : Int32).toNatClampNeg))) fun r8 w9 =>
    some (r8, w9)
set_option maxRecDepth 100000 in
set_option maxHeartbeats 4000000 in
theorem kX11_runWrites {l : Launch} {G : Gx} {al : Al} {w : Wd} {r : Int32} {wz : Wd} (hN : NX G) (h : fX11_runWrites (gN G 10) w = some (r, wz)) : MC l G yX11_runWrites cX11_runWrites 1 (some (.int)) 9 200 al w [.ref (al 11 0 0)] (some (.int r)) wz := by
  refine mc_of [(0, .ref (al 11 0 0))] (by decide) (Nat.le_of_ble_eq_true rfl) rfl ?_
  intro K hk hR hn hl hG
  subst hl; subst hG
  have hk : VH K RX11 cX11_runWrites 9 200 := hk
  rw [fX11_runWrites.eq_1] at h
  refine r_aload_n 1 hk dX11_runWrites_0 rfl 0 rfl rfl ?_
  refine r_iconst 2 hk dX11_runWrites_1 rfl ci_0 ?_
  obtain ⟨w1, ew1, h⟩ := lw_e h
  refine r_putI 5 w1 hk dX11_runWrites_2 rfl ff_RX11_45 fi_11_0 (mk_11_0 (nx_11 hN (j := 0) (by decide))) ew1 ?_
  refine r_aload_n 6 hk dX11_runWrites_5 rfl 0 rfl rfl ?_
  refine r_get 9 hk dX11_runWrites_6 rfl ff_RX11_260 (mk_11_0 (nx_11 hN (j := 0) (by decide))) (gv_11_3 _ _ _) ?_
  by_cases c2 : (w1 11 0).2.2.1 3 = 0
  · have h := if_t c2 h
    refine r_pv0 c2 ?_
    refine r_ifnonnull0 12 hk dX11_runWrites_9 rfl ?_
    refine r_aload_n 13 hk dX11_runWrites_12 rfl 0 rfl rfl ?_
    refine r_iconst 14 hk dX11_runWrites_13 rfl ci_1 ?_
    obtain ⟨r3, w4, ew4, h⟩ := ob_e h
    refine r_cVi 17 (As := [.int 1]) (rest := []) hk (kX11_refused hN ew4) cf_RX11_51 mi_X11_refused ⟨TX11, 36, rfl⟩ dX11_runWrites_14 rfl (Nat.le_of_ble_eq_true rfl) (Nat.le_of_ble_eq_true rfl) (mk_11_0 (nx_11 hN (j := 0) (by decide))) rfl rfl (Nat.le_of_ble_eq_true rfl) ?_
    exact r_iret hk hR dX11_runWrites_17 h
  · have h := if_f c2 h
    obtain ⟨q10, eq10⟩ := Nat.exists_eq_succ_of_ne_zero c2
    refine r_pv1 eq10 ?_
    refine r_ifnonnull1 18 hk dX11_runWrites_9 rfl ?_
    refine r_aload_n 19 hk dX11_runWrites_18 rfl 0 rfl rfl ?_
    obtain ⟨r5, w6, ew6, h⟩ := ob_e h
    refine r_cVv 22 (As := []) (rest := []) hk (kX11_runs hN ew6) cf_RX11_394 mi_X11_runs ⟨TX11, 36, rfl⟩ dX11_runWrites_19 rfl (Nat.le_of_ble_eq_true rfl) (Nat.le_of_ble_eq_true rfl) (mk_11_0 (nx_11 hN (j := 0) (by decide))) rfl rfl (Nat.le_of_ble_eq_true rfl) ?_
    refine r_aload_n 23 hk dX11_runWrites_22 rfl 0 rfl rfl ?_
    refine r_aload_n 24 hk dX11_runWrites_23 rfl 0 rfl rfl ?_
    refine r_get 27 hk dX11_runWrites_24 rfl ff_RX11_21 (mk_11_0 (nx_11 hN (j := 0) (by decide))) (gv_11_16 _ _ _) ?_
    refine r_bipush 29 hk dX11_runWrites_27 rfl cb_109 ?_
    obtain ⟨b7, h⟩ := ck_e h
    refine r_iald 30 hk dX11_runWrites_29 rfl rfl (mk_11_17 (nx_11 hN (j := 0) (by decide))) rfl b7 ?_
    obtain ⟨r8, w9, ew9, h⟩ := ob_e h
    refine r_cVi 33 (As := [.int (((w6 11 0).2.1 16 (109 : Int32).toNatClampNeg))]) (rest := []) hk (kX11_good hN ew9) cf_RX11_55 mi_X11_good ⟨TX11, 36, rfl⟩ dX11_runWrites_30 rfl (Nat.le_of_ble_eq_true rfl) (Nat.le_of_ble_eq_true rfl) (mk_11_0 (nx_11 hN (j := 0) (by decide))) rfl rfl (Nat.le_of_ble_eq_true rfl) ?_
    exact r_iret hk hR dX11_runWrites_33 h
def fX11_runCleans (nd : Nat) (w : Wd) : Option (Int32 × Wd) :=
  lw (sI w 11 0 0 (0)) fun w1 =>
  if (w1 11 0).2.2.1 3 = 0 then
    ob (fX11_refused nd w1 (1)) fun r3 w4 =>
    some (r3, w4)
  else
    ob (fX11_runs nd w1 ) fun _ w6 =>
    ob (fX11_good nd w6 (((w6 11 0).1 25))) fun r7 w8 =>
    some (r7, w8)
set_option maxRecDepth 100000 in
set_option maxHeartbeats 4000000 in
theorem kX11_runCleans {l : Launch} {G : Gx} {al : Al} {w : Wd} {r : Int32} {wz : Wd} (hN : NX G) (h : fX11_runCleans (gN G 10) w = some (r, wz)) : MC l G yX11_runCleans cX11_runCleans 1 (some (.int)) 9 200 al w [.ref (al 11 0 0)] (some (.int r)) wz := by
  refine mc_of [(0, .ref (al 11 0 0))] (by decide) (Nat.le_of_ble_eq_true rfl) rfl ?_
  intro K hk hR hn hl hG
  subst hl; subst hG
  have hk : VH K RX11 cX11_runCleans 9 200 := hk
  rw [fX11_runCleans.eq_1] at h
  refine r_aload_n 1 hk dX11_runCleans_0 rfl 0 rfl rfl ?_
  refine r_iconst 2 hk dX11_runCleans_1 rfl ci_0 ?_
  obtain ⟨w1, ew1, h⟩ := lw_e h
  refine r_putI 5 w1 hk dX11_runCleans_2 rfl ff_RX11_45 fi_11_0 (mk_11_0 (nx_11 hN (j := 0) (by decide))) ew1 ?_
  refine r_aload_n 6 hk dX11_runCleans_5 rfl 0 rfl rfl ?_
  refine r_get 9 hk dX11_runCleans_6 rfl ff_RX11_260 (mk_11_0 (nx_11 hN (j := 0) (by decide))) (gv_11_3 _ _ _) ?_
  by_cases c2 : (w1 11 0).2.2.1 3 = 0
  · have h := if_t c2 h
    refine r_pv0 c2 ?_
    refine r_ifnonnull0 12 hk dX11_runCleans_9 rfl ?_
    refine r_aload_n 13 hk dX11_runCleans_12 rfl 0 rfl rfl ?_
    refine r_iconst 14 hk dX11_runCleans_13 rfl ci_1 ?_
    obtain ⟨r3, w4, ew4, h⟩ := ob_e h
    refine r_cVi 17 (As := [.int 1]) (rest := []) hk (kX11_refused hN ew4) cf_RX11_51 mi_X11_refused ⟨TX11, 36, rfl⟩ dX11_runCleans_14 rfl (Nat.le_of_ble_eq_true rfl) (Nat.le_of_ble_eq_true rfl) (mk_11_0 (nx_11 hN (j := 0) (by decide))) rfl rfl (Nat.le_of_ble_eq_true rfl) ?_
    exact r_iret hk hR dX11_runCleans_17 h
  · have h := if_f c2 h
    obtain ⟨q9, eq9⟩ := Nat.exists_eq_succ_of_ne_zero c2
    refine r_pv1 eq9 ?_
    refine r_ifnonnull1 18 hk dX11_runCleans_9 rfl ?_
    refine r_aload_n 19 hk dX11_runCleans_18 rfl 0 rfl rfl ?_
    obtain ⟨r5, w6, ew6, h⟩ := ob_e h
    refine r_cVv 22 (As := []) (rest := []) hk (kX11_runs hN ew6) cf_RX11_394 mi_X11_runs ⟨TX11, 36, rfl⟩ dX11_runCleans_19 rfl (Nat.le_of_ble_eq_true rfl) (Nat.le_of_ble_eq_true rfl) (mk_11_0 (nx_11 hN (j := 0) (by decide))) rfl rfl (Nat.le_of_ble_eq_true rfl) ?_
    refine r_aload_n 23 hk dX11_runCleans_22 rfl 0 rfl rfl ?_
    refine r_aload_n 24 hk dX11_runCleans_23 rfl 0 rfl rfl ?_
    refine r_get 27 hk dX11_runCleans_24 rfl ff_RX11_278 (mk_11_0 (nx_11 hN (j := 0) (by decide))) (gv_11_25 _ _ _) ?_
    obtain ⟨r7, w8, ew8, h⟩ := ob_e h
    refine r_cVi 30 (As := [.int (((w6 11 0).1 25))]) (rest := []) hk (kX11_good hN ew8) cf_RX11_55 mi_X11_good ⟨TX11, 36, rfl⟩ dX11_runCleans_27 rfl (Nat.le_of_ble_eq_true rfl) (Nat.le_of_ble_eq_true rfl) (mk_11_0 (nx_11 hN (j := 0) (by decide))) rfl rfl (Nat.le_of_ble_eq_true rfl) ?_
    exact r_iret hk hR dX11_runCleans_30 h
def fX11_runRead (nd : Nat) (w : Wd) (x1 : Int32) : Option (Int32 × Wd) :=
  lw (sI w 11 0 0 (0)) fun w1 =>
  ob (fX11_isTrack nd w1 (x1)) fun r2 w3 =>
  if (r2 : Int32) = 0 then
    ob (fX11_refused nd w3 (1)) fun r11 w12 =>
    some (r11, w12)
  else
    ob (fX11_runs nd w3 ) fun _ w6 =>
    ob (fX11_readOf nd w6 (x1)) fun r7 w8 =>
    ob (fX11_good nd w8 (r7)) fun r9 w10 =>
    some (r9, w10)
set_option maxRecDepth 100000 in
set_option maxHeartbeats 4000000 in
theorem kX11_runRead {l : Launch} {G : Gx} {al : Al} {w : Wd} {x1 : Int32} {r : Int32} {wz : Wd} (hN : NX G) (h : fX11_runRead (gN G 10) w x1 = some (r, wz)) : MC l G yX11_runRead cX11_runRead 2 (some (.int)) 9 200 al w [.ref (al 11 0 0), .int x1] (some (.int r)) wz := by
  refine mc_of [(0, .ref (al 11 0 0)), (1, .int x1)] (by decide) (Nat.le_of_ble_eq_true rfl) rfl ?_
  intro K hk hR hn hl hG
  subst hl; subst hG
  have hk : VH K RX11 cX11_runRead 9 200 := hk
  rw [fX11_runRead.eq_1] at h
  refine r_aload_n 1 hk dX11_runRead_0 rfl 0 rfl rfl ?_
  refine r_iconst 2 hk dX11_runRead_1 rfl ci_0 ?_
  obtain ⟨w1, ew1, h⟩ := lw_e h
  refine r_putI 5 w1 hk dX11_runRead_2 rfl ff_RX11_45 fi_11_0 (mk_11_0 (nx_11 hN (j := 0) (by decide))) ew1 ?_
  refine r_aload_n 6 hk dX11_runRead_5 rfl 0 rfl rfl ?_
  refine r_iload_n 7 hk dX11_runRead_6 rfl 1 rfl rfl ?_
  obtain ⟨r2, w3, ew3, h⟩ := ob_e h
  refine r_cVi 10 (As := [.int x1]) (rest := []) hk (kX11_isTrack hN ew3) cf_RX11_346 mi_X11_isTrack ⟨TX11, 36, rfl⟩ dX11_runRead_7 rfl (Nat.le_of_ble_eq_true rfl) (Nat.le_of_ble_eq_true rfl) (mk_11_0 (nx_11 hN (j := 0) (by decide))) rfl rfl (Nat.le_of_ble_eq_true rfl) ?_
  refine r_if_ne 19 13 hk dX11_runRead_10 rfl rfl (fun c4 => ?_) (fun c4 => ?_)
  · have h := if_f c4 h
    refine r_aload_n 20 hk dX11_runRead_19 rfl 0 rfl rfl ?_
    obtain ⟨r5, w6, ew6, h⟩ := ob_e h
    refine r_cVv 23 (As := []) (rest := []) hk (kX11_runs hN ew6) cf_RX11_394 mi_X11_runs ⟨TX11, 36, rfl⟩ dX11_runRead_20 rfl (Nat.le_of_ble_eq_true rfl) (Nat.le_of_ble_eq_true rfl) (mk_11_0 (nx_11 hN (j := 0) (by decide))) rfl rfl (Nat.le_of_ble_eq_true rfl) ?_
    refine r_aload_n 24 hk dX11_runRead_23 rfl 0 rfl rfl ?_
    refine r_aload_n 25 hk dX11_runRead_24 rfl 0 rfl rfl ?_
    refine r_iload_n 26 hk dX11_runRead_25 rfl 1 rfl rfl ?_
    obtain ⟨r7, w8, ew8, h⟩ := ob_e h
    refine r_cVi 29 (As := [.int x1]) (rest := [.ref (al 11 0 0)]) hk (kX11_readOf hN ew8) cf_RX11_316 mi_X11_readOf ⟨TX11, 36, rfl⟩ dX11_runRead_26 rfl (Nat.le_of_ble_eq_true rfl) (Nat.le_of_ble_eq_true rfl) (mk_11_0 (nx_11 hN (j := 0) (by decide))) rfl rfl (Nat.le_of_ble_eq_true rfl) ?_
    obtain ⟨r9, w10, ew10, h⟩ := ob_e h
    refine r_cVi 32 (As := [.int r7]) (rest := []) hk (kX11_good hN ew10) cf_RX11_55 mi_X11_good ⟨TX11, 36, rfl⟩ dX11_runRead_29 rfl (Nat.le_of_ble_eq_true rfl) (Nat.le_of_ble_eq_true rfl) (mk_11_0 (nx_11 hN (j := 0) (by decide))) rfl rfl (Nat.le_of_ble_eq_true rfl) ?_
    exact r_iret hk hR dX11_runRead_32 h
  · have h := if_t c4 h
    refine r_aload_n 14 hk dX11_runRead_13 rfl 0 rfl rfl ?_
    refine r_iconst 15 hk dX11_runRead_14 rfl ci_1 ?_
    obtain ⟨r11, w12, ew12, h⟩ := ob_e h
    refine r_cVi 18 (As := [.int 1]) (rest := []) hk (kX11_refused hN ew12) cf_RX11_51 mi_X11_refused ⟨TX11, 36, rfl⟩ dX11_runRead_15 rfl (Nat.le_of_ble_eq_true rfl) (Nat.le_of_ble_eq_true rfl) (mk_11_0 (nx_11 hN (j := 0) (by decide))) rfl rfl (Nat.le_of_ble_eq_true rfl) ?_
    exact r_iret hk hR dX11_runRead_18 h
def fX11_factor (nd : Nat) (w : Wd) (x1 : Int32) : Option (Int64 × Wd) :=
  lw (sI w 11 0 0 (0)) fun w1 =>
  if (w1 11 0).2.2.1 3 = 0 then
    ob (fX11_refused nd w1 (1)) fun r3 w4 =>
    some (((r3 : Int32).toInt64), w4)
  else
    ob (fX11_runs nd w1 ) fun _ w6 =>
    ck (inb (109) 110) <|
    ckp ((w6 11 0).2.2.1 3) nd fun q8 =>
    if (((w6 10 q8).1 5) : Int32) = 0 then
      ob (fX11_fraction nd w6 (((((w6 11 0).2.1 16 (109 : Int32).toNatClampNeg) : Int32).toInt64)) (1) (x1)) fun r13 w14 =>
      some (r13, w14)
    else
      ckp ((w6 11 0).2.2.1 3) nd fun q10 =>
      ob (fX11_fraction nd w6 (((((w6 11 0).2.1 16 (109 : Int32).toNatClampNeg) : Int32).toInt64)) (((((w6 10 q10).1 5) : Int32).toInt64)) (x1)) fun r11 w12 =>
      some (r11, w12)
set_option maxRecDepth 100000 in
set_option maxHeartbeats 4000000 in
theorem kX11_factor {l : Launch} {G : Gx} {al : Al} {w : Wd} {x1 : Int32} {r : Int64} {wz : Wd} (hN : NX G) (h : fX11_factor (gN G 10) w x1 = some (r, wz)) : MC l G yX11_factor cX11_factor 2 (some (.long)) 9 200 al w [.ref (al 11 0 0), .int x1] (some (.long r)) wz := by
  refine mc_of [(0, .ref (al 11 0 0)), (1, .int x1)] (by decide) (Nat.le_of_ble_eq_true rfl) rfl ?_
  intro K hk hR hn hl hG
  subst hl; subst hG
  have hk : VH K RX11 cX11_factor 9 200 := hk
  rw [fX11_factor.eq_1] at h
  refine r_aload_n 1 hk dX11_factor_0 rfl 0 rfl rfl ?_
  refine r_iconst 2 hk dX11_factor_1 rfl ci_0 ?_
  obtain ⟨w1, ew1, h⟩ := lw_e h
  refine r_putI 5 w1 hk dX11_factor_2 rfl ff_RX11_45 fi_11_0 (mk_11_0 (nx_11 hN (j := 0) (by decide))) ew1 ?_
  refine r_aload_n 6 hk dX11_factor_5 rfl 0 rfl rfl ?_
  refine r_get 9 hk dX11_factor_6 rfl ff_RX11_260 (mk_11_0 (nx_11 hN (j := 0) (by decide))) (gv_11_3 _ _ _) ?_
  by_cases c2 : (w1 11 0).2.2.1 3 = 0
  · have h := if_t c2 h
    refine r_pv0 c2 ?_
    refine r_ifnonnull0 12 hk dX11_factor_9 rfl ?_
    refine r_aload_n 13 hk dX11_factor_12 rfl 0 rfl rfl ?_
    refine r_iconst 14 hk dX11_factor_13 rfl ci_1 ?_
    obtain ⟨r3, w4, ew4, h⟩ := ob_e h
    refine r_cVi 17 (As := [.int 1]) (rest := []) hk (kX11_refused hN ew4) cf_RX11_51 mi_X11_refused ⟨TX11, 36, rfl⟩ dX11_factor_14 rfl (Nat.le_of_ble_eq_true rfl) (Nat.le_of_ble_eq_true rfl) (mk_11_0 (nx_11 hN (j := 0) (by decide))) rfl rfl (Nat.le_of_ble_eq_true rfl) ?_
    refine r_i2l 18 hk dX11_factor_17 rfl ?_
    exact r_lret hk hR dX11_factor_18 h
  · have h := if_f c2 h
    obtain ⟨q15, eq15⟩ := Nat.exists_eq_succ_of_ne_zero c2
    refine r_pv1 eq15 ?_
    refine r_ifnonnull1 19 hk dX11_factor_9 rfl ?_
    refine r_aload_n 20 hk dX11_factor_19 rfl 0 rfl rfl ?_
    obtain ⟨r5, w6, ew6, h⟩ := ob_e h
    refine r_cVv 23 (As := []) (rest := []) hk (kX11_runs hN ew6) cf_RX11_394 mi_X11_runs ⟨TX11, 36, rfl⟩ dX11_factor_20 rfl (Nat.le_of_ble_eq_true rfl) (Nat.le_of_ble_eq_true rfl) (mk_11_0 (nx_11 hN (j := 0) (by decide))) rfl rfl (Nat.le_of_ble_eq_true rfl) ?_
    refine r_aload_n 24 hk dX11_factor_23 rfl 0 rfl rfl ?_
    refine r_aload_n 25 hk dX11_factor_24 rfl 0 rfl rfl ?_
    refine r_get 28 hk dX11_factor_25 rfl ff_RX11_21 (mk_11_0 (nx_11 hN (j := 0) (by decide))) (gv_11_16 _ _ _) ?_
    refine r_bipush 30 hk dX11_factor_28 rfl cb_109 ?_
    obtain ⟨b7, h⟩ := ck_e h
    refine r_iald 31 hk dX11_factor_30 rfl rfl (mk_11_17 (nx_11 hN (j := 0) (by decide))) rfl b7 ?_
    refine r_i2l 32 hk dX11_factor_31 rfl ?_
    refine r_aload_n 33 hk dX11_factor_32 rfl 0 rfl rfl ?_
    refine r_get 36 hk dX11_factor_33 rfl ff_RX11_260 (mk_11_0 (nx_11 hN (j := 0) (by decide))) (gv_11_3 _ _ _) ?_
    obtain ⟨q8, eq8, lq8, h⟩ := ckp_e h
    refine r_pv1 eq8 ?_
    refine r_get 39 hk dX11_factor_36 rfl ff_RX11_224 (mk_10_0 lq8) (gv_10_5 _ _ _) ?_
    refine r_if_ne 46 42 hk dX11_factor_39 rfl rfl (fun c9 => ?_) (fun c9 => ?_)
    · have h := if_f c9 h
      refine r_aload_n 47 hk dX11_factor_46 rfl 0 rfl rfl ?_
      refine r_get 50 hk dX11_factor_47 rfl ff_RX11_260 (mk_11_0 (nx_11 hN (j := 0) (by decide))) (gv_11_3 _ _ _) ?_
      obtain ⟨q10, eq10, lq10, h⟩ := ckp_e h
      refine r_pv1 eq10 ?_
      refine r_get 53 hk dX11_factor_50 rfl ff_RX11_224 (mk_10_0 lq10) (gv_10_5 _ _ _) ?_
      refine r_i2l 54 hk dX11_factor_53 rfl ?_
      refine r_iload_n 55 hk dX11_factor_54 rfl 1 rfl rfl ?_
      obtain ⟨r11, w12, ew12, h⟩ := ob_e h
      refine r_cVl 58 (As := [.long (((((w6 11 0).2.1 16 (109 : Int32).toNatClampNeg) : Int32).toInt64)), .long (((((w6 10 q10).1 5) : Int32).toInt64)), .int x1]) (rest := []) hk (kX11_fraction hN ew12) cf_RX11_396 mi_X11_fraction ⟨TX11, 36, rfl⟩ dX11_factor_55 rfl (Nat.le_of_ble_eq_true rfl) (Nat.le_of_ble_eq_true rfl) (mk_11_0 (nx_11 hN (j := 0) (by decide))) rfl rfl (Nat.le_of_ble_eq_true rfl) ?_
      exact r_lret hk hR dX11_factor_58 h
    · have h := if_t c9 h
      refine r_lconst 43 hk dX11_factor_42 rfl cl_1 ?_
      refine r_goto 54 hk (x := 0) dX11_factor_43 rfl ?_
      refine r_iload_n 55 hk dX11_factor_54 rfl 1 rfl rfl ?_
      obtain ⟨r13, w14, ew14, h⟩ := ob_e h
      refine r_cVl 58 (As := [.long (((((w6 11 0).2.1 16 (109 : Int32).toNatClampNeg) : Int32).toInt64)), .long 1, .int x1]) (rest := []) hk (kX11_fraction hN ew14) cf_RX11_396 mi_X11_fraction ⟨TX11, 36, rfl⟩ dX11_factor_55 rfl (Nat.le_of_ble_eq_true rfl) (Nat.le_of_ble_eq_true rfl) (mk_11_0 (nx_11 hN (j := 0) (by decide))) rfl rfl (Nat.le_of_ble_eq_true rfl) ?_
      exact r_lret hk hR dX11_factor_58 h
def fX11_writesBySize (nd : Nat) (w : Wd) (x1 : Int32) : Option (Int32 × Wd) :=
  ob (fX11_asTold nd w ) fun _ w2 =>
  ob (fX11_bandsBySize nd w2 (x1)) fun _ w4 =>
  ob (fX11_goes nd w4 (0)) fun _ w6 =>
  ck (inb (109) 110) <|
  some (((w6 11 0).2.1 16 (109 : Int32).toNatClampNeg), w6)
set_option maxRecDepth 100000 in
set_option maxHeartbeats 4000000 in
theorem kX11_writesBySize {l : Launch} {G : Gx} {al : Al} {w : Wd} {x1 : Int32} {r : Int32} {wz : Wd} (hN : NX G) (h : fX11_writesBySize (gN G 10) w x1 = some (r, wz)) : MC l G yX11_writesBySize cX11_writesBySize 2 (some (.int)) 8 180 al w [.ref (al 11 0 0), .int x1] (some (.int r)) wz := by
  refine mc_of [(0, .ref (al 11 0 0)), (1, .int x1)] (by decide) (Nat.le_of_ble_eq_true rfl) rfl ?_
  intro K hk hR hn hl hG
  subst hl; subst hG
  have hk : VH K RX11 cX11_writesBySize 8 180 := hk
  rw [fX11_writesBySize.eq_1] at h
  refine r_aload_n 1 hk dX11_writesBySize_0 rfl 0 rfl rfl ?_
  obtain ⟨r1, w2, ew2, h⟩ := ob_e h
  refine r_cVv 4 (As := []) (rest := []) hk (kX11_asTold hN ew2) cf_RX11_262 mi_X11_asTold ⟨TX11, 36, rfl⟩ dX11_writesBySize_1 rfl (Nat.le_of_ble_eq_true rfl) (Nat.le_of_ble_eq_true rfl) (mk_11_0 (nx_11 hN (j := 0) (by decide))) rfl rfl (Nat.le_of_ble_eq_true rfl) ?_
  refine r_aload_n 5 hk dX11_writesBySize_4 rfl 0 rfl rfl ?_
  refine r_iload_n 6 hk dX11_writesBySize_5 rfl 1 rfl rfl ?_
  obtain ⟨r3, w4, ew4, h⟩ := ob_e h
  refine r_cVv 9 (As := [.int x1]) (rest := []) hk (kX11_bandsBySize hN ew4) cf_RX11_400 mi_X11_bandsBySize ⟨TX11, 36, rfl⟩ dX11_writesBySize_6 rfl (Nat.le_of_ble_eq_true rfl) (Nat.le_of_ble_eq_true rfl) (mk_11_0 (nx_11 hN (j := 0) (by decide))) rfl rfl (Nat.le_of_ble_eq_true rfl) ?_
  refine r_aload_n 10 hk dX11_writesBySize_9 rfl 0 rfl rfl ?_
  refine r_iconst 11 hk dX11_writesBySize_10 rfl ci_0 ?_
  obtain ⟨r5, w6, ew6, h⟩ := ob_e h
  refine r_cVv 14 (As := [.int 0]) (rest := []) hk (kX11_goes hN ew6) cf_RX11_391 mi_X11_goes ⟨TX11, 36, rfl⟩ dX11_writesBySize_11 rfl (Nat.le_of_ble_eq_true rfl) (Nat.le_of_ble_eq_true rfl) (mk_11_0 (nx_11 hN (j := 0) (by decide))) rfl rfl (Nat.le_of_ble_eq_true rfl) ?_
  refine r_aload_n 15 hk dX11_writesBySize_14 rfl 0 rfl rfl ?_
  refine r_get 18 hk dX11_writesBySize_15 rfl ff_RX11_21 (mk_11_0 (nx_11 hN (j := 0) (by decide))) (gv_11_16 _ _ _) ?_
  refine r_bipush 20 hk dX11_writesBySize_18 rfl cb_109 ?_
  obtain ⟨b7, h⟩ := ck_e h
  refine r_iald 21 hk dX11_writesBySize_20 rfl rfl (mk_11_17 (nx_11 hN (j := 0) (by decide))) rfl b7 ?_
  exact r_iret hk hR dX11_writesBySize_21 h
def fX11_bySize (nd : Nat) (w : Wd) (x1 : Int32) : Option (Int32 × Wd) :=
  lw (sI w 11 0 0 (0)) fun w1 =>
  if (w1 11 0).2.2.1 3 = 0 then
    ob (fX11_refused nd w1 (1)) fun r3 w4 =>
    some (r3, w4)
  else
    ob (fX11_in nd w1 (x1) (2) (8)) fun r5 w6 =>
    if (r5 : Int32) = 0 then
      ob (fX11_refused nd w6 (2)) fun r12 w13 =>
      some (r12, w13)
    else
      ob (fX11_writesBySize nd w6 (x1)) fun r8 w9 =>
      ob (fX11_good nd w9 (r8)) fun r10 w11 =>
      some (r10, w11)
set_option maxRecDepth 100000 in
set_option maxHeartbeats 4000000 in
theorem kX11_bySize {l : Launch} {G : Gx} {al : Al} {w : Wd} {x1 : Int32} {r : Int32} {wz : Wd} (hN : NX G) (h : fX11_bySize (gN G 10) w x1 = some (r, wz)) : MC l G yX11_bySize cX11_bySize 2 (some (.int)) 9 201 al w [.ref (al 11 0 0), .int x1] (some (.int r)) wz := by
  refine mc_of [(0, .ref (al 11 0 0)), (1, .int x1)] (by decide) (Nat.le_of_ble_eq_true rfl) rfl ?_
  intro K hk hR hn hl hG
  subst hl; subst hG
  have hk : VH K RX11 cX11_bySize 9 201 := hk
  rw [fX11_bySize.eq_1] at h
  refine r_aload_n 1 hk dX11_bySize_0 rfl 0 rfl rfl ?_
  refine r_iconst 2 hk dX11_bySize_1 rfl ci_0 ?_
  obtain ⟨w1, ew1, h⟩ := lw_e h
  refine r_putI 5 w1 hk dX11_bySize_2 rfl ff_RX11_45 fi_11_0 (mk_11_0 (nx_11 hN (j := 0) (by decide))) ew1 ?_
  refine r_aload_n 6 hk dX11_bySize_5 rfl 0 rfl rfl ?_
  refine r_get 9 hk dX11_bySize_6 rfl ff_RX11_260 (mk_11_0 (nx_11 hN (j := 0) (by decide))) (gv_11_3 _ _ _) ?_
  by_cases c2 : (w1 11 0).2.2.1 3 = 0
  · have h := if_t c2 h
    refine r_pv0 c2 ?_
    refine r_ifnonnull0 12 hk dX11_bySize_9 rfl ?_
    refine r_aload_n 13 hk dX11_bySize_12 rfl 0 rfl rfl ?_
    refine r_iconst 14 hk dX11_bySize_13 rfl ci_1 ?_
    obtain ⟨r3, w4, ew4, h⟩ := ob_e h
    refine r_cVi 17 (As := [.int 1]) (rest := []) hk (kX11_refused hN ew4) cf_RX11_51 mi_X11_refused ⟨TX11, 36, rfl⟩ dX11_bySize_14 rfl (Nat.le_of_ble_eq_true rfl) (Nat.le_of_ble_eq_true rfl) (mk_11_0 (nx_11 hN (j := 0) (by decide))) rfl rfl (Nat.le_of_ble_eq_true rfl) ?_
    exact r_iret hk hR dX11_bySize_17 h
  · have h := if_f c2 h
    obtain ⟨q14, eq14⟩ := Nat.exists_eq_succ_of_ne_zero c2
    refine r_pv1 eq14 ?_
    refine r_ifnonnull1 18 hk dX11_bySize_9 rfl ?_
    refine r_iload_n 19 hk dX11_bySize_18 rfl 1 rfl rfl ?_
    refine r_iconst 20 hk dX11_bySize_19 rfl ci_2 ?_
    refine r_bipush 22 hk dX11_bySize_20 rfl cb_8 ?_
    obtain ⟨r5, w6, ew6, h⟩ := ob_e h
    refine r_cSi 25 (As := [.int x1, .int 2, .int 8]) (rest := []) hk (kX11_in hN ew6) cf_RX11_124 ms_X11_in dX11_bySize_22 rfl (Nat.le_of_ble_eq_true rfl) (Nat.le_of_ble_eq_true rfl) rfl rfl (Nat.le_of_ble_eq_true rfl) ?_
    refine r_if_ne 34 28 hk dX11_bySize_25 rfl rfl (fun c7 => ?_) (fun c7 => ?_)
    · have h := if_f c7 h
      refine r_aload_n 35 hk dX11_bySize_34 rfl 0 rfl rfl ?_
      refine r_aload_n 36 hk dX11_bySize_35 rfl 0 rfl rfl ?_
      refine r_iload_n 37 hk dX11_bySize_36 rfl 1 rfl rfl ?_
      obtain ⟨r8, w9, ew9, h⟩ := ob_e h
      refine r_cVi 40 (As := [.int x1]) (rest := [.ref (al 11 0 0)]) hk (kX11_writesBySize hN ew9) cf_RX11_403 mi_X11_writesBySize ⟨TX11, 36, rfl⟩ dX11_bySize_37 rfl (Nat.le_of_ble_eq_true rfl) (Nat.le_of_ble_eq_true rfl) (mk_11_0 (nx_11 hN (j := 0) (by decide))) rfl rfl (Nat.le_of_ble_eq_true rfl) ?_
      obtain ⟨r10, w11, ew11, h⟩ := ob_e h
      refine r_cVi 43 (As := [.int r8]) (rest := []) hk (kX11_good hN ew11) cf_RX11_55 mi_X11_good ⟨TX11, 36, rfl⟩ dX11_bySize_40 rfl (Nat.le_of_ble_eq_true rfl) (Nat.le_of_ble_eq_true rfl) (mk_11_0 (nx_11 hN (j := 0) (by decide))) rfl rfl (Nat.le_of_ble_eq_true rfl) ?_
      exact r_iret hk hR dX11_bySize_43 h
    · have h := if_t c7 h
      refine r_aload_n 29 hk dX11_bySize_28 rfl 0 rfl rfl ?_
      refine r_iconst 30 hk dX11_bySize_29 rfl ci_2 ?_
      obtain ⟨r12, w13, ew13, h⟩ := ob_e h
      refine r_cVi 33 (As := [.int 2]) (rest := []) hk (kX11_refused hN ew13) cf_RX11_51 mi_X11_refused ⟨TX11, 36, rfl⟩ dX11_bySize_30 rfl (Nat.le_of_ble_eq_true rfl) (Nat.le_of_ble_eq_true rfl) (mk_11_0 (nx_11 hN (j := 0) (by decide))) rfl rfl (Nat.le_of_ble_eq_true rfl) ?_
      exact r_iret hk hR dX11_bySize_33 h
