def fX11_back_32 (nd : Nat) : Nat → Wd → Int32 → Int32 → Option (Int32 × Wd)
  | 0, _, _, _ => none
  | n + 1, w, x1, x2 =>
    if (110 : Int32) ≤ x2 then
      lw (sI w 11 0 19 (0)) fun w16 =>
      ob (fX11_granted nd w16 ) fun r17 w18 =>
      ck (isb (r17)) <|
      some (r17, w18)
    else
      ck (inb (((110 * x1) + x2)) 330) <|
      ck (inb (x2) 110) <|
      lw (sA w 11 0 15 (x2 : Int32).toNatClampNeg (((w 11 0).2.1 18 (((110 * x1) + x2) : Int32).toNatClampNeg))) fun w22 =>
      lw (x2 + 1) fun x2_23 =>
      fX11_back_32 nd n w22 (x1) (x2_23)
def fX11_back (nd : Nat) (w : Wd) (x1 : Int32) : Option (Int32 × Wd) :=
  lw (sI w 11 0 0 (0)) fun w1 =>
  if (w1 11 0).2.2.1 3 = 0 then
    ob (fX11_denied nd w1 (1)) fun r3 w4 =>
    ck (isb (r3)) <|
    some (r3, w4)
  else
    if (x1 : Int32) < 0 then
      ob (fX11_denied nd w1 (1)) fun r7 w8 =>
      ck (isb (r7)) <|
      some (r7, w8)
    else
      if (x1 : Int32) < ((w1 11 0).1 20) then
        fX11_back_32 nd fuel0 w1 (x1) (0)
      else
        ob (fX11_denied nd w1 (1)) fun r11 w12 =>
        ck (isb (r11)) <|
        some (r11, w12)
set_option maxRecDepth 100000 in
set_option maxHeartbeats 4000000 in
theorem sX11_back_32 {K : VC} {al : Al} {r : Int32} {wz : Wd}  (hk : VH K RX11 cX11_back 2 42) (hR : VR K al (some (.boolean)) (some (.int r)) wz) (hn : kn K = 3) (hN : NX (kG K)) : ∀ (n : Nat) (w : Wd) (x1 : Int32) (x2 : Int32), fX11_back_32 (gN (kG K) 10) n w x1 x2 = some (r, wz) → V K al w 32 [(0, .ref (al 11 0 0)), (1, .int x1), (2, .int x2)] [] := by
  intro n
  induction n with
  | zero => intro w x1 x2 h; cases h
  | succ n ih =>
    intro w x1 x2 h
    rw [fX11_back_32.eq_2] at h
    refine r_iload_n 33 hk dX11_back_32 rfl 2 rfl rfl ?_
    refine r_bipush 35 hk dX11_back_33 rfl cb_110 ?_
    refine r_icmp_ge 61 38 hk dX11_back_35 rfl rfl (fun c15 => ?_) (fun c15 => ?_)
    · have h := if_t c15 h
      refine r_aload_n 62 hk dX11_back_61 rfl 0 rfl rfl ?_
      refine r_iconst 63 hk dX11_back_62 rfl ci_0 ?_
      obtain ⟨w16, ew16, h⟩ := lw_e h
      refine r_putI 66 w16 hk dX11_back_63 rfl ff_RX11_268 fi_11_19 (mk_11_0 (nx_11 hN (j := 0) (by decide))) ew16 ?_
      refine r_aload_n 67 hk dX11_back_66 rfl 0 rfl rfl ?_
      obtain ⟨r17, w18, ew18, h⟩ := ob_e h
      refine r_cVi 70 (As := []) (rest := []) hk (kX11_granted hN ew18) cf_RX11_465 mi_X11_granted ⟨TX11, 36, rfl⟩ dX11_back_67 rfl (Nat.le_of_ble_eq_true rfl) (Nat.le_of_ble_eq_true rfl) (mk_11_0 (nx_11 hN (j := 0) (by decide))) rfl rfl (Nat.le_of_ble_eq_true rfl) ?_
      obtain ⟨b19, h⟩ := ck_e h
      exact r_zret hk hR dX11_back_70 b19 h
    · have h := if_f c15 h
      refine r_aload_n 39 hk dX11_back_38 rfl 0 rfl rfl ?_
      refine r_get 42 hk dX11_back_39 rfl ff_RX11_17 (mk_11_0 (nx_11 hN (j := 0) (by decide))) (gv_11_15 _ _ _) ?_
      refine r_iload_n 43 hk dX11_back_42 rfl 2 rfl rfl ?_
      refine r_aload_n 44 hk dX11_back_43 rfl 0 rfl rfl ?_
      refine r_get 47 hk dX11_back_44 rfl ff_RX11_27 (mk_11_0 (nx_11 hN (j := 0) (by decide))) (gv_11_18 _ _ _) ?_
      refine r_bipush 49 hk dX11_back_47 rfl cb_110 ?_
      refine r_iload_n 50 hk dX11_back_49 rfl 1 rfl rfl ?_
      refine r_imul 51 hk dX11_back_50 rfl ?_
      refine r_iload_n 52 hk dX11_back_51 rfl 2 rfl rfl ?_
      refine r_iadd 53 hk dX11_back_52 rfl ?_
      obtain ⟨b20, h⟩ := ck_e h
      refine r_iald 54 hk dX11_back_53 rfl rfl (mk_11_19 (nx_11 hN (j := 0) (by decide))) rfl b20 ?_
      obtain ⟨b21, h⟩ := ck_e h
      obtain ⟨w22, ew22, h⟩ := lw_e h
      refine r_iast 55 w22 hk dX11_back_54 rfl rfl (mk_11_16 (nx_11 hN (j := 0) (by decide))) rfl b21 ew22 ?_
      obtain ⟨x2_23, ex2_23, h⟩ := lw_e h
      refine r_iinc 58 [(2, .int x2_23), (0, .ref (al 11 0 0)), (1, .int x1)] hk (j := 2) dX11_back_55 rfl hn (by decide) rfl ex2_23 rfl ?_
      refine r_goto 32 hk (x := 0) dX11_back_58 rfl ?_
      refine r_sub [1, 2, 0] rfl ?_
      exact ih _ _ _ h
set_option maxRecDepth 100000 in
set_option maxHeartbeats 4000000 in
theorem kX11_back {l : Launch} {G : Gx} {al : Al} {w : Wd} {x1 : Int32} {r : Int32} {wz : Wd} (hN : NX G) (h : fX11_back (gN G 10) w x1 = some (r, wz)) : MC l G yX11_back cX11_back 3 (some (.boolean)) 2 42 al w [.ref (al 11 0 0), .int x1] (some (.int r)) wz := by
  refine mc_of [(0, .ref (al 11 0 0)), (1, .int x1)] (by decide) (Nat.le_of_ble_eq_true rfl) rfl ?_
  intro K hk hR hn hl hG
  subst hl; subst hG
  have hk : VH K RX11 cX11_back 2 42 := hk
  rw [fX11_back.eq_1] at h
  refine r_aload_n 1 hk dX11_back_0 rfl 0 rfl rfl ?_
  refine r_iconst 2 hk dX11_back_1 rfl ci_0 ?_
  obtain ⟨w1, ew1, h⟩ := lw_e h
  refine r_putI 5 w1 hk dX11_back_2 rfl ff_RX11_45 fi_11_0 (mk_11_0 (nx_11 hN (j := 0) (by decide))) ew1 ?_
  refine r_aload_n 6 hk dX11_back_5 rfl 0 rfl rfl ?_
  refine r_get 9 hk dX11_back_6 rfl ff_RX11_260 (mk_11_0 (nx_11 hN (j := 0) (by decide))) (gv_11_3 _ _ _) ?_
  by_cases c2 : (w1 11 0).2.2.1 3 = 0
  · have h := if_t c2 h
    refine r_pv0 c2 ?_
    refine r_ifnull1 24 hk (x := 0) dX11_back_9 rfl ?_
    refine r_aload_n 25 hk dX11_back_24 rfl 0 rfl rfl ?_
    refine r_iconst 26 hk dX11_back_25 rfl ci_1 ?_
    obtain ⟨r3, w4, ew4, h⟩ := ob_e h
    refine r_cVi 29 (As := [.int 1]) (rest := []) hk (kX11_denied hN ew4) cf_RX11_462 mi_X11_denied ⟨TX11, 36, rfl⟩ dX11_back_26 rfl (Nat.le_of_ble_eq_true rfl) (Nat.le_of_ble_eq_true rfl) (mk_11_0 (nx_11 hN (j := 0) (by decide))) rfl rfl (Nat.le_of_ble_eq_true rfl) ?_
    obtain ⟨b5, h⟩ := ck_e h
    exact r_zret hk hR dX11_back_29 b5 h
  · have h := if_f c2 h
    obtain ⟨q14, eq14⟩ := Nat.exists_eq_succ_of_ne_zero c2
    refine r_pv1 eq14 ?_
    refine r_ifnull0 12 hk dX11_back_9 rfl ?_
    refine r_iload_n 13 hk dX11_back_12 rfl 1 rfl rfl ?_
    refine r_if_lt 24 16 hk dX11_back_13 rfl rfl (fun c6 => ?_) (fun c6 => ?_)
    · have h := if_t c6 h
      refine r_aload_n 25 hk dX11_back_24 rfl 0 rfl rfl ?_
      refine r_iconst 26 hk dX11_back_25 rfl ci_1 ?_
      obtain ⟨r7, w8, ew8, h⟩ := ob_e h
      refine r_cVi 29 (As := [.int 1]) (rest := []) hk (kX11_denied hN ew8) cf_RX11_462 mi_X11_denied ⟨TX11, 36, rfl⟩ dX11_back_26 rfl (Nat.le_of_ble_eq_true rfl) (Nat.le_of_ble_eq_true rfl) (mk_11_0 (nx_11 hN (j := 0) (by decide))) rfl rfl (Nat.le_of_ble_eq_true rfl) ?_
      obtain ⟨b9, h⟩ := ck_e h
      exact r_zret hk hR dX11_back_29 b9 h
    · have h := if_f c6 h
      refine r_iload_n 17 hk dX11_back_16 rfl 1 rfl rfl ?_
      refine r_aload_n 18 hk dX11_back_17 rfl 0 rfl rfl ?_
      refine r_get 21 hk dX11_back_18 rfl ff_RX11_271 (mk_11_0 (nx_11 hN (j := 0) (by decide))) (gv_11_20 _ _ _) ?_
      refine r_icmp_lt 30 24 hk dX11_back_21 rfl rfl (fun c10 => ?_) (fun c10 => ?_)
      · have h := if_t c10 h
        refine r_iconst 31 hk dX11_back_30 rfl ci_0 ?_
        refine r_istore_n 32 [(2, .int 0), (0, .ref (al 11 0 0)), (1, .int x1)] hk dX11_back_31 rfl rfl hn (by decide) rfl rfl ?_
        refine r_sub [1, 2, 0] rfl ?_
        exact sX11_back_32 hk hR hn hN _ _ _ _ h
      · have h := if_f c10 h
        refine r_aload_n 25 hk dX11_back_24 rfl 0 rfl rfl ?_
        refine r_iconst 26 hk dX11_back_25 rfl ci_1 ?_
        obtain ⟨r11, w12, ew12, h⟩ := ob_e h
        refine r_cVi 29 (As := [.int 1]) (rest := []) hk (kX11_denied hN ew12) cf_RX11_462 mi_X11_denied ⟨TX11, 36, rfl⟩ dX11_back_26 rfl (Nat.le_of_ble_eq_true rfl) (Nat.le_of_ble_eq_true rfl) (mk_11_0 (nx_11 hN (j := 0) (by decide))) rfl rfl (Nat.le_of_ble_eq_true rfl) ?_
        obtain ⟨b13, h⟩ := ck_e h
        exact r_zret hk hR dX11_back_29 b13 h
def fX11_led_20 (nd : Nat) : Nat → Wd → Int32 → Int32 → Int32 → Option (Int32 × Wd)
  | 0, _, _, _, _ => none
  | n + 1, w, x1, x2, x3 =>
    if (w 11 0).2.2.1 3 = 0 then
      lw (sI w 11 0 0 (1)) fun w7 =>
      some (0, w7)
    else
      ckp ((w 11 0).2.2.1 3) nd fun q8 =>
      if (((w 10 q8).1 3) : Int32) ≤ x3 then
        lw (sI w 11 0 0 (1)) fun w10 =>
        some (0, w10)
      else
        ob (fX11_liveOf nd w (x3)) fun r11 w12 =>
        if (r11 : Int32) = (-1) then
          if (x2 : Int32) = x1 then
            some (x3, w12)
          else
            lw (x2 + 1) fun x2_15 =>
            lw (x3 + 1) fun x3_16 =>
            fX11_led_20 nd n w12 (x1) (x2_15) (x3_16)
        else
          lw (x3 + 1) fun x3_17 =>
          fX11_led_20 nd n w12 (x1) (x2) (x3_17)
def fX11_led (nd : Nat) (w : Wd) (x1 : Int32) : Option (Int32 × Wd) :=
  lw (sI w 11 0 0 (0)) fun w1 =>
  if (w1 11 0).2.2.1 3 = 0 then
    fX11_led_20 nd fuel0 w1 (x1) (0) (0)
  else
    ob (fX11_works nd w1 ) fun _ w4 =>
    fX11_led_20 nd fuel0 w4 (x1) (0) (0)
set_option maxRecDepth 100000 in
set_option maxHeartbeats 4000000 in
theorem sX11_led_20 {K : VC} {al : Al} {r : Int32} {wz : Wd}  (hk : VH K RX11 cX11_led 2 43) (hR : VR K al (some (.int)) (some (.int r)) wz) (hn : kn K = 4) (hN : NX (kG K)) : ∀ (n : Nat) (w : Wd) (x1 : Int32) (x2 : Int32) (x3 : Int32), fX11_led_20 (gN (kG K) 10) n w x1 x2 x3 = some (r, wz) → V K al w 20 [(0, .ref (al 11 0 0)), (1, .int x1), (2, .int x2), (3, .int x3)] [] := by
  intro n
  induction n with
  | zero => intro w x1 x2 x3 h; cases h
  | succ n ih =>
    intro w x1 x2 x3 h
    rw [fX11_led_20.eq_2] at h
    refine r_aload_n 21 hk dX11_led_20 rfl 0 rfl rfl ?_
    refine r_get 24 hk dX11_led_21 rfl ff_RX11_260 (mk_11_0 (nx_11 hN (j := 0) (by decide))) (gv_11_3 _ _ _) ?_
    by_cases c6 : (w 11 0).2.2.1 3 = 0
    · have h := if_t c6 h
      refine r_pv0 c6 ?_
      refine r_ifnull1 66 hk (x := 0) dX11_led_24 rfl ?_
      refine r_aload_n 67 hk dX11_led_66 rfl 0 rfl rfl ?_
      refine r_iconst 68 hk dX11_led_67 rfl ci_1 ?_
      obtain ⟨w7, ew7, h⟩ := lw_e h
      refine r_putI 71 w7 hk dX11_led_68 rfl ff_RX11_45 fi_11_0 (mk_11_0 (nx_11 hN (j := 0) (by decide))) ew7 ?_
      refine r_iconst 72 hk dX11_led_71 rfl ci_0 ?_
      exact r_iret hk hR dX11_led_72 h
    · have h := if_f c6 h
      obtain ⟨q18, eq18⟩ := Nat.exists_eq_succ_of_ne_zero c6
      refine r_pv1 eq18 ?_
      refine r_ifnull0 27 hk dX11_led_24 rfl ?_
      refine r_iload_n 28 hk dX11_led_27 rfl 3 rfl rfl ?_
      refine r_aload_n 29 hk dX11_led_28 rfl 0 rfl rfl ?_
      refine r_get 32 hk dX11_led_29 rfl ff_RX11_260 (mk_11_0 (nx_11 hN (j := 0) (by decide))) (gv_11_3 _ _ _) ?_
      obtain ⟨q8, eq8, lq8, h⟩ := ckp_e h
      refine r_pv1 eq8 ?_
      refine r_get 35 hk dX11_led_32 rfl ff_RX11_209 (mk_10_0 lq8) (gv_10_3 _ _ _) ?_
      refine r_icmp_ge 66 38 hk dX11_led_35 rfl rfl (fun c9 => ?_) (fun c9 => ?_)
      · have h := if_t c9 h
        refine r_aload_n 67 hk dX11_led_66 rfl 0 rfl rfl ?_
        refine r_iconst 68 hk dX11_led_67 rfl ci_1 ?_
        obtain ⟨w10, ew10, h⟩ := lw_e h
        refine r_putI 71 w10 hk dX11_led_68 rfl ff_RX11_45 fi_11_0 (mk_11_0 (nx_11 hN (j := 0) (by decide))) ew10 ?_
        refine r_iconst 72 hk dX11_led_71 rfl ci_0 ?_
        exact r_iret hk hR dX11_led_72 h
      · have h := if_f c9 h
        refine r_aload_n 39 hk dX11_led_38 rfl 0 rfl rfl ?_
        refine r_iload_n 40 hk dX11_led_39 rfl 3 rfl rfl ?_
        obtain ⟨r11, w12, ew12, h⟩ := ob_e h
        refine r_cVi 43 (As := [.int x3]) (rest := []) hk (kX11_liveOf hN ew12) cf_RX11_284 mi_X11_liveOf ⟨TX11, 36, rfl⟩ dX11_led_40 rfl (Nat.le_of_ble_eq_true rfl) (Nat.le_of_ble_eq_true rfl) (mk_11_0 (nx_11 hN (j := 0) (by decide))) rfl rfl (Nat.le_of_ble_eq_true rfl) ?_
        refine r_iconst 44 hk dX11_led_43 rfl ci_m1 ?_
        refine r_icmp_eq 50 47 hk dX11_led_44 rfl rfl (fun c13 => ?_) (fun c13 => ?_)
        · have h := if_t c13 h
          refine r_iload_n 51 hk dX11_led_50 rfl 2 rfl rfl ?_
          refine r_iload_n 52 hk dX11_led_51 rfl 1 rfl rfl ?_
          refine r_icmp_ne 57 55 hk dX11_led_52 rfl rfl (fun c14 => ?_) (fun c14 => ?_)
          · have h := if_f c14 h
            obtain ⟨x2_15, ex2_15, h⟩ := lw_e h
            refine r_iinc 60 [(2, .int x2_15), (0, .ref (al 11 0 0)), (1, .int x1), (3, .int x3)] hk (j := 2) dX11_led_57 rfl hn (by decide) rfl ex2_15 rfl ?_
            obtain ⟨x3_16, ex3_16, h⟩ := lw_e h
            refine r_iinc 63 [(3, .int x3_16), (2, .int x2_15), (0, .ref (al 11 0 0)), (1, .int x1)] hk (j := 3) dX11_led_60 rfl hn (by decide) rfl ex3_16 rfl ?_
            refine r_goto 20 hk (x := 0) dX11_led_63 rfl ?_
            refine r_sub [2, 3, 1, 0] rfl ?_
            exact ih _ _ _ _ h
          · have h := if_t c14 h
            refine r_iload_n 56 hk dX11_led_55 rfl 3 rfl rfl ?_
            exact r_iret hk hR dX11_led_56 h
        · have h := if_f c13 h
          refine r_goto 60 hk (x := 0) dX11_led_47 rfl ?_
          obtain ⟨x3_17, ex3_17, h⟩ := lw_e h
          refine r_iinc 63 [(3, .int x3_17), (0, .ref (al 11 0 0)), (1, .int x1), (2, .int x2)] hk (j := 3) dX11_led_60 rfl hn (by decide) rfl ex3_17 rfl ?_
          refine r_goto 20 hk (x := 0) dX11_led_63 rfl ?_
          refine r_sub [1, 2, 3, 0] rfl ?_
          exact ih _ _ _ _ h
set_option maxRecDepth 100000 in
set_option maxHeartbeats 4000000 in
theorem kX11_led {l : Launch} {G : Gx} {al : Al} {w : Wd} {x1 : Int32} {r : Int32} {wz : Wd} (hN : NX G) (h : fX11_led (gN G 10) w x1 = some (r, wz)) : MC l G yX11_led cX11_led 4 (some (.int)) 2 43 al w [.ref (al 11 0 0), .int x1] (some (.int r)) wz := by
  refine mc_of [(0, .ref (al 11 0 0)), (1, .int x1)] (by decide) (Nat.le_of_ble_eq_true rfl) rfl ?_
  intro K hk hR hn hl hG
  subst hl; subst hG
  have hk : VH K RX11 cX11_led 2 43 := hk
  rw [fX11_led.eq_1] at h
  refine r_aload_n 1 hk dX11_led_0 rfl 0 rfl rfl ?_
  refine r_iconst 2 hk dX11_led_1 rfl ci_0 ?_
  obtain ⟨w1, ew1, h⟩ := lw_e h
  refine r_putI 5 w1 hk dX11_led_2 rfl ff_RX11_45 fi_11_0 (mk_11_0 (nx_11 hN (j := 0) (by decide))) ew1 ?_
  refine r_iconst 6 hk dX11_led_5 rfl ci_0 ?_
  refine r_istore_n 7 [(2, .int 0), (0, .ref (al 11 0 0)), (1, .int x1)] hk dX11_led_6 rfl rfl hn (by decide) rfl rfl ?_
  refine r_aload_n 8 hk dX11_led_7 rfl 1 rfl rfl ?_
  refine r_get 11 hk dX11_led_8 rfl ff_RX11_260 (mk_11_0 (nx_11 hN (j := 0) (by decide))) (gv_11_3 _ _ _) ?_
  by_cases c2 : (w1 11 0).2.2.1 3 = 0
  · have h := if_t c2 h
    refine r_pv0 c2 ?_
    refine r_ifnull1 18 hk (x := 0) dX11_led_11 rfl ?_
    refine r_iconst 19 hk dX11_led_18 rfl ci_0 ?_
    refine r_istore_n 20 [(3, .int 0), (2, .int 0), (0, .ref (al 11 0 0)), (1, .int x1)] hk dX11_led_19 rfl rfl hn (by decide) rfl rfl ?_
    refine r_sub [2, 3, 1, 0] rfl ?_
    exact sX11_led_20 hk hR hn hN _ _ _ _ _ h
  · have h := if_f c2 h
    obtain ⟨q5, eq5⟩ := Nat.exists_eq_succ_of_ne_zero c2
    refine r_pv1 eq5 ?_
    refine r_ifnull0 14 hk dX11_led_11 rfl ?_
    refine r_aload_n 15 hk dX11_led_14 rfl 1 rfl rfl ?_
    obtain ⟨r3, w4, ew4, h⟩ := ob_e h
    refine r_cVv 18 (As := []) (rest := []) hk (kX11_works hN ew4) cf_RX11_352 mi_X11_works ⟨TX11, 36, rfl⟩ dX11_led_15 rfl (Nat.le_of_ble_eq_true rfl) (Nat.le_of_ble_eq_true rfl) (mk_11_0 (nx_11 hN (j := 0) (by decide))) rfl rfl (Nat.le_of_ble_eq_true rfl) ?_
    refine r_iconst 19 hk dX11_led_18 rfl ci_0 ?_
    refine r_istore_n 20 [(3, .int 0), (2, .int 0), (0, .ref (al 11 0 0)), (1, .int x1)] hk dX11_led_19 rfl rfl hn (by decide) rfl rfl ?_
    refine r_sub [2, 3, 1, 0] rfl ?_
    exact sX11_led_20 hk hR hn hN _ _ _ _ _ h
def fX11_size (nd : Nat) (w : Wd) (x1 : Int32) : Option (Int32 × Wd) :=
  lw (sI w 11 0 0 (0)) fun w1 =>
  if (x1 : Int32) = 11 then
    some (((w1 11 0).1 6), w1)
  else
    ob (fX11_in nd w1 (x1) (0) (10)) fun r3 w4 =>
    if (r3 : Int32) = 0 then
      some ((-1), w4)
    else
      if (w4 11 0).2.2.1 3 = 0 then
        some (0, w4)
      else
        if (x1 : Int32) = 0 then
          ckp ((w4 11 0).2.2.1 3) nd fun q8 =>
          some (((w4 10 q8).1 0), w4)
        else
        if (x1 : Int32) = 1 then
          ckp ((w4 11 0).2.2.1 3) nd fun q10 =>
          some (((w4 10 q10).1 1), w4)
        else
        if (x1 : Int32) = 2 then
          ckp ((w4 11 0).2.2.1 3) nd fun q12 =>
          if (((w4 10 q12).1 8) : Int32) = 0 then
            some (0, w4)
          else
            some (1, w4)
        else
        if (x1 : Int32) = 3 then
          ckp ((w4 11 0).2.2.1 3) nd fun q15 =>
          some (((w4 10 q15).1 2), w4)
        else
        if (x1 : Int32) = 4 then
          ckp ((w4 11 0).2.2.1 3) nd fun q17 =>
          some (((w4 10 q17).1 3), w4)
        else
        if (x1 : Int32) = 5 then
          ckp ((w4 11 0).2.2.1 3) nd fun q19 =>
          some (((w4 10 q19).1 5), w4)
        else
        if (x1 : Int32) = 6 then
          ckp ((w4 11 0).2.2.1 3) nd fun q21 =>
          some (((w4 10 q21).1 6), w4)
        else
        if (x1 : Int32) = 7 then
          ckp ((w4 11 0).2.2.1 3) nd fun q23 =>
          some (((w4 10 q23).1 7), w4)
        else
        if (x1 : Int32) = 8 then
          ck (inb (109) 110) <|
          some (((w4 11 0).2.1 15 (109 : Int32).toNatClampNeg), w4)
        else
        if (x1 : Int32) = 9 then
          some (((w4 11 0).1 19), w4)
        else
        some (((w4 11 0).1 20), w4)
set_option maxRecDepth 100000 in
set_option maxHeartbeats 4000000 in
theorem kX11_size {l : Launch} {G : Gx} {al : Al} {w : Wd} {x1 : Int32} {r : Int32} {wz : Wd} (hN : NX G) (h : fX11_size (gN G 10) w x1 = some (r, wz)) : MC l G yX11_size cX11_size 2 (some (.int)) 1 22 al w [.ref (al 11 0 0), .int x1] (some (.int r)) wz := by
  refine mc_of [(0, .ref (al 11 0 0)), (1, .int x1)] (by decide) (Nat.le_of_ble_eq_true rfl) rfl ?_
  intro K hk hR hn hl hG
  subst hl; subst hG
  have hk : VH K RX11 cX11_size 1 22 := hk
  rw [fX11_size.eq_1] at h
  refine r_aload_n 1 hk dX11_size_0 rfl 0 rfl rfl ?_
  refine r_iconst 2 hk dX11_size_1 rfl ci_0 ?_
  obtain ⟨w1, ew1, h⟩ := lw_e h
  refine r_putI 5 w1 hk dX11_size_2 rfl ff_RX11_45 fi_11_0 (mk_11_0 (nx_11 hN (j := 0) (by decide))) ew1 ?_
  refine r_iload_n 6 hk dX11_size_5 rfl 1 rfl rfl ?_
  refine r_bipush 8 hk dX11_size_6 rfl cb_11 ?_
  refine r_icmp_ne 16 11 hk dX11_size_8 rfl rfl (fun c2 => ?_) (fun c2 => ?_)
  · have h := if_f c2 h
    refine r_iload_n 17 hk dX11_size_16 rfl 1 rfl rfl ?_
    refine r_iconst 18 hk dX11_size_17 rfl ci_0 ?_
    refine r_bipush 20 hk dX11_size_18 rfl cb_10 ?_
    obtain ⟨r3, w4, ew4, h⟩ := ob_e h
    refine r_cSi 23 (As := [.int x1, .int 0, .int 10]) (rest := []) hk (kX11_in hN ew4) cf_RX11_124 ms_X11_in dX11_size_20 rfl (Nat.le_of_ble_eq_true rfl) (Nat.le_of_ble_eq_true rfl) rfl rfl (Nat.le_of_ble_eq_true rfl) ?_
    refine r_if_ne 28 26 hk dX11_size_23 rfl rfl (fun c5 => ?_) (fun c5 => ?_)
    · have h := if_f c5 h
      refine r_aload_n 29 hk dX11_size_28 rfl 0 rfl rfl ?_
      refine r_get 32 hk dX11_size_29 rfl ff_RX11_260 (mk_11_0 (nx_11 hN (j := 0) (by decide))) (gv_11_3 _ _ _) ?_
      by_cases c6 : (w4 11 0).2.2.1 3 = 0
      · have h := if_t c6 h
        refine r_pv0 c6 ?_
        refine r_ifnonnull0 35 hk dX11_size_32 rfl ?_
        refine r_iconst 36 hk dX11_size_35 rfl ci_0 ?_
        exact r_iret hk hR dX11_size_36 h
      · have h := if_f c6 h
        obtain ⟨q27, eq27⟩ := Nat.exists_eq_succ_of_ne_zero c6
        refine r_pv1 eq27 ?_
        refine r_ifnonnull1 37 hk dX11_size_32 rfl ?_
        refine r_iload_n 38 hk dX11_size_37 rfl 1 rfl rfl ?_
        by_cases c7 : (x1 : Int32) = 0
        · have h := if_t c7 h
          refine r_tabIn 92 hk (k := 0) c7 dX11_size_38 (by decide) (by decide) rfl rfl ?_
          refine r_aload_n 93 hk dX11_size_92 rfl 0 rfl rfl ?_
          refine r_get 96 hk dX11_size_93 rfl ff_RX11_260 (mk_11_0 (nx_11 hN (j := 0) (by decide))) (gv_11_3 _ _ _) ?_
          obtain ⟨q8, eq8, lq8, h⟩ := ckp_e h
          refine r_pv1 eq8 ?_
          refine r_get 99 hk dX11_size_96 rfl ff_RX11_143 (mk_10_0 lq8) (gv_10_0 _ _ _) ?_
          exact r_iret hk hR dX11_size_99 h
        have h := if_f c7 h
        by_cases c9 : (x1 : Int32) = 1
        · have h := if_t c9 h
          refine r_tabIn 100 hk (k := 1) c9 dX11_size_38 (by decide) (by decide) rfl rfl ?_
          refine r_aload_n 101 hk dX11_size_100 rfl 0 rfl rfl ?_
          refine r_get 104 hk dX11_size_101 rfl ff_RX11_260 (mk_11_0 (nx_11 hN (j := 0) (by decide))) (gv_11_3 _ _ _) ?_
          obtain ⟨q10, eq10, lq10, h⟩ := ckp_e h
          refine r_pv1 eq10 ?_
          refine r_get 107 hk dX11_size_104 rfl ff_RX11_198 (mk_10_0 lq10) (gv_10_1 _ _ _) ?_
          exact r_iret hk hR dX11_size_107 h
        have h := if_f c9 h
        by_cases c11 : (x1 : Int32) = 2
        · have h := if_t c11 h
          refine r_tabIn 108 hk (k := 2) c11 dX11_size_38 (by decide) (by decide) rfl rfl ?_
          refine r_aload_n 109 hk dX11_size_108 rfl 0 rfl rfl ?_
          refine r_get 112 hk dX11_size_109 rfl ff_RX11_260 (mk_11_0 (nx_11 hN (j := 0) (by decide))) (gv_11_3 _ _ _) ?_
          obtain ⟨q12, eq12, lq12, h⟩ := ckp_e h
          refine r_pv1 eq12 ?_
          refine r_get 115 hk dX11_size_112 rfl ff_RX11_200 (mk_10_0 lq12) (gv_10_8 _ _ _) ?_
          refine r_if_eq 122 118 hk dX11_size_115 rfl rfl (fun c13 => ?_) (fun c13 => ?_)
          · have h := if_t c13 h
            refine r_iconst 123 hk dX11_size_122 rfl ci_0 ?_
            exact r_iret hk hR dX11_size_123 h
          · have h := if_f c13 h
            refine r_iconst 119 hk dX11_size_118 rfl ci_1 ?_
            refine r_goto 123 hk (x := 0) dX11_size_119 rfl ?_
            exact r_iret hk hR dX11_size_123 h
        have h := if_f c11 h
        by_cases c14 : (x1 : Int32) = 3
        · have h := if_t c14 h
          refine r_tabIn 124 hk (k := 3) c14 dX11_size_38 (by decide) (by decide) rfl rfl ?_
          refine r_aload_n 125 hk dX11_size_124 rfl 0 rfl rfl ?_
          refine r_get 128 hk dX11_size_125 rfl ff_RX11_260 (mk_11_0 (nx_11 hN (j := 0) (by decide))) (gv_11_3 _ _ _) ?_
          obtain ⟨q15, eq15, lq15, h⟩ := ckp_e h
          refine r_pv1 eq15 ?_
          refine r_get 131 hk dX11_size_128 rfl ff_RX11_155 (mk_10_0 lq15) (gv_10_2 _ _ _) ?_
          exact r_iret hk hR dX11_size_131 h
        have h := if_f c14 h
        by_cases c16 : (x1 : Int32) = 4
        · have h := if_t c16 h
          refine r_tabIn 132 hk (k := 4) c16 dX11_size_38 (by decide) (by decide) rfl rfl ?_
          refine r_aload_n 133 hk dX11_size_132 rfl 0 rfl rfl ?_
          refine r_get 136 hk dX11_size_133 rfl ff_RX11_260 (mk_11_0 (nx_11 hN (j := 0) (by decide))) (gv_11_3 _ _ _) ?_
          obtain ⟨q17, eq17, lq17, h⟩ := ckp_e h
          refine r_pv1 eq17 ?_
          refine r_get 139 hk dX11_size_136 rfl ff_RX11_209 (mk_10_0 lq17) (gv_10_3 _ _ _) ?_
          exact r_iret hk hR dX11_size_139 h
        have h := if_f c16 h
        by_cases c18 : (x1 : Int32) = 5
        · have h := if_t c18 h
          refine r_tabIn 140 hk (k := 5) c18 dX11_size_38 (by decide) (by decide) rfl rfl ?_
          refine r_aload_n 141 hk dX11_size_140 rfl 0 rfl rfl ?_
          refine r_get 144 hk dX11_size_141 rfl ff_RX11_260 (mk_11_0 (nx_11 hN (j := 0) (by decide))) (gv_11_3 _ _ _) ?_
          obtain ⟨q19, eq19, lq19, h⟩ := ckp_e h
          refine r_pv1 eq19 ?_
          refine r_get 147 hk dX11_size_144 rfl ff_RX11_224 (mk_10_0 lq19) (gv_10_5 _ _ _) ?_
          exact r_iret hk hR dX11_size_147 h
        have h := if_f c18 h
        by_cases c20 : (x1 : Int32) = 6
        · have h := if_t c20 h
          refine r_tabIn 148 hk (k := 6) c20 dX11_size_38 (by decide) (by decide) rfl rfl ?_
          refine r_aload_n 149 hk dX11_size_148 rfl 0 rfl rfl ?_
          refine r_get 152 hk dX11_size_149 rfl ff_RX11_260 (mk_11_0 (nx_11 hN (j := 0) (by decide))) (gv_11_3 _ _ _) ?_
          obtain ⟨q21, eq21, lq21, h⟩ := ckp_e h
          refine r_pv1 eq21 ?_
          refine r_get 155 hk dX11_size_152 rfl ff_RX11_233 (mk_10_0 lq21) (gv_10_6 _ _ _) ?_
          exact r_iret hk hR dX11_size_155 h
        have h := if_f c20 h
        by_cases c22 : (x1 : Int32) = 7
        · have h := if_t c22 h
          refine r_tabIn 156 hk (k := 7) c22 dX11_size_38 (by decide) (by decide) rfl rfl ?_
          refine r_aload_n 157 hk dX11_size_156 rfl 0 rfl rfl ?_
          refine r_get 160 hk dX11_size_157 rfl ff_RX11_260 (mk_11_0 (nx_11 hN (j := 0) (by decide))) (gv_11_3 _ _ _) ?_
          obtain ⟨q23, eq23, lq23, h⟩ := ckp_e h
          refine r_pv1 eq23 ?_
          refine r_get 163 hk dX11_size_160 rfl ff_RX11_245 (mk_10_0 lq23) (gv_10_7 _ _ _) ?_
          exact r_iret hk hR dX11_size_163 h
        have h := if_f c22 h
        by_cases c24 : (x1 : Int32) = 8
        · have h := if_t c24 h
          refine r_tabIn 164 hk (k := 8) c24 dX11_size_38 (by decide) (by decide) rfl rfl ?_
          refine r_aload_n 165 hk dX11_size_164 rfl 0 rfl rfl ?_
          refine r_get 168 hk dX11_size_165 rfl ff_RX11_17 (mk_11_0 (nx_11 hN (j := 0) (by decide))) (gv_11_15 _ _ _) ?_
          refine r_bipush 170 hk dX11_size_168 rfl cb_109 ?_
          obtain ⟨b25, h⟩ := ck_e h
          refine r_iald 171 hk dX11_size_170 rfl rfl (mk_11_16 (nx_11 hN (j := 0) (by decide))) rfl b25 ?_
          exact r_iret hk hR dX11_size_171 h
        have h := if_f c24 h
        by_cases c26 : (x1 : Int32) = 9
        · have h := if_t c26 h
          refine r_tabIn 172 hk (k := 9) c26 dX11_size_38 (by decide) (by decide) rfl rfl ?_
          refine r_aload_n 173 hk dX11_size_172 rfl 0 rfl rfl ?_
          refine r_get 176 hk dX11_size_173 rfl ff_RX11_268 (mk_11_0 (nx_11 hN (j := 0) (by decide))) (gv_11_19 _ _ _) ?_
          exact r_iret hk hR dX11_size_176 h
        have h := if_f c26 h
        have nc7 := lv_neT c7 (k := 0) (a := 0) rfl
        have nc9 := lv_neT c9 (k := 1) (a := 1) rfl
        have nc11 := lv_neT c11 (k := 2) (a := 2) rfl
        have nc14 := lv_neT c14 (k := 3) (a := 3) rfl
        have nc16 := lv_neT c16 (k := 4) (a := 4) rfl
        have nc18 := lv_neT c18 (k := 5) (a := 5) rfl
        have nc20 := lv_neT c20 (k := 6) (a := 6) rfl
        have nc22 := lv_neT c22 (k := 7) (a := 7) rfl
        have nc24 := lv_neT c24 (k := 8) (a := 8) rfl
        have nc26 := lv_neT c26 (k := 9) (a := 9) rfl
        refine r_tabOut 177 hk dX11_size_38 (by omega) rfl ?_
        refine r_aload_n 178 hk dX11_size_177 rfl 0 rfl rfl ?_
        refine r_get 181 hk dX11_size_178 rfl ff_RX11_271 (mk_11_0 (nx_11 hN (j := 0) (by decide))) (gv_11_20 _ _ _) ?_
        exact r_iret hk hR dX11_size_181 h
    · have h := if_t c5 h
      refine r_iconst 27 hk dX11_size_26 rfl ci_m1 ?_
      exact r_iret hk hR dX11_size_27 h
  · have h := if_t c2 h
    refine r_aload_n 12 hk dX11_size_11 rfl 0 rfl rfl ?_
    refine r_get 15 hk dX11_size_12 rfl ff_RX11_253 (mk_11_0 (nx_11 hN (j := 0) (by decide))) (gv_11_6 _ _ _) ?_
    exact r_iret hk hR dX11_size_15 h
def fX11_trouble (nd : Nat) (w : Wd) : Option (Int32 × Wd) :=
  lw (sI w 11 0 0 (0)) fun w1 =>
  some (((w1 11 0).1 1), w1)
set_option maxRecDepth 100000 in
set_option maxHeartbeats 4000000 in
theorem kX11_trouble {l : Launch} {G : Gx} {al : Al} {w : Wd} {r : Int32} {wz : Wd} (hN : NX G) (h : fX11_trouble (gN G 10) w = some (r, wz)) : MC l G yX11_trouble cX11_trouble 1 (some (.int)) 0 0 al w [.ref (al 11 0 0)] (some (.int r)) wz := by
  refine mc_of [(0, .ref (al 11 0 0))] (by decide) (Nat.le_of_ble_eq_true rfl) rfl ?_
  intro K hk hR hn hl hG
  subst hl; subst hG
  have hk : VH K RX11 cX11_trouble 0 0 := hk
  rw [fX11_trouble.eq_1] at h
  refine r_aload_n 1 hk dX11_trouble_0 rfl 0 rfl rfl ?_
  refine r_iconst 2 hk dX11_trouble_1 rfl ci_0 ?_
  obtain ⟨w1, ew1, h⟩ := lw_e h
  refine r_putI 5 w1 hk dX11_trouble_2 rfl ff_RX11_45 fi_11_0 (mk_11_0 (nx_11 hN (j := 0) (by decide))) ew1 ?_
  refine r_aload_n 6 hk dX11_trouble_5 rfl 0 rfl rfl ?_
  refine r_get 9 hk dX11_trouble_6 rfl ff_RX11_48 (mk_11_0 (nx_11 hN (j := 0) (by decide))) (gv_11_1 _ _ _) ?_
  exact r_iret hk hR dX11_trouble_9 h
