def fX11_bandsAsTold_31 (nd : Nat) : Nat → Wd → Int32 → Int32 → Option (Unit × Wd)
  | 0, _, _, _ => none
  | n + 1, w, x1, x2 =>
    if (((w 11 0).1 23) : Int32) ≤ x2 then
      some ((), w)
    else
      ck (inb (x2) 24) <|
      lw (sA w 11 0 21 (x2 : Int32).toNatClampNeg (x1)) fun w8 =>
      ckp ((w8 11 0).2.2.1 3) nd fun q9 =>
      ck (inb (x2) 6) <|
      ck (inb (x2) 24) <|
      lw (sA w8 11 0 22 (x2 : Int32).toNatClampNeg (((w8 10 q9).2.1 9 (x2 : Int32).toNatClampNeg))) fun w12 =>
      ck (inb (x2) 24) <|
      lw ((x1 + ((w12 11 0).2.1 22 (x2 : Int32).toNatClampNeg))) fun x1_14 =>
      lw (x2 + 1) fun x2_15 =>
      fX11_bandsAsTold_31 nd n w12 (x1_14) (x2_15)
def fX11_bandsAsTold (nd : Nat) (w : Wd) : Option (Unit × Wd) :=
  ckp ((w 11 0).2.2.1 3) nd fun q1 =>
  lw (sI w 11 0 23 (((w 10 q1).1 2))) fun w2 =>
  ckp ((w2 11 0).2.2.1 3) nd fun q3 =>
  lw (sI w2 11 0 24 (((w2 10 q3).1 1))) fun w4 =>
  lw (sI w4 11 0 25 (0)) fun w5 =>
  fX11_bandsAsTold_31 nd fuel0 w5 (0) (0)
set_option maxRecDepth 100000 in
set_option maxHeartbeats 4000000 in
theorem sX11_bandsAsTold_31 {K : VC} {al : Al} {r : Unit} {wz : Wd}  (hk : VH K RX11 cX11_bandsAsTold 0 0) (hR : VR K al none none wz) (hn : kn K = 3) (hN : NX (kG K)) : ∀ (n : Nat) (w : Wd) (x1 : Int32) (x2 : Int32), fX11_bandsAsTold_31 (gN (kG K) 10) n w x1 x2 = some (r, wz) → V K al w 31 [(0, .ref (al 11 0 0)), (1, .int x1), (2, .int x2)] [] := by
  intro n
  induction n with
  | zero => intro w x1 x2 h; cases h
  | succ n ih =>
    intro w x1 x2 h
    rw [fX11_bandsAsTold_31.eq_2] at h
    refine r_iload_n 32 hk dX11_bandsAsTold_31 rfl 2 rfl rfl ?_
    refine r_aload_n 33 hk dX11_bandsAsTold_32 rfl 0 rfl rfl ?_
    refine r_get 36 hk dX11_bandsAsTold_33 rfl ff_RX11_274 (mk_11_0 (nx_11 hN (j := 0) (by decide))) (gv_11_23 _ _ _) ?_
    refine r_icmp_ge 76 39 hk dX11_bandsAsTold_36 rfl rfl (fun c6 => ?_) (fun c6 => ?_)
    · have h := if_t c6 h
      exact r_vret hk hR dX11_bandsAsTold_76 h
    · have h := if_f c6 h
      refine r_aload_n 40 hk dX11_bandsAsTold_39 rfl 0 rfl rfl ?_
      refine r_get 43 hk dX11_bandsAsTold_40 rfl ff_RX11_30 (mk_11_0 (nx_11 hN (j := 0) (by decide))) (gv_11_21 _ _ _) ?_
      refine r_iload_n 44 hk dX11_bandsAsTold_43 rfl 2 rfl rfl ?_
      refine r_iload_n 45 hk dX11_bandsAsTold_44 rfl 1 rfl rfl ?_
      obtain ⟨b7, h⟩ := ck_e h
      obtain ⟨w8, ew8, h⟩ := lw_e h
      refine r_iast 46 w8 hk dX11_bandsAsTold_45 rfl rfl (mk_11_22 (nx_11 hN (j := 0) (by decide))) rfl b7 ew8 ?_
      refine r_aload_n 47 hk dX11_bandsAsTold_46 rfl 0 rfl rfl ?_
      refine r_get 50 hk dX11_bandsAsTold_47 rfl ff_RX11_33 (mk_11_0 (nx_11 hN (j := 0) (by decide))) (gv_11_22 _ _ _) ?_
      refine r_iload_n 51 hk dX11_bandsAsTold_50 rfl 2 rfl rfl ?_
      refine r_aload_n 52 hk dX11_bandsAsTold_51 rfl 0 rfl rfl ?_
      refine r_get 55 hk dX11_bandsAsTold_52 rfl ff_RX11_260 (mk_11_0 (nx_11 hN (j := 0) (by decide))) (gv_11_3 _ _ _) ?_
      obtain ⟨q9, eq9, lq9, h⟩ := ckp_e h
      refine r_pv1 eq9 ?_
      refine r_get 58 hk dX11_bandsAsTold_55 rfl ff_RX11_207 (mk_10_0 lq9) (gv_10_9 _ _ _) ?_
      refine r_iload_n 59 hk dX11_bandsAsTold_58 rfl 2 rfl rfl ?_
      obtain ⟨b10, h⟩ := ck_e h
      refine r_iald 60 hk dX11_bandsAsTold_59 rfl rfl (mk_10_10 lq9) rfl b10 ?_
      obtain ⟨b11, h⟩ := ck_e h
      obtain ⟨w12, ew12, h⟩ := lw_e h
      refine r_iast 61 w12 hk dX11_bandsAsTold_60 rfl rfl (mk_11_23 (nx_11 hN (j := 0) (by decide))) rfl b11 ew12 ?_
      refine r_iload_n 62 hk dX11_bandsAsTold_61 rfl 1 rfl rfl ?_
      refine r_aload_n 63 hk dX11_bandsAsTold_62 rfl 0 rfl rfl ?_
      refine r_get 66 hk dX11_bandsAsTold_63 rfl ff_RX11_33 (mk_11_0 (nx_11 hN (j := 0) (by decide))) (gv_11_22 _ _ _) ?_
      refine r_iload_n 67 hk dX11_bandsAsTold_66 rfl 2 rfl rfl ?_
      obtain ⟨b13, h⟩ := ck_e h
      refine r_iald 68 hk dX11_bandsAsTold_67 rfl rfl (mk_11_23 (nx_11 hN (j := 0) (by decide))) rfl b13 ?_
      refine r_iadd 69 hk dX11_bandsAsTold_68 rfl ?_
      obtain ⟨x1_14, ex1_14, h⟩ := lw_e h
      refine r_istore_n 70 [(1, .int x1_14), (0, .ref (al 11 0 0)), (2, .int x2)] hk dX11_bandsAsTold_69 rfl rfl hn (by decide) ex1_14 rfl ?_
      obtain ⟨x2_15, ex2_15, h⟩ := lw_e h
      refine r_iinc 73 [(2, .int x2_15), (1, .int x1_14), (0, .ref (al 11 0 0))] hk (j := 2) dX11_bandsAsTold_70 rfl hn (by decide) rfl ex2_15 rfl ?_
      refine r_goto 31 hk (x := 0) dX11_bandsAsTold_73 rfl ?_
      refine r_sub [2, 1, 0] rfl ?_
      exact ih _ _ _ h
set_option maxRecDepth 100000 in
set_option maxHeartbeats 4000000 in
theorem kX11_bandsAsTold {l : Launch} {G : Gx} {al : Al} {w : Wd} {r : Unit} {wz : Wd} (hN : NX G) (h : fX11_bandsAsTold (gN G 10) w = some (r, wz)) : MC l G yX11_bandsAsTold cX11_bandsAsTold 3 none 0 0 al w [.ref (al 11 0 0)] none wz := by
  refine mc_of [(0, .ref (al 11 0 0))] (by decide) (Nat.le_of_ble_eq_true rfl) rfl ?_
  intro K hk hR hn hl hG
  subst hl; subst hG
  have hk : VH K RX11 cX11_bandsAsTold 0 0 := hk
  rw [fX11_bandsAsTold.eq_1] at h
  refine r_aload_n 1 hk dX11_bandsAsTold_0 rfl 0 rfl rfl ?_
  refine r_aload_n 2 hk dX11_bandsAsTold_1 rfl 0 rfl rfl ?_
  refine r_get 5 hk dX11_bandsAsTold_2 rfl ff_RX11_260 (mk_11_0 (nx_11 hN (j := 0) (by decide))) (gv_11_3 _ _ _) ?_
  obtain ⟨q1, eq1, lq1, h⟩ := ckp_e h
  refine r_pv1 eq1 ?_
  refine r_get 8 hk dX11_bandsAsTold_5 rfl ff_RX11_155 (mk_10_0 lq1) (gv_10_2 _ _ _) ?_
  obtain ⟨w2, ew2, h⟩ := lw_e h
  refine r_putI 11 w2 hk dX11_bandsAsTold_8 rfl ff_RX11_274 fi_11_23 (mk_11_0 (nx_11 hN (j := 0) (by decide))) ew2 ?_
  refine r_aload_n 12 hk dX11_bandsAsTold_11 rfl 0 rfl rfl ?_
  refine r_aload_n 13 hk dX11_bandsAsTold_12 rfl 0 rfl rfl ?_
  refine r_get 16 hk dX11_bandsAsTold_13 rfl ff_RX11_260 (mk_11_0 (nx_11 hN (j := 0) (by decide))) (gv_11_3 _ _ _) ?_
  obtain ⟨q3, eq3, lq3, h⟩ := ckp_e h
  refine r_pv1 eq3 ?_
  refine r_get 19 hk dX11_bandsAsTold_16 rfl ff_RX11_198 (mk_10_0 lq3) (gv_10_1 _ _ _) ?_
  obtain ⟨w4, ew4, h⟩ := lw_e h
  refine r_putI 22 w4 hk dX11_bandsAsTold_19 rfl ff_RX11_275 fi_11_24 (mk_11_0 (nx_11 hN (j := 0) (by decide))) ew4 ?_
  refine r_aload_n 23 hk dX11_bandsAsTold_22 rfl 0 rfl rfl ?_
  refine r_iconst 24 hk dX11_bandsAsTold_23 rfl ci_0 ?_
  obtain ⟨w5, ew5, h⟩ := lw_e h
  refine r_putI 27 w5 hk dX11_bandsAsTold_24 rfl ff_RX11_278 fi_11_25 (mk_11_0 (nx_11 hN (j := 0) (by decide))) ew5 ?_
  refine r_iconst 28 hk dX11_bandsAsTold_27 rfl ci_0 ?_
  refine r_istore_n 29 [(1, .int 0), (0, .ref (al 11 0 0))] hk dX11_bandsAsTold_28 rfl rfl hn (by decide) rfl rfl ?_
  refine r_iconst 30 hk dX11_bandsAsTold_29 rfl ci_0 ?_
  refine r_istore_n 31 [(2, .int 0), (1, .int 0), (0, .ref (al 11 0 0))] hk dX11_bandsAsTold_30 rfl rfl hn (by decide) rfl rfl ?_
  refine r_sub [2, 1, 0] rfl ?_
  exact sX11_bandsAsTold_31 hk hR hn hN _ _ _ _ h
def fX11_asTold_2 (nd : Nat) : Nat → Wd → Int32 → Option (Unit × Wd)
  | 0, _, _ => none
  | n + 1, w, x1 =>
    if (110 : Int32) ≤ x1 then
      ob (fX11_bandsAsTold nd w ) fun _ w3 =>
      some ((), w3)
    else
      ckp ((w 11 0).2.2.1 3) nd fun q4 =>
      if (((w 10 q4).1 3) : Int32) ≤ x1 then
        ck (inb (x1) 110) <|
        lw (sA w 11 0 16 (x1 : Int32).toNatClampNeg (0)) fun w7 =>
        lw (x1 + 1) fun x1_8 =>
        fX11_asTold_2 nd n w7 (x1_8)
      else
        ckp ((w 11 0).2.2.1 3) nd fun q9 =>
        ck (inb (x1) 48) <|
        ck (inb (x1) 110) <|
        lw (sA w 11 0 16 (x1 : Int32).toNatClampNeg (((w 10 q9).2.1 10 (x1 : Int32).toNatClampNeg))) fun w12 =>
        lw (x1 + 1) fun x1_13 =>
        fX11_asTold_2 nd n w12 (x1_13)
def fX11_asTold (nd : Nat) (w : Wd) : Option (Unit × Wd) :=
  fX11_asTold_2 nd fuel0 w (0)
set_option maxRecDepth 100000 in
set_option maxHeartbeats 4000000 in
theorem sX11_asTold_2 {K : VC} {al : Al} {r : Unit} {wz : Wd}  (hk : VH K RX11 cX11_asTold 1 22) (hR : VR K al none none wz) (hn : kn K = 2) (hN : NX (kG K)) : ∀ (n : Nat) (w : Wd) (x1 : Int32), fX11_asTold_2 (gN (kG K) 10) n w x1 = some (r, wz) → V K al w 2 [(0, .ref (al 11 0 0)), (1, .int x1)] [] := by
  intro n
  induction n with
  | zero => intro w x1 h; cases h
  | succ n ih =>
    intro w x1 h
    rw [fX11_asTold_2.eq_2] at h
    refine r_iload_n 3 hk dX11_asTold_2 rfl 1 rfl rfl ?_
    refine r_bipush 5 hk dX11_asTold_3 rfl cb_110 ?_
    refine r_icmp_ge 44 8 hk dX11_asTold_5 rfl rfl (fun c1 => ?_) (fun c1 => ?_)
    · have h := if_t c1 h
      refine r_aload_n 45 hk dX11_asTold_44 rfl 0 rfl rfl ?_
      obtain ⟨r2, w3, ew3, h⟩ := ob_e h
      refine r_cVv 48 (As := []) (rest := []) hk (kX11_bandsAsTold hN ew3) cf_RX11_281 mi_X11_bandsAsTold ⟨TX11, 36, rfl⟩ dX11_asTold_45 rfl (Nat.le_of_ble_eq_true rfl) (Nat.le_of_ble_eq_true rfl) (mk_11_0 (nx_11 hN (j := 0) (by decide))) rfl rfl (Nat.le_of_ble_eq_true rfl) ?_
      exact r_vret hk hR dX11_asTold_48 h
    · have h := if_f c1 h
      refine r_aload_n 9 hk dX11_asTold_8 rfl 0 rfl rfl ?_
      refine r_get 12 hk dX11_asTold_9 rfl ff_RX11_21 (mk_11_0 (nx_11 hN (j := 0) (by decide))) (gv_11_16 _ _ _) ?_
      refine r_iload_n 13 hk dX11_asTold_12 rfl 1 rfl rfl ?_
      refine r_iload_n 14 hk dX11_asTold_13 rfl 1 rfl rfl ?_
      refine r_aload_n 15 hk dX11_asTold_14 rfl 0 rfl rfl ?_
      refine r_get 18 hk dX11_asTold_15 rfl ff_RX11_260 (mk_11_0 (nx_11 hN (j := 0) (by decide))) (gv_11_3 _ _ _) ?_
      obtain ⟨q4, eq4, lq4, h⟩ := ckp_e h
      refine r_pv1 eq4 ?_
      refine r_get 21 hk dX11_asTold_18 rfl ff_RX11_209 (mk_10_0 lq4) (gv_10_3 _ _ _) ?_
      refine r_icmp_ge 36 24 hk dX11_asTold_21 rfl rfl (fun c5 => ?_) (fun c5 => ?_)
      · have h := if_t c5 h
        refine r_iconst 37 hk dX11_asTold_36 rfl ci_0 ?_
        obtain ⟨b6, h⟩ := ck_e h
        obtain ⟨w7, ew7, h⟩ := lw_e h
        refine r_iast 38 w7 hk dX11_asTold_37 rfl rfl (mk_11_17 (nx_11 hN (j := 0) (by decide))) rfl b6 ew7 ?_
        obtain ⟨x1_8, ex1_8, h⟩ := lw_e h
        refine r_iinc 41 [(1, .int x1_8), (0, .ref (al 11 0 0))] hk (j := 1) dX11_asTold_38 rfl hn (by decide) rfl ex1_8 rfl ?_
        refine r_goto 2 hk (x := 0) dX11_asTold_41 rfl ?_
        refine r_sub [1, 0] rfl ?_
        exact ih _ _ h
      · have h := if_f c5 h
        refine r_aload_n 25 hk dX11_asTold_24 rfl 0 rfl rfl ?_
        refine r_get 28 hk dX11_asTold_25 rfl ff_RX11_260 (mk_11_0 (nx_11 hN (j := 0) (by decide))) (gv_11_3 _ _ _) ?_
        obtain ⟨q9, eq9, lq9, h⟩ := ckp_e h
        refine r_pv1 eq9 ?_
        refine r_get 31 hk dX11_asTold_28 rfl ff_RX11_221 (mk_10_0 lq9) (gv_10_10 _ _ _) ?_
        refine r_iload_n 32 hk dX11_asTold_31 rfl 1 rfl rfl ?_
        obtain ⟨b10, h⟩ := ck_e h
        refine r_iald 33 hk dX11_asTold_32 rfl rfl (mk_10_11 lq9) rfl b10 ?_
        refine r_goto 37 hk (x := 0) dX11_asTold_33 rfl ?_
        obtain ⟨b11, h⟩ := ck_e h
        obtain ⟨w12, ew12, h⟩ := lw_e h
        refine r_iast 38 w12 hk dX11_asTold_37 rfl rfl (mk_11_17 (nx_11 hN (j := 0) (by decide))) rfl b11 ew12 ?_
        obtain ⟨x1_13, ex1_13, h⟩ := lw_e h
        refine r_iinc 41 [(1, .int x1_13), (0, .ref (al 11 0 0))] hk (j := 1) dX11_asTold_38 rfl hn (by decide) rfl ex1_13 rfl ?_
        refine r_goto 2 hk (x := 0) dX11_asTold_41 rfl ?_
        refine r_sub [1, 0] rfl ?_
        exact ih _ _ h
set_option maxRecDepth 100000 in
set_option maxHeartbeats 4000000 in
theorem kX11_asTold {l : Launch} {G : Gx} {al : Al} {w : Wd} {r : Unit} {wz : Wd} (hN : NX G) (h : fX11_asTold (gN G 10) w = some (r, wz)) : MC l G yX11_asTold cX11_asTold 2 none 1 22 al w [.ref (al 11 0 0)] none wz := by
  refine mc_of [(0, .ref (al 11 0 0))] (by decide) (Nat.le_of_ble_eq_true rfl) rfl ?_
  intro K hk hR hn hl hG
  subst hl; subst hG
  have hk : VH K RX11 cX11_asTold 1 22 := hk
  rw [fX11_asTold.eq_1] at h
  refine r_iconst 1 hk dX11_asTold_0 rfl ci_0 ?_
  refine r_istore_n 2 [(1, .int 0), (0, .ref (al 11 0 0))] hk dX11_asTold_1 rfl rfl hn (by decide) rfl rfl ?_
  refine r_sub [1, 0] rfl ?_
  exact sX11_asTold_2 hk hR hn hN _ _ _ h
def fX11_remains_2 (nd : Nat) : Nat → Wd → Int32 → Option (Unit × Wd)
  | 0, _, _ => none
  | n + 1, w, x1 =>
    if (110 : Int32) ≤ x1 then
      some ((), w)
    else
      ck (inb (x1) 110) <|
      ck (inb (x1) 110) <|
      lw (sA w 11 0 15 (x1 : Int32).toNatClampNeg (((w 11 0).2.1 16 (x1 : Int32).toNatClampNeg))) fun w4 =>
      lw (x1 + 1) fun x1_5 =>
      fX11_remains_2 nd n w4 (x1_5)
def fX11_remains (nd : Nat) (w : Wd) : Option (Unit × Wd) :=
  fX11_remains_2 nd fuel0 w (0)
set_option maxRecDepth 100000 in
set_option maxHeartbeats 4000000 in
theorem sX11_remains_2 {K : VC} {al : Al} {r : Unit} {wz : Wd}  (hk : VH K RX11 cX11_remains 0 0) (hR : VR K al none none wz) (hn : kn K = 2) (hN : NX (kG K)) : ∀ (n : Nat) (w : Wd) (x1 : Int32), fX11_remains_2 (gN (kG K) 10) n w x1 = some (r, wz) → V K al w 2 [(0, .ref (al 11 0 0)), (1, .int x1)] [] := by
  intro n
  induction n with
  | zero => intro w x1 h; cases h
  | succ n ih =>
    intro w x1 h
    rw [fX11_remains_2.eq_2] at h
    refine r_iload_n 3 hk dX11_remains_2 rfl 1 rfl rfl ?_
    refine r_bipush 5 hk dX11_remains_3 rfl cb_110 ?_
    refine r_icmp_ge 26 8 hk dX11_remains_5 rfl rfl (fun c1 => ?_) (fun c1 => ?_)
    · have h := if_t c1 h
      exact r_vret hk hR dX11_remains_26 h
    · have h := if_f c1 h
      refine r_aload_n 9 hk dX11_remains_8 rfl 0 rfl rfl ?_
      refine r_get 12 hk dX11_remains_9 rfl ff_RX11_17 (mk_11_0 (nx_11 hN (j := 0) (by decide))) (gv_11_15 _ _ _) ?_
      refine r_iload_n 13 hk dX11_remains_12 rfl 1 rfl rfl ?_
      refine r_aload_n 14 hk dX11_remains_13 rfl 0 rfl rfl ?_
      refine r_get 17 hk dX11_remains_14 rfl ff_RX11_21 (mk_11_0 (nx_11 hN (j := 0) (by decide))) (gv_11_16 _ _ _) ?_
      refine r_iload_n 18 hk dX11_remains_17 rfl 1 rfl rfl ?_
      obtain ⟨b2, h⟩ := ck_e h
      refine r_iald 19 hk dX11_remains_18 rfl rfl (mk_11_17 (nx_11 hN (j := 0) (by decide))) rfl b2 ?_
      obtain ⟨b3, h⟩ := ck_e h
      obtain ⟨w4, ew4, h⟩ := lw_e h
      refine r_iast 20 w4 hk dX11_remains_19 rfl rfl (mk_11_16 (nx_11 hN (j := 0) (by decide))) rfl b3 ew4 ?_
      obtain ⟨x1_5, ex1_5, h⟩ := lw_e h
      refine r_iinc 23 [(1, .int x1_5), (0, .ref (al 11 0 0))] hk (j := 1) dX11_remains_20 rfl hn (by decide) rfl ex1_5 rfl ?_
      refine r_goto 2 hk (x := 0) dX11_remains_23 rfl ?_
      refine r_sub [1, 0] rfl ?_
      exact ih _ _ h
set_option maxRecDepth 100000 in
set_option maxHeartbeats 4000000 in
theorem kX11_remains {l : Launch} {G : Gx} {al : Al} {w : Wd} {r : Unit} {wz : Wd} (hN : NX G) (h : fX11_remains (gN G 10) w = some (r, wz)) : MC l G yX11_remains cX11_remains 2 none 0 0 al w [.ref (al 11 0 0)] none wz := by
  refine mc_of [(0, .ref (al 11 0 0))] (by decide) (Nat.le_of_ble_eq_true rfl) rfl ?_
  intro K hk hR hn hl hG
  subst hl; subst hG
  have hk : VH K RX11 cX11_remains 0 0 := hk
  rw [fX11_remains.eq_1] at h
  refine r_iconst 1 hk dX11_remains_0 rfl ci_0 ?_
  refine r_istore_n 2 [(1, .int 0), (0, .ref (al 11 0 0))] hk dX11_remains_1 rfl rfl hn (by decide) rfl rfl ?_
  refine r_sub [1, 0] rfl ?_
  exact sX11_remains_2 hk hR hn hN _ _ _ h
def fX11_fault (nd : Nat) (w : Wd) : Option (Int32 × Wd) :=
  lw (sI w 11 0 0 (0)) fun w1 =>
  some (((w1 11 0).1 12), w1)
set_option maxRecDepth 100000 in
set_option maxHeartbeats 4000000 in
theorem kX11_fault {l : Launch} {G : Gx} {al : Al} {w : Wd} {r : Int32} {wz : Wd} (hN : NX G) (h : fX11_fault (gN G 10) w = some (r, wz)) : MC l G yX11_fault cX11_fault 1 (some (.int)) 0 0 al w [.ref (al 11 0 0)] (some (.int r)) wz := by
  refine mc_of [(0, .ref (al 11 0 0))] (by decide) (Nat.le_of_ble_eq_true rfl) rfl ?_
  intro K hk hR hn hl hG
  subst hl; subst hG
  have hk : VH K RX11 cX11_fault 0 0 := hk
  rw [fX11_fault.eq_1] at h
  refine r_aload_n 1 hk dX11_fault_0 rfl 0 rfl rfl ?_
  refine r_iconst 2 hk dX11_fault_1 rfl ci_0 ?_
  obtain ⟨w1, ew1, h⟩ := lw_e h
  refine r_putI 5 w1 hk dX11_fault_2 rfl ff_RX11_45 fi_11_0 (mk_11_0 (nx_11 hN (j := 0) (by decide))) ew1 ?_
  refine r_aload_n 6 hk dX11_fault_5 rfl 0 rfl rfl ?_
  refine r_get 9 hk dX11_fault_6 rfl ff_RX11_103 (mk_11_0 (nx_11 hN (j := 0) (by decide))) (gv_11_12 _ _ _) ?_
  exact r_iret hk hR dX11_fault_9 h
def fX11_where (nd : Nat) (w : Wd) : Option (Int32 × Wd) :=
  lw (sI w 11 0 0 (0)) fun w1 =>
  some (((w1 11 0).1 2), w1)
set_option maxRecDepth 100000 in
set_option maxHeartbeats 4000000 in
theorem kX11_where {l : Launch} {G : Gx} {al : Al} {w : Wd} {r : Int32} {wz : Wd} (hN : NX G) (h : fX11_where (gN G 10) w = some (r, wz)) : MC l G yX11_where cX11_where 1 (some (.int)) 0 0 al w [.ref (al 11 0 0)] (some (.int r)) wz := by
  refine mc_of [(0, .ref (al 11 0 0))] (by decide) (Nat.le_of_ble_eq_true rfl) rfl ?_
  intro K hk hR hn hl hG
  subst hl; subst hG
  have hk : VH K RX11 cX11_where 0 0 := hk
  rw [fX11_where.eq_1] at h
  refine r_aload_n 1 hk dX11_where_0 rfl 0 rfl rfl ?_
  refine r_iconst 2 hk dX11_where_1 rfl ci_0 ?_
  obtain ⟨w1, ew1, h⟩ := lw_e h
  refine r_putI 5 w1 hk dX11_where_2 rfl ff_RX11_45 fi_11_0 (mk_11_0 (nx_11 hN (j := 0) (by decide))) ew1 ?_
  refine r_aload_n 6 hk dX11_where_5 rfl 0 rfl rfl ?_
  refine r_get 9 hk dX11_where_6 rfl ff_RX11_9 (mk_11_0 (nx_11 hN (j := 0) (by decide))) (gv_11_2 _ _ _) ?_
  exact r_iret hk hR dX11_where_9 h
def fX11_bandsBySize_62 (k7 : Wd → Int32 → Int32 → Option (Unit × Wd)) (nd : Nat) (w : Wd) (x1 : Int32) (x2 : Int32) (t1 : Int32) (t2 : Int32) : Option (Unit × Wd) :=
    ck (inb (t1) 24) <|
    lw (sA w 11 0 22 (t1 : Int32).toNatClampNeg (t2)) fun w10 =>
    lw (sI w10 11 0 23 ((((w10 11 0).1 23) + 1))) fun w11 =>
    lw ((x2 + x1)) fun x2_12 =>
    k7 w11 (x1) (x2_12)
def fX11_bandsBySize_7 (nd : Nat) : Nat → Wd → Int32 → Int32 → Option (Unit × Wd)
  | 0, _, _, _ => none
  | n + 1, w, x1, x2 =>
    ckp ((w 11 0).2.2.1 3) nd fun q2 =>
    if (((w 10 q2).1 3) : Int32) ≤ x2 then
      some ((), w)
    else
      ck (inb (((w 11 0).1 23)) 24) <|
      lw (sA w 11 0 21 (((w 11 0).1 23) : Int32).toNatClampNeg (x2)) fun w5 =>
      ckp ((w5 11 0).2.2.1 3) nd fun q6 =>
      if (((w5 10 q6).1 3) : Int32) ≤ (x2 + x1) then
        ckp ((w5 11 0).2.2.1 3) nd fun q8 =>
        fX11_bandsBySize_62 (fX11_bandsBySize_7 nd n) nd w5 (x1) (x2) (((w5 11 0).1 23)) ((((w5 10 q8).1 3) - x2))
      else
        fX11_bandsBySize_62 (fX11_bandsBySize_7 nd n) nd w5 (x1) (x2) (((w5 11 0).1 23)) (x1)
def fX11_bandsBySize (nd : Nat) (w : Wd) (x1 : Int32) : Option (Unit × Wd) :=
  lw (sI w 11 0 23 (0)) fun w1 =>
  fX11_bandsBySize_7 nd fuel0 w1 (x1) (0)
set_option maxRecDepth 100000 in
set_option maxHeartbeats 4000000 in
theorem sX11_bandsBySize_62 {K : VC} {al : Al} {r : Unit} {wz : Wd} {k7 : Wd → Int32 → Int32 → Option (Unit × Wd)} (hc7 : ∀ (w : Wd) (x1 : Int32) (x2 : Int32), k7 w x1 x2 = some (r, wz) → V K al w 7 [(0, .ref (al 11 0 0)), (1, .int x1), (2, .int x2)] []) (hk : VH K RX11 cX11_bandsBySize 0 0) (hR : VR K al none none wz) (hn : kn K = 3) (hN : NX (kG K)) (w : Wd) (x1 : Int32) (x2 : Int32) (t1 : Int32) (t2 : Int32) (h : fX11_bandsBySize_62 k7 (gN (kG K) 10) w x1 x2 t1 t2 = some (r, wz)) : V K al w 62 [(0, .ref (al 11 0 0)), (1, .int x1), (2, .int x2)] [.int t2, .int t1, .ref (al 11 0 23)] := by
  rw [fX11_bandsBySize_62.eq_1] at h
  obtain ⟨b9, h⟩ := ck_e h
  obtain ⟨w10, ew10, h⟩ := lw_e h
  refine r_iast 63 w10 hk dX11_bandsBySize_62 rfl rfl (mk_11_23 (nx_11 hN (j := 0) (by decide))) rfl b9 ew10 ?_
  refine r_aload_n 64 hk dX11_bandsBySize_63 rfl 0 rfl rfl ?_
  refine r_dup 65 hk dX11_bandsBySize_64 rfl rfl ?_
  refine r_get 68 hk dX11_bandsBySize_65 rfl ff_RX11_274 (mk_11_0 (nx_11 hN (j := 0) (by decide))) (gv_11_23 _ _ _) ?_
  refine r_iconst 69 hk dX11_bandsBySize_68 rfl ci_1 ?_
  refine r_iadd 70 hk dX11_bandsBySize_69 rfl ?_
  obtain ⟨w11, ew11, h⟩ := lw_e h
  refine r_putI 73 w11 hk dX11_bandsBySize_70 rfl ff_RX11_274 fi_11_23 (mk_11_0 (nx_11 hN (j := 0) (by decide))) ew11 ?_
  refine r_iload_n 74 hk dX11_bandsBySize_73 rfl 2 rfl rfl ?_
  refine r_iload_n 75 hk dX11_bandsBySize_74 rfl 1 rfl rfl ?_
  refine r_iadd 76 hk dX11_bandsBySize_75 rfl ?_
  obtain ⟨x2_12, ex2_12, h⟩ := lw_e h
  refine r_istore_n 77 [(2, .int x2_12), (0, .ref (al 11 0 0)), (1, .int x1)] hk dX11_bandsBySize_76 rfl rfl hn (by decide) ex2_12 rfl ?_
  refine r_goto 7 hk (x := 0) dX11_bandsBySize_77 rfl ?_
  refine r_sub [1, 2, 0] rfl ?_
  exact hc7 _ _ _ h
set_option maxRecDepth 100000 in
set_option maxHeartbeats 4000000 in
theorem sX11_bandsBySize_7 {K : VC} {al : Al} {r : Unit} {wz : Wd}  (hk : VH K RX11 cX11_bandsBySize 0 0) (hR : VR K al none none wz) (hn : kn K = 3) (hN : NX (kG K)) : ∀ (n : Nat) (w : Wd) (x1 : Int32) (x2 : Int32), fX11_bandsBySize_7 (gN (kG K) 10) n w x1 x2 = some (r, wz) → V K al w 7 [(0, .ref (al 11 0 0)), (1, .int x1), (2, .int x2)] [] := by
  intro n
  induction n with
  | zero => intro w x1 x2 h; cases h
  | succ n ih =>
    intro w x1 x2 h
    rw [fX11_bandsBySize_7.eq_2] at h
    refine r_iload_n 8 hk dX11_bandsBySize_7 rfl 2 rfl rfl ?_
    refine r_aload_n 9 hk dX11_bandsBySize_8 rfl 0 rfl rfl ?_
    refine r_get 12 hk dX11_bandsBySize_9 rfl ff_RX11_260 (mk_11_0 (nx_11 hN (j := 0) (by decide))) (gv_11_3 _ _ _) ?_
    obtain ⟨q2, eq2, lq2, h⟩ := ckp_e h
    refine r_pv1 eq2 ?_
    refine r_get 15 hk dX11_bandsBySize_12 rfl ff_RX11_209 (mk_10_0 lq2) (gv_10_3 _ _ _) ?_
    refine r_icmp_ge 80 18 hk dX11_bandsBySize_15 rfl rfl (fun c3 => ?_) (fun c3 => ?_)
    · have h := if_t c3 h
      exact r_vret hk hR dX11_bandsBySize_80 h
    · have h := if_f c3 h
      refine r_aload_n 19 hk dX11_bandsBySize_18 rfl 0 rfl rfl ?_
      refine r_get 22 hk dX11_bandsBySize_19 rfl ff_RX11_30 (mk_11_0 (nx_11 hN (j := 0) (by decide))) (gv_11_21 _ _ _) ?_
      refine r_aload_n 23 hk dX11_bandsBySize_22 rfl 0 rfl rfl ?_
      refine r_get 26 hk dX11_bandsBySize_23 rfl ff_RX11_274 (mk_11_0 (nx_11 hN (j := 0) (by decide))) (gv_11_23 _ _ _) ?_
      refine r_iload_n 27 hk dX11_bandsBySize_26 rfl 2 rfl rfl ?_
      obtain ⟨b4, h⟩ := ck_e h
      obtain ⟨w5, ew5, h⟩ := lw_e h
      refine r_iast 28 w5 hk dX11_bandsBySize_27 rfl rfl (mk_11_22 (nx_11 hN (j := 0) (by decide))) rfl b4 ew5 ?_
      refine r_aload_n 29 hk dX11_bandsBySize_28 rfl 0 rfl rfl ?_
      refine r_get 32 hk dX11_bandsBySize_29 rfl ff_RX11_33 (mk_11_0 (nx_11 hN (j := 0) (by decide))) (gv_11_22 _ _ _) ?_
      refine r_aload_n 33 hk dX11_bandsBySize_32 rfl 0 rfl rfl ?_
      refine r_get 36 hk dX11_bandsBySize_33 rfl ff_RX11_274 (mk_11_0 (nx_11 hN (j := 0) (by decide))) (gv_11_23 _ _ _) ?_
      refine r_iload_n 37 hk dX11_bandsBySize_36 rfl 2 rfl rfl ?_
      refine r_iload_n 38 hk dX11_bandsBySize_37 rfl 1 rfl rfl ?_
      refine r_iadd 39 hk dX11_bandsBySize_38 rfl ?_
      refine r_aload_n 40 hk dX11_bandsBySize_39 rfl 0 rfl rfl ?_
      refine r_get 43 hk dX11_bandsBySize_40 rfl ff_RX11_260 (mk_11_0 (nx_11 hN (j := 0) (by decide))) (gv_11_3 _ _ _) ?_
      obtain ⟨q6, eq6, lq6, h⟩ := ckp_e h
      refine r_pv1 eq6 ?_
      refine r_get 46 hk dX11_bandsBySize_43 rfl ff_RX11_209 (mk_10_0 lq6) (gv_10_3 _ _ _) ?_
      refine r_icmp_ge 53 49 hk dX11_bandsBySize_46 rfl rfl (fun c7 => ?_) (fun c7 => ?_)
      · have h := if_t c7 h
        refine r_aload_n 54 hk dX11_bandsBySize_53 rfl 0 rfl rfl ?_
        refine r_get 57 hk dX11_bandsBySize_54 rfl ff_RX11_260 (mk_11_0 (nx_11 hN (j := 0) (by decide))) (gv_11_3 _ _ _) ?_
        obtain ⟨q8, eq8, lq8, h⟩ := ckp_e h
        refine r_pv1 eq8 ?_
        refine r_get 60 hk dX11_bandsBySize_57 rfl ff_RX11_209 (mk_10_0 lq8) (gv_10_3 _ _ _) ?_
        refine r_iload_n 61 hk dX11_bandsBySize_60 rfl 2 rfl rfl ?_
        refine r_isub 62 hk dX11_bandsBySize_61 rfl ?_
        exact sX11_bandsBySize_62 (fun _ _ _ h => ih _ _ _ h) hk hR hn hN _ _ _ _ _ h
      · have h := if_f c7 h
        refine r_iload_n 50 hk dX11_bandsBySize_49 rfl 1 rfl rfl ?_
        refine r_goto 62 hk (x := 0) dX11_bandsBySize_50 rfl ?_
        exact sX11_bandsBySize_62 (fun _ _ _ h => ih _ _ _ h) hk hR hn hN _ _ _ _ _ h
set_option maxRecDepth 100000 in
set_option maxHeartbeats 4000000 in
theorem kX11_bandsBySize {l : Launch} {G : Gx} {al : Al} {w : Wd} {x1 : Int32} {r : Unit} {wz : Wd} (hN : NX G) (h : fX11_bandsBySize (gN G 10) w x1 = some (r, wz)) : MC l G yX11_bandsBySize cX11_bandsBySize 3 none 0 0 al w [.ref (al 11 0 0), .int x1] none wz := by
  refine mc_of [(0, .ref (al 11 0 0)), (1, .int x1)] (by decide) (Nat.le_of_ble_eq_true rfl) rfl ?_
  intro K hk hR hn hl hG
  subst hl; subst hG
  have hk : VH K RX11 cX11_bandsBySize 0 0 := hk
  rw [fX11_bandsBySize.eq_1] at h
  refine r_aload_n 1 hk dX11_bandsBySize_0 rfl 0 rfl rfl ?_
  refine r_iconst 2 hk dX11_bandsBySize_1 rfl ci_0 ?_
  obtain ⟨w1, ew1, h⟩ := lw_e h
  refine r_putI 5 w1 hk dX11_bandsBySize_2 rfl ff_RX11_274 fi_11_23 (mk_11_0 (nx_11 hN (j := 0) (by decide))) ew1 ?_
  refine r_iconst 6 hk dX11_bandsBySize_5 rfl ci_0 ?_
  refine r_istore_n 7 [(2, .int 0), (0, .ref (al 11 0 0)), (1, .int x1)] hk dX11_bandsBySize_6 rfl rfl hn (by decide) rfl rfl ?_
  refine r_sub [1, 2, 0] rfl ?_
  exact sX11_bandsBySize_7 hk hR hn hN _ _ _ _ h
def fX11_works_2 (nd : Nat) : Nat → Wd → Int32 → Option (Unit × Wd)
  | 0, _, _ => none
  | n + 1, w, x1 =>
    if (110 : Int32) ≤ x1 then
      ob (fX11_bandsAsTold nd w ) fun _ w3 =>
      some ((), w3)
    else
      ck (inb (x1) 110) <|
      ck (inb (x1) 110) <|
      lw (sA w 11 0 16 (x1 : Int32).toNatClampNeg (((w 11 0).2.1 15 (x1 : Int32).toNatClampNeg))) fun w6 =>
      lw (x1 + 1) fun x1_7 =>
      fX11_works_2 nd n w6 (x1_7)
def fX11_works (nd : Nat) (w : Wd) : Option (Unit × Wd) :=
  fX11_works_2 nd fuel0 w (0)
set_option maxRecDepth 100000 in
set_option maxHeartbeats 4000000 in
theorem sX11_works_2 {K : VC} {al : Al} {r : Unit} {wz : Wd}  (hk : VH K RX11 cX11_works 1 22) (hR : VR K al none none wz) (hn : kn K = 2) (hN : NX (kG K)) : ∀ (n : Nat) (w : Wd) (x1 : Int32), fX11_works_2 (gN (kG K) 10) n w x1 = some (r, wz) → V K al w 2 [(0, .ref (al 11 0 0)), (1, .int x1)] [] := by
  intro n
  induction n with
  | zero => intro w x1 h; cases h
  | succ n ih =>
    intro w x1 h
    rw [fX11_works_2.eq_2] at h
    refine r_iload_n 3 hk dX11_works_2 rfl 1 rfl rfl ?_
    refine r_bipush 5 hk dX11_works_3 rfl cb_110 ?_
    refine r_icmp_ge 26 8 hk dX11_works_5 rfl rfl (fun c1 => ?_) (fun c1 => ?_)
    · have h := if_t c1 h
      refine r_aload_n 27 hk dX11_works_26 rfl 0 rfl rfl ?_
      obtain ⟨r2, w3, ew3, h⟩ := ob_e h
      refine r_cVv 30 (As := []) (rest := []) hk (kX11_bandsAsTold hN ew3) cf_RX11_281 mi_X11_bandsAsTold ⟨TX11, 36, rfl⟩ dX11_works_27 rfl (Nat.le_of_ble_eq_true rfl) (Nat.le_of_ble_eq_true rfl) (mk_11_0 (nx_11 hN (j := 0) (by decide))) rfl rfl (Nat.le_of_ble_eq_true rfl) ?_
      exact r_vret hk hR dX11_works_30 h
    · have h := if_f c1 h
      refine r_aload_n 9 hk dX11_works_8 rfl 0 rfl rfl ?_
      refine r_get 12 hk dX11_works_9 rfl ff_RX11_21 (mk_11_0 (nx_11 hN (j := 0) (by decide))) (gv_11_16 _ _ _) ?_
      refine r_iload_n 13 hk dX11_works_12 rfl 1 rfl rfl ?_
      refine r_aload_n 14 hk dX11_works_13 rfl 0 rfl rfl ?_
      refine r_get 17 hk dX11_works_14 rfl ff_RX11_17 (mk_11_0 (nx_11 hN (j := 0) (by decide))) (gv_11_15 _ _ _) ?_
      refine r_iload_n 18 hk dX11_works_17 rfl 1 rfl rfl ?_
      obtain ⟨b4, h⟩ := ck_e h
      refine r_iald 19 hk dX11_works_18 rfl rfl (mk_11_16 (nx_11 hN (j := 0) (by decide))) rfl b4 ?_
      obtain ⟨b5, h⟩ := ck_e h
      obtain ⟨w6, ew6, h⟩ := lw_e h
      refine r_iast 20 w6 hk dX11_works_19 rfl rfl (mk_11_17 (nx_11 hN (j := 0) (by decide))) rfl b5 ew6 ?_
      obtain ⟨x1_7, ex1_7, h⟩ := lw_e h
      refine r_iinc 23 [(1, .int x1_7), (0, .ref (al 11 0 0))] hk (j := 1) dX11_works_20 rfl hn (by decide) rfl ex1_7 rfl ?_
      refine r_goto 2 hk (x := 0) dX11_works_23 rfl ?_
      refine r_sub [1, 0] rfl ?_
      exact ih _ _ h
set_option maxRecDepth 100000 in
set_option maxHeartbeats 4000000 in
theorem kX11_works {l : Launch} {G : Gx} {al : Al} {w : Wd} {r : Unit} {wz : Wd} (hN : NX G) (h : fX11_works (gN G 10) w = some (r, wz)) : MC l G yX11_works cX11_works 2 none 1 22 al w [.ref (al 11 0 0)] none wz := by
  refine mc_of [(0, .ref (al 11 0 0))] (by decide) (Nat.le_of_ble_eq_true rfl) rfl ?_
  intro K hk hR hn hl hG
  subst hl; subst hG
  have hk : VH K RX11 cX11_works 1 22 := hk
  rw [fX11_works.eq_1] at h
  refine r_iconst 1 hk dX11_works_0 rfl ci_0 ?_
  refine r_istore_n 2 [(1, .int 0), (0, .ref (al 11 0 0))] hk dX11_works_1 rfl rfl hn (by decide) rfl rfl ?_
  refine r_sub [1, 0] rfl ?_
  exact sX11_works_2 hk hR hn hN _ _ _ h
def fX11_bandAt_2 (nd : Nat) : Nat → Wd → Int32 → Int32 → Option (Int32 × Wd)
  | 0, _, _, _ => none
  | n + 1, w, x1, x2 =>
    ck (inb (x2) 24) <|
    ck (inb (x2) 24) <|
    if (x1 : Int32) < (((w 11 0).2.1 21 (x2 : Int32).toNatClampNeg) + ((w 11 0).2.1 22 (x2 : Int32).toNatClampNeg)) then
      some (x2, w)
    else
      lw (x2 + 1) fun x2_4 =>
      fX11_bandAt_2 nd n w (x1) (x2_4)
def fX11_bandAt (nd : Nat) (w : Wd) (x1 : Int32) : Option (Int32 × Wd) :=
  fX11_bandAt_2 nd fuel0 w (x1) (0)
set_option maxRecDepth 100000 in
set_option maxHeartbeats 4000000 in
theorem sX11_bandAt_2 {K : VC} {al : Al} {r : Int32} {wz : Wd}  (hk : VH K RX11 cX11_bandAt 0 0) (hR : VR K al (some (.int)) (some (.int r)) wz) (hn : kn K = 3) (hN : NX (kG K)) : ∀ (n : Nat) (w : Wd) (x1 : Int32) (x2 : Int32), fX11_bandAt_2 (gN (kG K) 10) n w x1 x2 = some (r, wz) → V K al w 2 [(0, .ref (al 11 0 0)), (1, .int x1), (2, .int x2)] [] := by
  intro n
  induction n with
  | zero => intro w x1 x2 h; cases h
  | succ n ih =>
    intro w x1 x2 h
    rw [fX11_bandAt_2.eq_2] at h
    refine r_iload_n 3 hk dX11_bandAt_2 rfl 1 rfl rfl ?_
    refine r_aload_n 4 hk dX11_bandAt_3 rfl 0 rfl rfl ?_
    refine r_get 7 hk dX11_bandAt_4 rfl ff_RX11_30 (mk_11_0 (nx_11 hN (j := 0) (by decide))) (gv_11_21 _ _ _) ?_
    refine r_iload_n 8 hk dX11_bandAt_7 rfl 2 rfl rfl ?_
    obtain ⟨b1, h⟩ := ck_e h
    refine r_iald 9 hk dX11_bandAt_8 rfl rfl (mk_11_22 (nx_11 hN (j := 0) (by decide))) rfl b1 ?_
    refine r_aload_n 10 hk dX11_bandAt_9 rfl 0 rfl rfl ?_
    refine r_get 13 hk dX11_bandAt_10 rfl ff_RX11_33 (mk_11_0 (nx_11 hN (j := 0) (by decide))) (gv_11_22 _ _ _) ?_
    refine r_iload_n 14 hk dX11_bandAt_13 rfl 2 rfl rfl ?_
    obtain ⟨b2, h⟩ := ck_e h
    refine r_iald 15 hk dX11_bandAt_14 rfl rfl (mk_11_23 (nx_11 hN (j := 0) (by decide))) rfl b2 ?_
    refine r_iadd 16 hk dX11_bandAt_15 rfl ?_
    refine r_icmp_lt 25 19 hk dX11_bandAt_16 rfl rfl (fun c3 => ?_) (fun c3 => ?_)
    · have h := if_t c3 h
      refine r_iload_n 26 hk dX11_bandAt_25 rfl 2 rfl rfl ?_
      exact r_iret hk hR dX11_bandAt_26 h
    · have h := if_f c3 h
      obtain ⟨x2_4, ex2_4, h⟩ := lw_e h
      refine r_iinc 22 [(2, .int x2_4), (0, .ref (al 11 0 0)), (1, .int x1)] hk (j := 2) dX11_bandAt_19 rfl hn (by decide) rfl ex2_4 rfl ?_
      refine r_goto 2 hk (x := 0) dX11_bandAt_22 rfl ?_
      refine r_sub [1, 2, 0] rfl ?_
      exact ih _ _ _ h
set_option maxRecDepth 100000 in
set_option maxHeartbeats 4000000 in
theorem kX11_bandAt {l : Launch} {G : Gx} {al : Al} {w : Wd} {x1 : Int32} {r : Int32} {wz : Wd} (hN : NX G) (h : fX11_bandAt (gN G 10) w x1 = some (r, wz)) : MC l G yX11_bandAt cX11_bandAt 3 (some (.int)) 0 0 al w [.ref (al 11 0 0), .int x1] (some (.int r)) wz := by
  refine mc_of [(0, .ref (al 11 0 0)), (1, .int x1)] (by decide) (Nat.le_of_ble_eq_true rfl) rfl ?_
  intro K hk hR hn hl hG
  subst hl; subst hG
  have hk : VH K RX11 cX11_bandAt 0 0 := hk
  rw [fX11_bandAt.eq_1] at h
  refine r_iconst 1 hk dX11_bandAt_0 rfl ci_0 ?_
  refine r_istore_n 2 [(2, .int 0), (0, .ref (al 11 0 0)), (1, .int x1)] hk dX11_bandAt_1 rfl rfl hn (by decide) rfl rfl ?_
  refine r_sub [1, 2, 0] rfl ?_
  exact sX11_bandAt_2 hk hR hn hN _ _ _ _ h
def fX11_isIn (nd : Nat) (w : Wd) (x1 : Int32) (x2 : Int32) : Option (Int32 × Wd) :=
  ck (inb (x2) 24) <|
  if (x1 : Int32) < ((w 11 0).2.1 21 (x2 : Int32).toNatClampNeg) then
    some (0, w)
  else
    ck (inb (x2) 24) <|
    ck (inb (x2) 24) <|
    if ((((w 11 0).2.1 21 (x2 : Int32).toNatClampNeg) + ((w 11 0).2.1 22 (x2 : Int32).toNatClampNeg)) : Int32) ≤ x1 then
      some (0, w)
    else
      some (1, w)
set_option maxRecDepth 100000 in
set_option maxHeartbeats 4000000 in
theorem kX11_isIn {l : Launch} {G : Gx} {al : Al} {w : Wd} {x1 : Int32} {x2 : Int32} {r : Int32} {wz : Wd} (hN : NX G) (h : fX11_isIn (gN G 10) w x1 x2 = some (r, wz)) : MC l G yX11_isIn cX11_isIn 3 (some (.boolean)) 0 0 al w [.ref (al 11 0 0), .int x1, .int x2] (some (.int r)) wz := by
  refine mc_of [(0, .ref (al 11 0 0)), (1, .int x1), (2, .int x2)] (by decide) (Nat.le_of_ble_eq_true rfl) rfl ?_
  intro K hk hR hn hl hG
  subst hl; subst hG
  have hk : VH K RX11 cX11_isIn 0 0 := hk
  rw [fX11_isIn.eq_1] at h
  refine r_iload_n 1 hk dX11_isIn_0 rfl 1 rfl rfl ?_
  refine r_aload_n 2 hk dX11_isIn_1 rfl 0 rfl rfl ?_
  refine r_get 5 hk dX11_isIn_2 rfl ff_RX11_30 (mk_11_0 (nx_11 hN (j := 0) (by decide))) (gv_11_21 _ _ _) ?_
  refine r_iload_n 6 hk dX11_isIn_5 rfl 2 rfl rfl ?_
  obtain ⟨b1, h⟩ := ck_e h
  refine r_iald 7 hk dX11_isIn_6 rfl rfl (mk_11_22 (nx_11 hN (j := 0) (by decide))) rfl b1 ?_
  refine r_icmp_lt 31 10 hk dX11_isIn_7 rfl rfl (fun c2 => ?_) (fun c2 => ?_)
  · have h := if_t c2 h
    refine r_iconst 32 hk dX11_isIn_31 rfl ci_0 ?_
    exact r_zret hk hR dX11_isIn_32 (by decide) h
  · have h := if_f c2 h
    refine r_iload_n 11 hk dX11_isIn_10 rfl 1 rfl rfl ?_
    refine r_aload_n 12 hk dX11_isIn_11 rfl 0 rfl rfl ?_
    refine r_get 15 hk dX11_isIn_12 rfl ff_RX11_30 (mk_11_0 (nx_11 hN (j := 0) (by decide))) (gv_11_21 _ _ _) ?_
    refine r_iload_n 16 hk dX11_isIn_15 rfl 2 rfl rfl ?_
    obtain ⟨b3, h⟩ := ck_e h
    refine r_iald 17 hk dX11_isIn_16 rfl rfl (mk_11_22 (nx_11 hN (j := 0) (by decide))) rfl b3 ?_
    refine r_aload_n 18 hk dX11_isIn_17 rfl 0 rfl rfl ?_
    refine r_get 21 hk dX11_isIn_18 rfl ff_RX11_33 (mk_11_0 (nx_11 hN (j := 0) (by decide))) (gv_11_22 _ _ _) ?_
    refine r_iload_n 22 hk dX11_isIn_21 rfl 2 rfl rfl ?_
    obtain ⟨b4, h⟩ := ck_e h
    refine r_iald 23 hk dX11_isIn_22 rfl rfl (mk_11_23 (nx_11 hN (j := 0) (by decide))) rfl b4 ?_
    refine r_iadd 24 hk dX11_isIn_23 rfl ?_
    refine r_icmp_ge 31 27 hk dX11_isIn_24 rfl rfl (fun c5 => ?_) (fun c5 => ?_)
    · have h := if_t c5 h
      refine r_iconst 32 hk dX11_isIn_31 rfl ci_0 ?_
      exact r_zret hk hR dX11_isIn_32 (by decide) h
    · have h := if_f c5 h
      refine r_iconst 28 hk dX11_isIn_27 rfl ci_1 ?_
      refine r_goto 32 hk (x := 0) dX11_isIn_28 rfl ?_
      exact r_zret hk hR dX11_isIn_32 (by decide) h
def fX11_isLive_4 (nd : Nat) : Nat → Wd → Int32 → Int32 → Option (Int32 × Wd)
  | 0, _, _, _ => none
  | n + 1, w, x1, x2 =>
    ck (inb (48) 110) <|
    if (((w 11 0).2.1 16 (48 : Int32).toNatClampNeg) : Int32) ≤ x2 then
      some (1, w)
    else
      ck (inb ((49 + x2)) 110) <|
      ck (inb ((49 + x1)) 110) <|
      if (((w 11 0).2.1 16 ((49 + x2) : Int32).toNatClampNeg) : Int32) = ((w 11 0).2.1 16 ((49 + x1) : Int32).toNatClampNeg) then
        some (0, w)
      else
        lw (x2 + 1) fun x2_7 =>
        fX11_isLive_4 nd n w (x1) (x2_7)
def fX11_isLive (nd : Nat) (w : Wd) (x1 : Int32) : Option (Int32 × Wd) :=
  lw ((x1 + 1)) fun x2_1 =>
  fX11_isLive_4 nd fuel0 w (x1) (x2_1)
set_option maxRecDepth 100000 in
set_option maxHeartbeats 4000000 in
theorem sX11_isLive_4 {K : VC} {al : Al} {r : Int32} {wz : Wd}  (hk : VH K RX11 cX11_isLive 0 0) (hR : VR K al (some (.boolean)) (some (.int r)) wz) (hn : kn K = 3) (hN : NX (kG K)) : ∀ (n : Nat) (w : Wd) (x1 : Int32) (x2 : Int32), fX11_isLive_4 (gN (kG K) 10) n w x1 x2 = some (r, wz) → V K al w 4 [(0, .ref (al 11 0 0)), (1, .int x1), (2, .int x2)] [] := by
  intro n
  induction n with
  | zero => intro w x1 x2 h; cases h
  | succ n ih =>
    intro w x1 x2 h
    rw [fX11_isLive_4.eq_2] at h
    refine r_iload_n 5 hk dX11_isLive_4 rfl 2 rfl rfl ?_
    refine r_aload_n 6 hk dX11_isLive_5 rfl 0 rfl rfl ?_
    refine r_get 9 hk dX11_isLive_6 rfl ff_RX11_21 (mk_11_0 (nx_11 hN (j := 0) (by decide))) (gv_11_16 _ _ _) ?_
    refine r_bipush 11 hk dX11_isLive_9 rfl cb_48 ?_
    obtain ⟨b2, h⟩ := ck_e h
    refine r_iald 12 hk dX11_isLive_11 rfl rfl (mk_11_17 (nx_11 hN (j := 0) (by decide))) rfl b2 ?_
    refine r_icmp_ge 44 15 hk dX11_isLive_12 rfl rfl (fun c3 => ?_) (fun c3 => ?_)
    · have h := if_t c3 h
      refine r_iconst 45 hk dX11_isLive_44 rfl ci_1 ?_
      exact r_zret hk hR dX11_isLive_45 (by decide) h
    · have h := if_f c3 h
      refine r_aload_n 16 hk dX11_isLive_15 rfl 0 rfl rfl ?_
      refine r_get 19 hk dX11_isLive_16 rfl ff_RX11_21 (mk_11_0 (nx_11 hN (j := 0) (by decide))) (gv_11_16 _ _ _) ?_
      refine r_bipush 21 hk dX11_isLive_19 rfl cb_49 ?_
      refine r_iload_n 22 hk dX11_isLive_21 rfl 2 rfl rfl ?_
      refine r_iadd 23 hk dX11_isLive_22 rfl ?_
      obtain ⟨b4, h⟩ := ck_e h
      refine r_iald 24 hk dX11_isLive_23 rfl rfl (mk_11_17 (nx_11 hN (j := 0) (by decide))) rfl b4 ?_
      refine r_aload_n 25 hk dX11_isLive_24 rfl 0 rfl rfl ?_
      refine r_get 28 hk dX11_isLive_25 rfl ff_RX11_21 (mk_11_0 (nx_11 hN (j := 0) (by decide))) (gv_11_16 _ _ _) ?_
      refine r_bipush 30 hk dX11_isLive_28 rfl cb_49 ?_
      refine r_iload_n 31 hk dX11_isLive_30 rfl 1 rfl rfl ?_
      refine r_iadd 32 hk dX11_isLive_31 rfl ?_
      obtain ⟨b5, h⟩ := ck_e h
      refine r_iald 33 hk dX11_isLive_32 rfl rfl (mk_11_17 (nx_11 hN (j := 0) (by decide))) rfl b5 ?_
      refine r_icmp_ne 38 36 hk dX11_isLive_33 rfl rfl (fun c6 => ?_) (fun c6 => ?_)
      · have h := if_f c6 h
        obtain ⟨x2_7, ex2_7, h⟩ := lw_e h
        refine r_iinc 41 [(2, .int x2_7), (0, .ref (al 11 0 0)), (1, .int x1)] hk (j := 2) dX11_isLive_38 rfl hn (by decide) rfl ex2_7 rfl ?_
        refine r_goto 4 hk (x := 0) dX11_isLive_41 rfl ?_
        refine r_sub [1, 2, 0] rfl ?_
        exact ih _ _ _ h
      · have h := if_t c6 h
        refine r_iconst 37 hk dX11_isLive_36 rfl ci_0 ?_
        exact r_zret hk hR dX11_isLive_37 (by decide) h
set_option maxRecDepth 100000 in
set_option maxHeartbeats 4000000 in
theorem kX11_isLive {l : Launch} {G : Gx} {al : Al} {w : Wd} {x1 : Int32} {r : Int32} {wz : Wd} (hN : NX G) (h : fX11_isLive (gN G 10) w x1 = some (r, wz)) : MC l G yX11_isLive cX11_isLive 3 (some (.boolean)) 0 0 al w [.ref (al 11 0 0), .int x1] (some (.int r)) wz := by
  refine mc_of [(0, .ref (al 11 0 0)), (1, .int x1)] (by decide) (Nat.le_of_ble_eq_true rfl) rfl ?_
  intro K hk hR hn hl hG
  subst hl; subst hG
  have hk : VH K RX11 cX11_isLive 0 0 := hk
  rw [fX11_isLive.eq_1] at h
  refine r_iload_n 1 hk dX11_isLive_0 rfl 1 rfl rfl ?_
  refine r_iconst 2 hk dX11_isLive_1 rfl ci_1 ?_
  refine r_iadd 3 hk dX11_isLive_2 rfl ?_
  obtain ⟨x2_1, ex2_1, h⟩ := lw_e h
  refine r_istore_n 4 [(2, .int x2_1), (0, .ref (al 11 0 0)), (1, .int x1)] hk dX11_isLive_3 rfl rfl hn (by decide) ex2_1 rfl ?_
  refine r_sub [1, 2, 0] rfl ?_
  exact sX11_isLive_4 hk hR hn hN _ _ _ _ h
def fX11_liveOf_10 (nd : Nat) : Nat → Wd → Int32 → Int32 → Option (Int32 × Wd)
  | 0, _, _, _ => none
  | n + 1, w, x1, x2 =>
    if (x2 : Int32) < 0 then
      some ((-1), w)
    else
      ck (inb ((49 + x2)) 110) <|
      if (((w 11 0).2.1 16 ((49 + x2) : Int32).toNatClampNeg) : Int32) = x1 then
        some (x2, w)
      else
        lw (x2 + (-1)) fun x2_6 =>
        fX11_liveOf_10 nd n w (x1) (x2_6)
def fX11_liveOf (nd : Nat) (w : Wd) (x1 : Int32) : Option (Int32 × Wd) :=
  ck (inb (48) 110) <|
  lw ((((w 11 0).2.1 16 (48 : Int32).toNatClampNeg) - 1)) fun x2_2 =>
  fX11_liveOf_10 nd fuel0 w (x1) (x2_2)
set_option maxRecDepth 100000 in
set_option maxHeartbeats 4000000 in
theorem sX11_liveOf_10 {K : VC} {al : Al} {r : Int32} {wz : Wd}  (hk : VH K RX11 cX11_liveOf 0 0) (hR : VR K al (some (.int)) (some (.int r)) wz) (hn : kn K = 3) (hN : NX (kG K)) : ∀ (n : Nat) (w : Wd) (x1 : Int32) (x2 : Int32), fX11_liveOf_10 (gN (kG K) 10) n w x1 x2 = some (r, wz) → V K al w 10 [(0, .ref (al 11 0 0)), (1, .int x1), (2, .int x2)] [] := by
  intro n
  induction n with
  | zero => intro w x1 x2 h; cases h
  | succ n ih =>
    intro w x1 x2 h
    rw [fX11_liveOf_10.eq_2] at h
    refine r_iload_n 11 hk dX11_liveOf_10 rfl 2 rfl rfl ?_
    refine r_if_lt 35 14 hk dX11_liveOf_11 rfl rfl (fun c3 => ?_) (fun c3 => ?_)
    · have h := if_t c3 h
      refine r_iconst 36 hk dX11_liveOf_35 rfl ci_m1 ?_
      exact r_iret hk hR dX11_liveOf_36 h
    · have h := if_f c3 h
      refine r_aload_n 15 hk dX11_liveOf_14 rfl 0 rfl rfl ?_
      refine r_get 18 hk dX11_liveOf_15 rfl ff_RX11_21 (mk_11_0 (nx_11 hN (j := 0) (by decide))) (gv_11_16 _ _ _) ?_
      refine r_bipush 20 hk dX11_liveOf_18 rfl cb_49 ?_
      refine r_iload_n 21 hk dX11_liveOf_20 rfl 2 rfl rfl ?_
      refine r_iadd 22 hk dX11_liveOf_21 rfl ?_
      obtain ⟨b4, h⟩ := ck_e h
      refine r_iald 23 hk dX11_liveOf_22 rfl rfl (mk_11_17 (nx_11 hN (j := 0) (by decide))) rfl b4 ?_
      refine r_iload_n 24 hk dX11_liveOf_23 rfl 1 rfl rfl ?_
      refine r_icmp_ne 29 27 hk dX11_liveOf_24 rfl rfl (fun c5 => ?_) (fun c5 => ?_)
      · have h := if_f c5 h
        obtain ⟨x2_6, ex2_6, h⟩ := lw_e h
        refine r_iinc 32 [(2, .int x2_6), (0, .ref (al 11 0 0)), (1, .int x1)] hk (j := 2) dX11_liveOf_29 rfl hn (by decide) rfl ex2_6 rfl ?_
        refine r_goto 10 hk (x := 0) dX11_liveOf_32 rfl ?_
        refine r_sub [1, 2, 0] rfl ?_
        exact ih _ _ _ h
      · have h := if_t c5 h
        refine r_iload_n 28 hk dX11_liveOf_27 rfl 2 rfl rfl ?_
        exact r_iret hk hR dX11_liveOf_28 h
set_option maxRecDepth 100000 in
set_option maxHeartbeats 4000000 in
theorem kX11_liveOf {l : Launch} {G : Gx} {al : Al} {w : Wd} {x1 : Int32} {r : Int32} {wz : Wd} (hN : NX G) (h : fX11_liveOf (gN G 10) w x1 = some (r, wz)) : MC l G yX11_liveOf cX11_liveOf 3 (some (.int)) 0 0 al w [.ref (al 11 0 0), .int x1] (some (.int r)) wz := by
  refine mc_of [(0, .ref (al 11 0 0)), (1, .int x1)] (by decide) (Nat.le_of_ble_eq_true rfl) rfl ?_
  intro K hk hR hn hl hG
  subst hl; subst hG
  have hk : VH K RX11 cX11_liveOf 0 0 := hk
  rw [fX11_liveOf.eq_1] at h
  refine r_aload_n 1 hk dX11_liveOf_0 rfl 0 rfl rfl ?_
  refine r_get 4 hk dX11_liveOf_1 rfl ff_RX11_21 (mk_11_0 (nx_11 hN (j := 0) (by decide))) (gv_11_16 _ _ _) ?_
  refine r_bipush 6 hk dX11_liveOf_4 rfl cb_48 ?_
  obtain ⟨b1, h⟩ := ck_e h
  refine r_iald 7 hk dX11_liveOf_6 rfl rfl (mk_11_17 (nx_11 hN (j := 0) (by decide))) rfl b1 ?_
  refine r_iconst 8 hk dX11_liveOf_7 rfl ci_1 ?_
  refine r_isub 9 hk dX11_liveOf_8 rfl ?_
  obtain ⟨x2_2, ex2_2, h⟩ := lw_e h
  refine r_istore_n 10 [(2, .int x2_2), (0, .ref (al 11 0 0)), (1, .int x1)] hk dX11_liveOf_9 rfl rfl hn (by decide) ex2_2 rfl ?_
  refine r_sub [1, 2, 0] rfl ?_
  exact sX11_liveOf_10 hk hR hn hN _ _ _ _ h
def fX11_readOf (nd : Nat) (w : Wd) (x1 : Int32) : Option (Int32 × Wd) :=
  ob (fX11_liveOf nd w (x1)) fun r1 w2 =>
  if (r1 : Int32) = (-1) then
    ck (inb (x1) 110) <|
    some (((w2 11 0).2.1 16 (x1 : Int32).toNatClampNeg), w2)
  else
    ck (inb ((73 + r1)) 110) <|
    some (((w2 11 0).2.1 16 ((73 + r1) : Int32).toNatClampNeg), w2)
set_option maxRecDepth 100000 in
set_option maxHeartbeats 4000000 in
theorem kX11_readOf {l : Launch} {G : Gx} {al : Al} {w : Wd} {x1 : Int32} {r : Int32} {wz : Wd} (hN : NX G) (h : fX11_readOf (gN G 10) w x1 = some (r, wz)) : MC l G yX11_readOf cX11_readOf 3 (some (.int)) 1 22 al w [.ref (al 11 0 0), .int x1] (some (.int r)) wz := by
  refine mc_of [(0, .ref (al 11 0 0)), (1, .int x1)] (by decide) (Nat.le_of_ble_eq_true rfl) rfl ?_
  intro K hk hR hn hl hG
  subst hl; subst hG
  have hk : VH K RX11 cX11_readOf 1 22 := hk
  rw [fX11_readOf.eq_1] at h
  refine r_aload_n 1 hk dX11_readOf_0 rfl 0 rfl rfl ?_
  refine r_iload_n 2 hk dX11_readOf_1 rfl 1 rfl rfl ?_
  obtain ⟨r1, w2, ew2, h⟩ := ob_e h
  refine r_cVi 5 (As := [.int x1]) (rest := []) hk (kX11_liveOf hN ew2) cf_RX11_284 mi_X11_liveOf ⟨TX11, 36, rfl⟩ dX11_readOf_2 rfl (Nat.le_of_ble_eq_true rfl) (Nat.le_of_ble_eq_true rfl) (mk_11_0 (nx_11 hN (j := 0) (by decide))) rfl rfl (Nat.le_of_ble_eq_true rfl) ?_
  refine r_istore_n 6 [(2, .int r1), (0, .ref (al 11 0 0)), (1, .int x1)] hk dX11_readOf_5 rfl rfl hn (by decide) rfl rfl ?_
  refine r_iload_n 7 hk dX11_readOf_6 rfl 0 rfl rfl ?_
  refine r_iconst 8 hk dX11_readOf_7 rfl ci_m1 ?_
  refine r_icmp_ne 20 11 hk dX11_readOf_8 rfl rfl (fun c3 => ?_) (fun c3 => ?_)
  · have h := if_f c3 h
    refine r_aload_n 21 hk dX11_readOf_20 rfl 1 rfl rfl ?_
    refine r_get 24 hk dX11_readOf_21 rfl ff_RX11_21 (mk_11_0 (nx_11 hN (j := 0) (by decide))) (gv_11_16 _ _ _) ?_
    refine r_bipush 26 hk dX11_readOf_24 rfl cb_73 ?_
    refine r_iload_n 27 hk dX11_readOf_26 rfl 0 rfl rfl ?_
    refine r_iadd 28 hk dX11_readOf_27 rfl ?_
    obtain ⟨b4, h⟩ := ck_e h
    refine r_iald 29 hk dX11_readOf_28 rfl rfl (mk_11_17 (nx_11 hN (j := 0) (by decide))) rfl b4 ?_
    exact r_iret hk hR dX11_readOf_29 h
  · have h := if_t c3 h
    refine r_aload_n 12 hk dX11_readOf_11 rfl 1 rfl rfl ?_
    refine r_get 15 hk dX11_readOf_12 rfl ff_RX11_21 (mk_11_0 (nx_11 hN (j := 0) (by decide))) (gv_11_16 _ _ _) ?_
    refine r_iload_n 16 hk dX11_readOf_15 rfl 2 rfl rfl ?_
    obtain ⟨b5, h⟩ := ck_e h
    refine r_iald 17 hk dX11_readOf_16 rfl rfl (mk_11_17 (nx_11 hN (j := 0) (by decide))) rfl b5 ?_
    refine r_goto 29 hk (x := 0) dX11_readOf_17 rfl ?_
    exact r_iret hk hR dX11_readOf_29 h
def fX11_entriesOf_5 (nd : Nat) : Nat → Wd → Int32 → Int32 → Int32 → Int32 → Option (Int32 × Wd)
  | 0, _, _, _, _, _ => none
  | n + 1, w, x1, x2, x3, x4 =>
    ck (inb (48) 110) <|
    if (((w 11 0).2.1 16 (48 : Int32).toNatClampNeg) : Int32) ≤ x4 then
      some (x3, w)
    else
      ck (inb ((49 + x4)) 110) <|
      ob (fX11_isIn nd w (((w 11 0).2.1 16 ((49 + x4) : Int32).toNatClampNeg)) (x1)) fun r4 w5 =>
      if (r4 : Int32) = 0 then
        lw ((x3 + 0)) fun x3_7 =>
        lw (x4 + 1) fun x4_8 =>
        fX11_entriesOf_5 nd n w5 (x1) (x2) (x3_7) (x4_8)
      else
        if (x2 : Int32) = 0 then
          lw ((x3 + 1)) fun x3_10 =>
          lw (x4 + 1) fun x4_11 =>
          fX11_entriesOf_5 nd n w5 (x1) (x2) (x3_10) (x4_11)
        else
          ob (fX11_isLive nd w5 (x4)) fun r12 w13 =>
          if (r12 : Int32) = 0 then
            lw ((x3 + 0)) fun x3_15 =>
            lw (x4 + 1) fun x4_16 =>
            fX11_entriesOf_5 nd n w13 (x1) (x2) (x3_15) (x4_16)
          else
            lw ((x3 + 1)) fun x3_17 =>
            lw (x4 + 1) fun x4_18 =>
            fX11_entriesOf_5 nd n w13 (x1) (x2) (x3_17) (x4_18)
def fX11_entriesOf (nd : Nat) (w : Wd) (x1 : Int32) (x2 : Int32) : Option (Int32 × Wd) :=
  fX11_entriesOf_5 nd fuel0 w (x1) (x2) (0) (0)
set_option maxRecDepth 100000 in
set_option maxHeartbeats 4000000 in
theorem sX11_entriesOf_5 {K : VC} {al : Al} {r : Int32} {wz : Wd}  (hk : VH K RX11 cX11_entriesOf 1 22) (hR : VR K al (some (.int)) (some (.int r)) wz) (hn : kn K = 5) (hN : NX (kG K)) : ∀ (n : Nat) (w : Wd) (x1 : Int32) (x2 : Int32) (x3 : Int32) (x4 : Int32), fX11_entriesOf_5 (gN (kG K) 10) n w x1 x2 x3 x4 = some (r, wz) → V K al w 5 [(0, .ref (al 11 0 0)), (1, .int x1), (2, .int x2), (3, .int x3), (4, .int x4)] [] := by
  intro n
  induction n with
  | zero => intro w x1 x2 x3 x4 h; cases h
  | succ n ih =>
    intro w x1 x2 x3 x4 h
    rw [fX11_entriesOf_5.eq_2] at h
    refine r_iload 7 hk dX11_entriesOf_5 rfl 4 rfl ?_
    refine r_aload_n 8 hk dX11_entriesOf_7 rfl 0 rfl rfl ?_
    refine r_get 11 hk dX11_entriesOf_8 rfl ff_RX11_21 (mk_11_0 (nx_11 hN (j := 0) (by decide))) (gv_11_16 _ _ _) ?_
    refine r_bipush 13 hk dX11_entriesOf_11 rfl cb_48 ?_
    obtain ⟨b1, h⟩ := ck_e h
    refine r_iald 14 hk dX11_entriesOf_13 rfl rfl (mk_11_17 (nx_11 hN (j := 0) (by decide))) rfl b1 ?_
    refine r_icmp_ge 62 17 hk dX11_entriesOf_14 rfl rfl (fun c2 => ?_) (fun c2 => ?_)
    · have h := if_t c2 h
      refine r_iload_n 63 hk dX11_entriesOf_62 rfl 3 rfl rfl ?_
      exact r_iret hk hR dX11_entriesOf_63 h
    · have h := if_f c2 h
      refine r_iload_n 18 hk dX11_entriesOf_17 rfl 3 rfl rfl ?_
      refine r_aload_n 19 hk dX11_entriesOf_18 rfl 0 rfl rfl ?_
      refine r_aload_n 20 hk dX11_entriesOf_19 rfl 0 rfl rfl ?_
      refine r_get 23 hk dX11_entriesOf_20 rfl ff_RX11_21 (mk_11_0 (nx_11 hN (j := 0) (by decide))) (gv_11_16 _ _ _) ?_
      refine r_bipush 25 hk dX11_entriesOf_23 rfl cb_49 ?_
      refine r_iload 27 hk dX11_entriesOf_25 rfl 4 rfl ?_
      refine r_iadd 28 hk dX11_entriesOf_27 rfl ?_
      obtain ⟨b3, h⟩ := ck_e h
      refine r_iald 29 hk dX11_entriesOf_28 rfl rfl (mk_11_17 (nx_11 hN (j := 0) (by decide))) rfl b3 ?_
      refine r_iload_n 30 hk dX11_entriesOf_29 rfl 1 rfl rfl ?_
      obtain ⟨r4, w5, ew5, h⟩ := ob_e h
      refine r_cVi 33 (As := [.int (((w 11 0).2.1 16 ((49 + x4) : Int32).toNatClampNeg)), .int x1]) (rest := [.int x3]) hk (kX11_isIn hN ew5) cf_RX11_287 mi_X11_isIn ⟨TX11, 36, rfl⟩ dX11_entriesOf_30 rfl (Nat.le_of_ble_eq_true rfl) (Nat.le_of_ble_eq_true rfl) (mk_11_0 (nx_11 hN (j := 0) (by decide))) rfl rfl (Nat.le_of_ble_eq_true rfl) ?_
      refine r_if_eq 53 36 hk dX11_entriesOf_33 rfl rfl (fun c6 => ?_) (fun c6 => ?_)
      · have h := if_t c6 h
        refine r_iconst 54 hk dX11_entriesOf_53 rfl ci_0 ?_
        refine r_iadd 55 hk dX11_entriesOf_54 rfl ?_
        obtain ⟨x3_7, ex3_7, h⟩ := lw_e h
        refine r_istore_n 56 [(3, .int x3_7), (0, .ref (al 11 0 0)), (1, .int x1), (2, .int x2), (4, .int x4)] hk dX11_entriesOf_55 rfl rfl hn (by decide) ex3_7 rfl ?_
        obtain ⟨x4_8, ex4_8, h⟩ := lw_e h
        refine r_iinc 59 [(4, .int x4_8), (3, .int x3_7), (0, .ref (al 11 0 0)), (1, .int x1), (2, .int x2)] hk (j := 4) dX11_entriesOf_56 rfl hn (by decide) rfl ex4_8 rfl ?_
        refine r_goto 5 hk (x := 0) dX11_entriesOf_59 rfl ?_
        refine r_sub [2, 3, 4, 1, 0] rfl ?_
        exact ih _ _ _ _ _ h
      · have h := if_f c6 h
        refine r_iload_n 37 hk dX11_entriesOf_36 rfl 2 rfl rfl ?_
        refine r_if_eq 49 40 hk dX11_entriesOf_37 rfl rfl (fun c9 => ?_) (fun c9 => ?_)
        · have h := if_t c9 h
          refine r_iconst 50 hk dX11_entriesOf_49 rfl ci_1 ?_
          refine r_goto 54 hk (x := 0) dX11_entriesOf_50 rfl ?_
          refine r_iadd 55 hk dX11_entriesOf_54 rfl ?_
          obtain ⟨x3_10, ex3_10, h⟩ := lw_e h
          refine r_istore_n 56 [(3, .int x3_10), (0, .ref (al 11 0 0)), (1, .int x1), (2, .int x2), (4, .int x4)] hk dX11_entriesOf_55 rfl rfl hn (by decide) ex3_10 rfl ?_
          obtain ⟨x4_11, ex4_11, h⟩ := lw_e h
          refine r_iinc 59 [(4, .int x4_11), (3, .int x3_10), (0, .ref (al 11 0 0)), (1, .int x1), (2, .int x2)] hk (j := 4) dX11_entriesOf_56 rfl hn (by decide) rfl ex4_11 rfl ?_
          refine r_goto 5 hk (x := 0) dX11_entriesOf_59 rfl ?_
          refine r_sub [2, 3, 4, 1, 0] rfl ?_
          exact ih _ _ _ _ _ h
        · have h := if_f c9 h
          refine r_aload_n 41 hk dX11_entriesOf_40 rfl 0 rfl rfl ?_
          refine r_iload 43 hk dX11_entriesOf_41 rfl 4 rfl ?_
          obtain ⟨r12, w13, ew13, h⟩ := ob_e h
          refine r_cVi 46 (As := [.int x4]) (rest := [.int x3]) hk (kX11_isLive hN ew13) cf_RX11_291 mi_X11_isLive ⟨TX11, 36, rfl⟩ dX11_entriesOf_43 rfl (Nat.le_of_ble_eq_true rfl) (Nat.le_of_ble_eq_true rfl) (mk_11_0 (nx_11 hN (j := 0) (by decide))) rfl rfl (Nat.le_of_ble_eq_true rfl) ?_
          refine r_if_eq 53 49 hk dX11_entriesOf_46 rfl rfl (fun c14 => ?_) (fun c14 => ?_)
          · have h := if_t c14 h
            refine r_iconst 54 hk dX11_entriesOf_53 rfl ci_0 ?_
            refine r_iadd 55 hk dX11_entriesOf_54 rfl ?_
            obtain ⟨x3_15, ex3_15, h⟩ := lw_e h
            refine r_istore_n 56 [(3, .int x3_15), (0, .ref (al 11 0 0)), (1, .int x1), (2, .int x2), (4, .int x4)] hk dX11_entriesOf_55 rfl rfl hn (by decide) ex3_15 rfl ?_
            obtain ⟨x4_16, ex4_16, h⟩ := lw_e h
            refine r_iinc 59 [(4, .int x4_16), (3, .int x3_15), (0, .ref (al 11 0 0)), (1, .int x1), (2, .int x2)] hk (j := 4) dX11_entriesOf_56 rfl hn (by decide) rfl ex4_16 rfl ?_
            refine r_goto 5 hk (x := 0) dX11_entriesOf_59 rfl ?_
            refine r_sub [2, 3, 4, 1, 0] rfl ?_
            exact ih _ _ _ _ _ h
          · have h := if_f c14 h
            refine r_iconst 50 hk dX11_entriesOf_49 rfl ci_1 ?_
            refine r_goto 54 hk (x := 0) dX11_entriesOf_50 rfl ?_
            refine r_iadd 55 hk dX11_entriesOf_54 rfl ?_
            obtain ⟨x3_17, ex3_17, h⟩ := lw_e h
            refine r_istore_n 56 [(3, .int x3_17), (0, .ref (al 11 0 0)), (1, .int x1), (2, .int x2), (4, .int x4)] hk dX11_entriesOf_55 rfl rfl hn (by decide) ex3_17 rfl ?_
            obtain ⟨x4_18, ex4_18, h⟩ := lw_e h
            refine r_iinc 59 [(4, .int x4_18), (3, .int x3_17), (0, .ref (al 11 0 0)), (1, .int x1), (2, .int x2)] hk (j := 4) dX11_entriesOf_56 rfl hn (by decide) rfl ex4_18 rfl ?_
            refine r_goto 5 hk (x := 0) dX11_entriesOf_59 rfl ?_
            refine r_sub [2, 3, 4, 1, 0] rfl ?_
            exact ih _ _ _ _ _ h
set_option maxRecDepth 100000 in
set_option maxHeartbeats 4000000 in
theorem kX11_entriesOf {l : Launch} {G : Gx} {al : Al} {w : Wd} {x1 : Int32} {x2 : Int32} {r : Int32} {wz : Wd} (hN : NX G) (h : fX11_entriesOf (gN G 10) w x1 x2 = some (r, wz)) : MC l G yX11_entriesOf cX11_entriesOf 5 (some (.int)) 1 22 al w [.ref (al 11 0 0), .int x1, .int x2] (some (.int r)) wz := by
  refine mc_of [(0, .ref (al 11 0 0)), (1, .int x1), (2, .int x2)] (by decide) (Nat.le_of_ble_eq_true rfl) rfl ?_
  intro K hk hR hn hl hG
  subst hl; subst hG
  have hk : VH K RX11 cX11_entriesOf 1 22 := hk
  rw [fX11_entriesOf.eq_1] at h
  refine r_iconst 1 hk dX11_entriesOf_0 rfl ci_0 ?_
  refine r_istore_n 2 [(3, .int 0), (0, .ref (al 11 0 0)), (1, .int x1), (2, .int x2)] hk dX11_entriesOf_1 rfl rfl hn (by decide) rfl rfl ?_
  refine r_iconst 3 hk dX11_entriesOf_2 rfl ci_0 ?_
  refine r_istore 5 [(4, .int 0), (3, .int 0), (0, .ref (al 11 0 0)), (1, .int x1), (2, .int x2)] hk dX11_entriesOf_3 rfl hn (by decide) rfl rfl ?_
  refine r_sub [2, 3, 4, 1, 0] rfl ?_
  exact sX11_entriesOf_5 hk hR hn hN _ _ _ _ _ _ h
def fX11_liveMany_4 (nd : Nat) : Nat → Wd → Int32 → Int32 → Option (Int32 × Wd)
  | 0, _, _, _ => none
  | n + 1, w, x1, x2 =>
    ck (inb (48) 110) <|
    if (((w 11 0).2.1 16 (48 : Int32).toNatClampNeg) : Int32) ≤ x2 then
      some (x1, w)
    else
      ob (fX11_isLive nd w (x2)) fun r3 w4 =>
      if (r3 : Int32) = 0 then
        lw ((x1 + 0)) fun x1_6 =>
        lw (x2 + 1) fun x2_7 =>
        fX11_liveMany_4 nd n w4 (x1_6) (x2_7)
      else
        lw ((x1 + 1)) fun x1_8 =>
        lw (x2 + 1) fun x2_9 =>
        fX11_liveMany_4 nd n w4 (x1_8) (x2_9)
def fX11_liveMany (nd : Nat) (w : Wd) : Option (Int32 × Wd) :=
  fX11_liveMany_4 nd fuel0 w (0) (0)
set_option maxRecDepth 100000 in
set_option maxHeartbeats 4000000 in
theorem sX11_liveMany_4 {K : VC} {al : Al} {r : Int32} {wz : Wd}  (hk : VH K RX11 cX11_liveMany 1 22) (hR : VR K al (some (.int)) (some (.int r)) wz) (hn : kn K = 3) (hN : NX (kG K)) : ∀ (n : Nat) (w : Wd) (x1 : Int32) (x2 : Int32), fX11_liveMany_4 (gN (kG K) 10) n w x1 x2 = some (r, wz) → V K al w 4 [(0, .ref (al 11 0 0)), (1, .int x1), (2, .int x2)] [] := by
  intro n
  induction n with
  | zero => intro w x1 x2 h; cases h
  | succ n ih =>
    intro w x1 x2 h
    rw [fX11_liveMany_4.eq_2] at h
    refine r_iload_n 5 hk dX11_liveMany_4 rfl 2 rfl rfl ?_
    refine r_aload_n 6 hk dX11_liveMany_5 rfl 0 rfl rfl ?_
    refine r_get 9 hk dX11_liveMany_6 rfl ff_RX11_21 (mk_11_0 (nx_11 hN (j := 0) (by decide))) (gv_11_16 _ _ _) ?_
    refine r_bipush 11 hk dX11_liveMany_9 rfl cb_48 ?_
    obtain ⟨b1, h⟩ := ck_e h
    refine r_iald 12 hk dX11_liveMany_11 rfl rfl (mk_11_17 (nx_11 hN (j := 0) (by decide))) rfl b1 ?_
    refine r_icmp_ge 37 15 hk dX11_liveMany_12 rfl rfl (fun c2 => ?_) (fun c2 => ?_)
    · have h := if_t c2 h
      refine r_iload_n 38 hk dX11_liveMany_37 rfl 1 rfl rfl ?_
      exact r_iret hk hR dX11_liveMany_38 h
    · have h := if_f c2 h
      refine r_iload_n 16 hk dX11_liveMany_15 rfl 1 rfl rfl ?_
      refine r_aload_n 17 hk dX11_liveMany_16 rfl 0 rfl rfl ?_
      refine r_iload_n 18 hk dX11_liveMany_17 rfl 2 rfl rfl ?_
      obtain ⟨r3, w4, ew4, h⟩ := ob_e h
      refine r_cVi 21 (As := [.int x2]) (rest := [.int x1]) hk (kX11_isLive hN ew4) cf_RX11_291 mi_X11_isLive ⟨TX11, 36, rfl⟩ dX11_liveMany_18 rfl (Nat.le_of_ble_eq_true rfl) (Nat.le_of_ble_eq_true rfl) (mk_11_0 (nx_11 hN (j := 0) (by decide))) rfl rfl (Nat.le_of_ble_eq_true rfl) ?_
      refine r_if_eq 28 24 hk dX11_liveMany_21 rfl rfl (fun c5 => ?_) (fun c5 => ?_)
      · have h := if_t c5 h
        refine r_iconst 29 hk dX11_liveMany_28 rfl ci_0 ?_
        refine r_iadd 30 hk dX11_liveMany_29 rfl ?_
        obtain ⟨x1_6, ex1_6, h⟩ := lw_e h
        refine r_istore_n 31 [(1, .int x1_6), (0, .ref (al 11 0 0)), (2, .int x2)] hk dX11_liveMany_30 rfl rfl hn (by decide) ex1_6 rfl ?_
        obtain ⟨x2_7, ex2_7, h⟩ := lw_e h
        refine r_iinc 34 [(2, .int x2_7), (1, .int x1_6), (0, .ref (al 11 0 0))] hk (j := 2) dX11_liveMany_31 rfl hn (by decide) rfl ex2_7 rfl ?_
        refine r_goto 4 hk (x := 0) dX11_liveMany_34 rfl ?_
        refine r_sub [2, 1, 0] rfl ?_
        exact ih _ _ _ h
      · have h := if_f c5 h
        refine r_iconst 25 hk dX11_liveMany_24 rfl ci_1 ?_
        refine r_goto 29 hk (x := 0) dX11_liveMany_25 rfl ?_
        refine r_iadd 30 hk dX11_liveMany_29 rfl ?_
        obtain ⟨x1_8, ex1_8, h⟩ := lw_e h
        refine r_istore_n 31 [(1, .int x1_8), (0, .ref (al 11 0 0)), (2, .int x2)] hk dX11_liveMany_30 rfl rfl hn (by decide) ex1_8 rfl ?_
        obtain ⟨x2_9, ex2_9, h⟩ := lw_e h
        refine r_iinc 34 [(2, .int x2_9), (1, .int x1_8), (0, .ref (al 11 0 0))] hk (j := 2) dX11_liveMany_31 rfl hn (by decide) rfl ex2_9 rfl ?_
        refine r_goto 4 hk (x := 0) dX11_liveMany_34 rfl ?_
        refine r_sub [2, 1, 0] rfl ?_
        exact ih _ _ _ h
set_option maxRecDepth 100000 in
set_option maxHeartbeats 4000000 in
theorem kX11_liveMany {l : Launch} {G : Gx} {al : Al} {w : Wd} {r : Int32} {wz : Wd} (hN : NX G) (h : fX11_liveMany (gN G 10) w = some (r, wz)) : MC l G yX11_liveMany cX11_liveMany 3 (some (.int)) 1 22 al w [.ref (al 11 0 0)] (some (.int r)) wz := by
  refine mc_of [(0, .ref (al 11 0 0))] (by decide) (Nat.le_of_ble_eq_true rfl) rfl ?_
  intro K hk hR hn hl hG
  subst hl; subst hG
  have hk : VH K RX11 cX11_liveMany 1 22 := hk
  rw [fX11_liveMany.eq_1] at h
  refine r_iconst 1 hk dX11_liveMany_0 rfl ci_0 ?_
  refine r_istore_n 2 [(1, .int 0), (0, .ref (al 11 0 0))] hk dX11_liveMany_1 rfl rfl hn (by decide) rfl rfl ?_
  refine r_iconst 3 hk dX11_liveMany_2 rfl ci_0 ?_
  refine r_istore_n 4 [(2, .int 0), (1, .int 0), (0, .ref (al 11 0 0))] hk dX11_liveMany_3 rfl rfl hn (by decide) rfl rfl ?_
  refine r_sub [2, 1, 0] rfl ?_
  exact sX11_liveMany_4 hk hR hn hN _ _ _ _ h
def fX11_fullest_11 (nd : Nat) : Nat → Wd → Int32 → Int32 → Int32 → Option (Int32 × Wd)
  | 0, _, _, _, _ => none
  | n + 1, w, x1, x2, x3 =>
    if (((w 11 0).1 23) : Int32) ≤ x3 then
      some (x1, w)
    else
      ob (fX11_entriesOf nd w (x3) (0)) fun r4 w5 =>
      if (x2 : Int32) < r4 then
        lw (x3 + 1) fun x3_7 =>
        fX11_fullest_11 nd n w5 (x3) (r4) (x3_7)
      else
        lw (x3 + 1) fun x3_8 =>
        fX11_fullest_11 nd n w5 (x1) (x2) (x3_8)
def fX11_fullest (nd : Nat) (w : Wd) : Option (Int32 × Wd) :=
  ob (fX11_entriesOf nd w (0) (0)) fun r1 w2 =>
  fX11_fullest_11 nd fuel0 w2 (0) (r1) (1)
set_option maxRecDepth 100000 in
set_option maxHeartbeats 4000000 in
theorem sX11_fullest_11 {K : VC} {al : Al} {r : Int32} {wz : Wd}  (hk : VH K RX11 cX11_fullest 2 46) (hR : VR K al (some (.int)) (some (.int r)) wz) (hn : kn K = 5) (hN : NX (kG K)) : ∀ (n : Nat) (w : Wd) (x1 : Int32) (x2 : Int32) (x3 : Int32), fX11_fullest_11 (gN (kG K) 10) n w x1 x2 x3 = some (r, wz) → V K al w 11 [(0, .ref (al 11 0 0)), (1, .int x1), (2, .int x2), (3, .int x3)] [] := by
  intro n
  induction n with
  | zero => intro w x1 x2 x3 h; cases h
  | succ n ih =>
    intro w x1 x2 x3 h
    rw [fX11_fullest_11.eq_2] at h
    refine r_iload_n 12 hk dX11_fullest_11 rfl 3 rfl rfl ?_
    refine r_aload_n 13 hk dX11_fullest_12 rfl 0 rfl rfl ?_
    refine r_get 16 hk dX11_fullest_13 rfl ff_RX11_274 (mk_11_0 (nx_11 hN (j := 0) (by decide))) (gv_11_23 _ _ _) ?_
    refine r_icmp_ge 47 19 hk dX11_fullest_16 rfl rfl (fun c3 => ?_) (fun c3 => ?_)
    · have h := if_t c3 h
      refine r_iload_n 48 hk dX11_fullest_47 rfl 1 rfl rfl ?_
      exact r_iret hk hR dX11_fullest_48 h
    · have h := if_f c3 h
      refine r_aload_n 20 hk dX11_fullest_19 rfl 0 rfl rfl ?_
      refine r_iload_n 21 hk dX11_fullest_20 rfl 3 rfl rfl ?_
      refine r_iconst 22 hk dX11_fullest_21 rfl ci_0 ?_
      obtain ⟨r4, w5, ew5, h⟩ := ob_e h
      refine r_cVi 25 (As := [.int x3, .int 0]) (rest := []) hk (kX11_entriesOf hN ew5) cf_RX11_299 mi_X11_entriesOf ⟨TX11, 36, rfl⟩ dX11_fullest_22 rfl (Nat.le_of_ble_eq_true rfl) (Nat.le_of_ble_eq_true rfl) (mk_11_0 (nx_11 hN (j := 0) (by decide))) rfl rfl (Nat.le_of_ble_eq_true rfl) ?_
      refine r_istore 27 [(4, .int r4), (0, .ref (al 11 0 0)), (1, .int x1), (2, .int x2), (3, .int x3)] hk dX11_fullest_25 rfl hn (by decide) rfl rfl ?_
      refine r_iload 29 hk dX11_fullest_27 rfl 0 rfl ?_
      refine r_iload_n 30 hk dX11_fullest_29 rfl 3 rfl rfl ?_
      refine r_icmp_gt 36 33 hk dX11_fullest_30 rfl rfl (fun c6 => ?_) (fun c6 => ?_)
      · have h := if_t c6 h
        refine r_iload 38 hk dX11_fullest_36 rfl 0 rfl ?_
        refine r_istore_n 39 [(2, .int r4), (4, .int r4), (0, .ref (al 11 0 0)), (1, .int x1), (3, .int x3)] hk dX11_fullest_38 rfl rfl hn (by decide) rfl rfl ?_
        refine r_iload_n 40 hk dX11_fullest_39 rfl 4 rfl rfl ?_
        refine r_istore_n 41 [(1, .int x3), (2, .int r4), (4, .int r4), (0, .ref (al 11 0 0)), (3, .int x3)] hk dX11_fullest_40 rfl rfl hn (by decide) rfl rfl ?_
        obtain ⟨x3_7, ex3_7, h⟩ := lw_e h
        refine r_iinc 44 [(3, .int x3_7), (1, .int x3), (2, .int r4), (4, .int r4), (0, .ref (al 11 0 0))] hk (j := 4) dX11_fullest_41 rfl hn (by decide) rfl ex3_7 rfl ?_
        refine r_goto 11 hk (x := 0) dX11_fullest_44 rfl ?_
        refine r_sub [4, 1, 2, 0] rfl ?_
        exact ih _ _ _ _ h
      · have h := if_f c6 h
        refine r_goto 41 hk (x := 0) dX11_fullest_33 rfl ?_
        obtain ⟨x3_8, ex3_8, h⟩ := lw_e h
        refine r_iinc 44 [(3, .int x3_8), (4, .int r4), (0, .ref (al 11 0 0)), (1, .int x1), (2, .int x2)] hk (j := 4) dX11_fullest_41 rfl hn (by decide) rfl ex3_8 rfl ?_
        refine r_goto 11 hk (x := 0) dX11_fullest_44 rfl ?_
        refine r_sub [2, 3, 4, 0] rfl ?_
        exact ih _ _ _ _ h
set_option maxRecDepth 100000 in
set_option maxHeartbeats 4000000 in
theorem kX11_fullest {l : Launch} {G : Gx} {al : Al} {w : Wd} {r : Int32} {wz : Wd} (hN : NX G) (h : fX11_fullest (gN G 10) w = some (r, wz)) : MC l G yX11_fullest cX11_fullest 5 (some (.int)) 2 46 al w [.ref (al 11 0 0)] (some (.int r)) wz := by
  refine mc_of [(0, .ref (al 11 0 0))] (by decide) (Nat.le_of_ble_eq_true rfl) rfl ?_
  intro K hk hR hn hl hG
  subst hl; subst hG
  have hk : VH K RX11 cX11_fullest 2 46 := hk
  rw [fX11_fullest.eq_1] at h
  refine r_iconst 1 hk dX11_fullest_0 rfl ci_0 ?_
  refine r_istore_n 2 [(1, .int 0), (0, .ref (al 11 0 0))] hk dX11_fullest_1 rfl rfl hn (by decide) rfl rfl ?_
  refine r_aload_n 3 hk dX11_fullest_2 rfl 1 rfl rfl ?_
  refine r_iconst 4 hk dX11_fullest_3 rfl ci_0 ?_
  refine r_iconst 5 hk dX11_fullest_4 rfl ci_0 ?_
  obtain ⟨r1, w2, ew2, h⟩ := ob_e h
  refine r_cVi 8 (As := [.int 0, .int 0]) (rest := []) hk (kX11_entriesOf hN ew2) cf_RX11_299 mi_X11_entriesOf ⟨TX11, 36, rfl⟩ dX11_fullest_5 rfl (Nat.le_of_ble_eq_true rfl) (Nat.le_of_ble_eq_true rfl) (mk_11_0 (nx_11 hN (j := 0) (by decide))) rfl rfl (Nat.le_of_ble_eq_true rfl) ?_
  refine r_istore_n 9 [(2, .int r1), (1, .int 0), (0, .ref (al 11 0 0))] hk dX11_fullest_8 rfl rfl hn (by decide) rfl rfl ?_
  refine r_iconst 10 hk dX11_fullest_9 rfl ci_1 ?_
  refine r_istore_n 11 [(3, .int 1), (2, .int r1), (1, .int 0), (0, .ref (al 11 0 0))] hk dX11_fullest_10 rfl rfl hn (by decide) rfl rfl ?_
  refine r_sub [3, 2, 1, 0] rfl ?_
  exact sX11_fullest_11 hk hR hn hN _ _ _ _ _ h
def fX11_nextBand (nd : Nat) (w : Wd) : Option (Int32 × Wd) :=
  ck (inb (48) 110) <|
  if (((w 11 0).2.1 16 (48 : Int32).toNatClampNeg) : Int32) = 0 then
    some ((-2), w)
  else
    ckp ((w 11 0).2.2.1 3) nd fun q3 =>
    if (((w 10 q3).1 8) : Int32) = 0 then
      ob (fX11_fullest nd w ) fun r5 w6 =>
      some (r5, w6)
    else
      ck (inb (49) 110) <|
      ob (fX11_bandAt nd w (((w 11 0).2.1 16 (49 : Int32).toNatClampNeg))) fun r8 w9 =>
      some (r8, w9)
set_option maxRecDepth 100000 in
set_option maxHeartbeats 4000000 in
theorem kX11_nextBand {l : Launch} {G : Gx} {al : Al} {w : Wd} {r : Int32} {wz : Wd} (hN : NX G) (h : fX11_nextBand (gN G 10) w = some (r, wz)) : MC l G yX11_nextBand cX11_nextBand 1 (some (.int)) 3 70 al w [.ref (al 11 0 0)] (some (.int r)) wz := by
  refine mc_of [(0, .ref (al 11 0 0))] (by decide) (Nat.le_of_ble_eq_true rfl) rfl ?_
  intro K hk hR hn hl hG
  subst hl; subst hG
  have hk : VH K RX11 cX11_nextBand 3 70 := hk
  rw [fX11_nextBand.eq_1] at h
  refine r_aload_n 1 hk dX11_nextBand_0 rfl 0 rfl rfl ?_
  refine r_get 4 hk dX11_nextBand_1 rfl ff_RX11_21 (mk_11_0 (nx_11 hN (j := 0) (by decide))) (gv_11_16 _ _ _) ?_
  refine r_bipush 6 hk dX11_nextBand_4 rfl cb_48 ?_
  obtain ⟨b1, h⟩ := ck_e h
  refine r_iald 7 hk dX11_nextBand_6 rfl rfl (mk_11_17 (nx_11 hN (j := 0) (by decide))) rfl b1 ?_
  refine r_if_ne 13 10 hk dX11_nextBand_7 rfl rfl (fun c2 => ?_) (fun c2 => ?_)
  · have h := if_f c2 h
    refine r_aload_n 14 hk dX11_nextBand_13 rfl 0 rfl rfl ?_
    refine r_get 17 hk dX11_nextBand_14 rfl ff_RX11_260 (mk_11_0 (nx_11 hN (j := 0) (by decide))) (gv_11_3 _ _ _) ?_
    obtain ⟨q3, eq3, lq3, h⟩ := ckp_e h
    refine r_pv1 eq3 ?_
    refine r_get 20 hk dX11_nextBand_17 rfl ff_RX11_200 (mk_10_0 lq3) (gv_10_8 _ _ _) ?_
    refine r_if_eq 37 23 hk dX11_nextBand_20 rfl rfl (fun c4 => ?_) (fun c4 => ?_)
    · have h := if_t c4 h
      refine r_aload_n 38 hk dX11_nextBand_37 rfl 0 rfl rfl ?_
      obtain ⟨r5, w6, ew6, h⟩ := ob_e h
      refine r_cVi 41 (As := []) (rest := []) hk (kX11_fullest hN ew6) cf_RX11_297 mi_X11_fullest ⟨TX11, 36, rfl⟩ dX11_nextBand_38 rfl (Nat.le_of_ble_eq_true rfl) (Nat.le_of_ble_eq_true rfl) (mk_11_0 (nx_11 hN (j := 0) (by decide))) rfl rfl (Nat.le_of_ble_eq_true rfl) ?_
      exact r_iret hk hR dX11_nextBand_41 h
    · have h := if_f c4 h
      refine r_aload_n 24 hk dX11_nextBand_23 rfl 0 rfl rfl ?_
      refine r_aload_n 25 hk dX11_nextBand_24 rfl 0 rfl rfl ?_
      refine r_get 28 hk dX11_nextBand_25 rfl ff_RX11_21 (mk_11_0 (nx_11 hN (j := 0) (by decide))) (gv_11_16 _ _ _) ?_
      refine r_bipush 30 hk dX11_nextBand_28 rfl cb_49 ?_
      obtain ⟨b7, h⟩ := ck_e h
      refine r_iald 31 hk dX11_nextBand_30 rfl rfl (mk_11_17 (nx_11 hN (j := 0) (by decide))) rfl b7 ?_
      obtain ⟨r8, w9, ew9, h⟩ := ob_e h
      refine r_cVi 34 (As := [.int (((w 11 0).2.1 16 (49 : Int32).toNatClampNeg))]) (rest := []) hk (kX11_bandAt hN ew9) cf_RX11_294 mi_X11_bandAt ⟨TX11, 36, rfl⟩ dX11_nextBand_31 rfl (Nat.le_of_ble_eq_true rfl) (Nat.le_of_ble_eq_true rfl) (mk_11_0 (nx_11 hN (j := 0) (by decide))) rfl rfl (Nat.le_of_ble_eq_true rfl) ?_
      refine r_goto 41 hk (x := 0) dX11_nextBand_34 rfl ?_
      exact r_iret hk hR dX11_nextBand_41 h
  · have h := if_t c2 h
    refine r_bipush 12 hk dX11_nextBand_10 rfl cb_m2 ?_
    exact r_iret hk hR dX11_nextBand_12 h
def fX11_enters (nd : Nat) (w : Wd) (x1 : Int32) (x2 : Int32) (x3 : Int32) : Option (Unit × Wd) :=
  ck (inb ((49 + x1)) 110) <|
  lw (sA w 11 0 16 ((49 + x1) : Int32).toNatClampNeg (x2)) fun w2 =>
  ck (inb ((73 + x1)) 110) <|
  lw (sA w2 11 0 16 ((73 + x1) : Int32).toNatClampNeg (x3)) fun w4 =>
  some ((), w4)
set_option maxRecDepth 100000 in
set_option maxHeartbeats 4000000 in
theorem kX11_enters {l : Launch} {G : Gx} {al : Al} {w : Wd} {x1 : Int32} {x2 : Int32} {x3 : Int32} {r : Unit} {wz : Wd} (hN : NX G) (h : fX11_enters (gN G 10) w x1 x2 x3 = some (r, wz)) : MC l G yX11_enters cX11_enters 4 none 0 0 al w [.ref (al 11 0 0), .int x1, .int x2, .int x3] none wz := by
  refine mc_of [(0, .ref (al 11 0 0)), (1, .int x1), (2, .int x2), (3, .int x3)] (by decide) (Nat.le_of_ble_eq_true rfl) rfl ?_
  intro K hk hR hn hl hG
  subst hl; subst hG
  have hk : VH K RX11 cX11_enters 0 0 := hk
  rw [fX11_enters.eq_1] at h
  refine r_aload_n 1 hk dX11_enters_0 rfl 0 rfl rfl ?_
  refine r_get 4 hk dX11_enters_1 rfl ff_RX11_21 (mk_11_0 (nx_11 hN (j := 0) (by decide))) (gv_11_16 _ _ _) ?_
  refine r_bipush 6 hk dX11_enters_4 rfl cb_49 ?_
  refine r_iload_n 7 hk dX11_enters_6 rfl 1 rfl rfl ?_
  refine r_iadd 8 hk dX11_enters_7 rfl ?_
  refine r_iload_n 9 hk dX11_enters_8 rfl 2 rfl rfl ?_
  obtain ⟨b1, h⟩ := ck_e h
  obtain ⟨w2, ew2, h⟩ := lw_e h
  refine r_iast 10 w2 hk dX11_enters_9 rfl rfl (mk_11_17 (nx_11 hN (j := 0) (by decide))) rfl b1 ew2 ?_
  refine r_aload_n 11 hk dX11_enters_10 rfl 0 rfl rfl ?_
  refine r_get 14 hk dX11_enters_11 rfl ff_RX11_21 (mk_11_0 (nx_11 hN (j := 0) (by decide))) (gv_11_16 _ _ _) ?_
  refine r_bipush 16 hk dX11_enters_14 rfl cb_73 ?_
  refine r_iload_n 17 hk dX11_enters_16 rfl 1 rfl rfl ?_
  refine r_iadd 18 hk dX11_enters_17 rfl ?_
  refine r_iload_n 19 hk dX11_enters_18 rfl 3 rfl rfl ?_
  obtain ⟨b3, h⟩ := ck_e h
  obtain ⟨w4, ew4, h⟩ := lw_e h
  refine r_iast 20 w4 hk dX11_enters_19 rfl rfl (mk_11_17 (nx_11 hN (j := 0) (by decide))) rfl b3 ew4 ?_
  exact r_vret hk hR dX11_enters_20 h
def fX11_taken_69 (nd : Nat) : Nat → Wd → Int32 → Int32 → Option (Unit × Wd)
  | 0, _, _, _ => none
  | n + 1, w, x2, x3 =>
    if (24 : Int32) ≤ x3 then
      ck (inb (48) 110) <|
      lw (sA w 11 0 16 (48 : Int32).toNatClampNeg (x2)) fun w16 =>
      some ((), w16)
    else
      ob (fX11_enters nd w (x3) (0) (0)) fun _ w18 =>
      lw (x3 + 1) fun x3_19 =>
      fX11_taken_69 nd n w18 (x2) (x3_19)
def fX11_taken_4 (nd : Nat) : Nat → Wd → Int32 → Int32 → Int32 → Option (Unit × Wd)
  | 0, _, _, _, _ => none
  | n + 1, w, x1, x2, x3 =>
    ck (inb (48) 110) <|
    if (((w 11 0).2.1 16 (48 : Int32).toNatClampNeg) : Int32) ≤ x3 then
      fX11_taken_69 nd fuel0 w (x2) (x2)
    else
      ck (inb ((49 + x3)) 110) <|
      ob (fX11_isIn nd w (((w 11 0).2.1 16 ((49 + x3) : Int32).toNatClampNeg)) (x1)) fun r4 w5 =>
      if (r4 : Int32) = 0 then
        ck (inb ((49 + x3)) 110) <|
        ck (inb ((73 + x3)) 110) <|
        ob (fX11_enters nd w5 (x2) (((w5 11 0).2.1 16 ((49 + x3) : Int32).toNatClampNeg)) (((w5 11 0).2.1 16 ((73 + x3) : Int32).toNatClampNeg))) fun _ w10 =>
        lw (x2 + 1) fun x2_11 =>
        lw (x3 + 1) fun x3_12 =>
        fX11_taken_4 nd n w10 (x1) (x2_11) (x3_12)
      else
        lw (x3 + 1) fun x3_13 =>
        fX11_taken_4 nd n w5 (x1) (x2) (x3_13)
def fX11_taken (nd : Nat) (w : Wd) (x1 : Int32) : Option (Unit × Wd) :=
  fX11_taken_4 nd fuel0 w (x1) (0) (0)
set_option maxRecDepth 100000 in
set_option maxHeartbeats 4000000 in
theorem sX11_taken_69 {K : VC} {al : Al} {r : Unit} {wz : Wd}  (hk : VH K RX11 cX11_taken 1 23) (hR : VR K al none none wz) (hn : kn K = 4) (hN : NX (kG K)) : ∀ (n : Nat) (w : Wd) (x2 : Int32) (x3 : Int32), fX11_taken_69 (gN (kG K) 10) n w x2 x3 = some (r, wz) → V K al w 69 [(0, .ref (al 11 0 0)), (2, .int x2), (3, .int x3)] [] := by
  intro n
  induction n with
  | zero => intro w x2 x3 h; cases h
  | succ n ih =>
    intro w x2 x3 h
    rw [fX11_taken_69.eq_2] at h
    refine r_iload_n 70 hk dX11_taken_69 rfl 2 rfl rfl ?_
    refine r_bipush 72 hk dX11_taken_70 rfl cb_24 ?_
    refine r_icmp_ge 88 75 hk dX11_taken_72 rfl rfl (fun c14 => ?_) (fun c14 => ?_)
    · have h := if_t c14 h
      refine r_aload_n 89 hk dX11_taken_88 rfl 0 rfl rfl ?_
      refine r_get 92 hk dX11_taken_89 rfl ff_RX11_21 (mk_11_0 (nx_11 hN (j := 0) (by decide))) (gv_11_16 _ _ _) ?_
      refine r_bipush 94 hk dX11_taken_92 rfl cb_48 ?_
      refine r_iload_n 95 hk dX11_taken_94 rfl 1 rfl rfl ?_
      obtain ⟨b15, h⟩ := ck_e h
      obtain ⟨w16, ew16, h⟩ := lw_e h
      refine r_iast 96 w16 hk dX11_taken_95 rfl rfl (mk_11_17 (nx_11 hN (j := 0) (by decide))) rfl b15 ew16 ?_
      exact r_vret hk hR dX11_taken_96 h
    · have h := if_f c14 h
      refine r_aload_n 76 hk dX11_taken_75 rfl 0 rfl rfl ?_
      refine r_iload_n 77 hk dX11_taken_76 rfl 2 rfl rfl ?_
      refine r_iconst 78 hk dX11_taken_77 rfl ci_0 ?_
      refine r_iconst 79 hk dX11_taken_78 rfl ci_0 ?_
      obtain ⟨r17, w18, ew18, h⟩ := ob_e h
      refine r_cVv 82 (As := [.int x3, .int 0, .int 0]) (rest := []) hk (kX11_enters hN ew18) cf_RX11_303 mi_X11_enters ⟨TX11, 36, rfl⟩ dX11_taken_79 rfl (Nat.le_of_ble_eq_true rfl) (Nat.le_of_ble_eq_true rfl) (mk_11_0 (nx_11 hN (j := 0) (by decide))) rfl rfl (Nat.le_of_ble_eq_true rfl) ?_
      obtain ⟨x3_19, ex3_19, h⟩ := lw_e h
      refine r_iinc 85 [(3, .int x3_19), (0, .ref (al 11 0 0)), (2, .int x2)] hk (j := 2) dX11_taken_82 rfl hn (by decide) rfl ex3_19 rfl ?_
      refine r_goto 69 hk (x := 0) dX11_taken_85 rfl ?_
      refine r_sub [1, 2, 0] rfl ?_
      exact ih _ _ _ h
set_option maxRecDepth 100000 in
set_option maxHeartbeats 4000000 in
theorem sX11_taken_4 {K : VC} {al : Al} {r : Unit} {wz : Wd}  (hk : VH K RX11 cX11_taken 1 23) (hR : VR K al none none wz) (hn : kn K = 4) (hN : NX (kG K)) : ∀ (n : Nat) (w : Wd) (x1 : Int32) (x2 : Int32) (x3 : Int32), fX11_taken_4 (gN (kG K) 10) n w x1 x2 x3 = some (r, wz) → V K al w 4 [(0, .ref (al 11 0 0)), (1, .int x1), (2, .int x2), (3, .int x3)] [] := by
  intro n
  induction n with
  | zero => intro w x1 x2 x3 h; cases h
  | succ n ih =>
    intro w x1 x2 x3 h
    rw [fX11_taken_4.eq_2] at h
    refine r_iload_n 5 hk dX11_taken_4 rfl 3 rfl rfl ?_
    refine r_aload_n 6 hk dX11_taken_5 rfl 0 rfl rfl ?_
    refine r_get 9 hk dX11_taken_6 rfl ff_RX11_21 (mk_11_0 (nx_11 hN (j := 0) (by decide))) (gv_11_16 _ _ _) ?_
    refine r_bipush 11 hk dX11_taken_9 rfl cb_48 ?_
    obtain ⟨b1, h⟩ := ck_e h
    refine r_iald 12 hk dX11_taken_11 rfl rfl (mk_11_17 (nx_11 hN (j := 0) (by decide))) rfl b1 ?_
    refine r_icmp_ge 67 15 hk dX11_taken_12 rfl rfl (fun c2 => ?_) (fun c2 => ?_)
    · have h := if_t c2 h
      refine r_iload_n 68 hk dX11_taken_67 rfl 2 rfl rfl ?_
      refine r_istore_n 69 [(3, .int x2), (0, .ref (al 11 0 0)), (1, .int x1), (2, .int x2)] hk dX11_taken_68 rfl rfl hn (by decide) rfl rfl ?_
      refine r_sub [1, 3, 0] rfl ?_
      exact sX11_taken_69 hk hR hn hN _ _ _ _ h
    · have h := if_f c2 h
      refine r_aload_n 16 hk dX11_taken_15 rfl 0 rfl rfl ?_
      refine r_aload_n 17 hk dX11_taken_16 rfl 0 rfl rfl ?_
      refine r_get 20 hk dX11_taken_17 rfl ff_RX11_21 (mk_11_0 (nx_11 hN (j := 0) (by decide))) (gv_11_16 _ _ _) ?_
      refine r_bipush 22 hk dX11_taken_20 rfl cb_49 ?_
      refine r_iload_n 23 hk dX11_taken_22 rfl 3 rfl rfl ?_
      refine r_iadd 24 hk dX11_taken_23 rfl ?_
      obtain ⟨b3, h⟩ := ck_e h
      refine r_iald 25 hk dX11_taken_24 rfl rfl (mk_11_17 (nx_11 hN (j := 0) (by decide))) rfl b3 ?_
      refine r_iload_n 26 hk dX11_taken_25 rfl 1 rfl rfl ?_
      obtain ⟨r4, w5, ew5, h⟩ := ob_e h
      refine r_cVi 29 (As := [.int (((w 11 0).2.1 16 ((49 + x3) : Int32).toNatClampNeg)), .int x1]) (rest := []) hk (kX11_isIn hN ew5) cf_RX11_287 mi_X11_isIn ⟨TX11, 36, rfl⟩ dX11_taken_26 rfl (Nat.le_of_ble_eq_true rfl) (Nat.le_of_ble_eq_true rfl) (mk_11_0 (nx_11 hN (j := 0) (by decide))) rfl rfl (Nat.le_of_ble_eq_true rfl) ?_
      refine r_if_eq 35 32 hk dX11_taken_29 rfl rfl (fun c6 => ?_) (fun c6 => ?_)
      · have h := if_t c6 h
        refine r_aload_n 36 hk dX11_taken_35 rfl 0 rfl rfl ?_
        refine r_iload_n 37 hk dX11_taken_36 rfl 2 rfl rfl ?_
        refine r_aload_n 38 hk dX11_taken_37 rfl 0 rfl rfl ?_
        refine r_get 41 hk dX11_taken_38 rfl ff_RX11_21 (mk_11_0 (nx_11 hN (j := 0) (by decide))) (gv_11_16 _ _ _) ?_
        refine r_bipush 43 hk dX11_taken_41 rfl cb_49 ?_
        refine r_iload_n 44 hk dX11_taken_43 rfl 3 rfl rfl ?_
        refine r_iadd 45 hk dX11_taken_44 rfl ?_
        obtain ⟨b7, h⟩ := ck_e h
        refine r_iald 46 hk dX11_taken_45 rfl rfl (mk_11_17 (nx_11 hN (j := 0) (by decide))) rfl b7 ?_
        refine r_aload_n 47 hk dX11_taken_46 rfl 0 rfl rfl ?_
        refine r_get 50 hk dX11_taken_47 rfl ff_RX11_21 (mk_11_0 (nx_11 hN (j := 0) (by decide))) (gv_11_16 _ _ _) ?_
        refine r_bipush 52 hk dX11_taken_50 rfl cb_73 ?_
        refine r_iload_n 53 hk dX11_taken_52 rfl 3 rfl rfl ?_
        refine r_iadd 54 hk dX11_taken_53 rfl ?_
        obtain ⟨b8, h⟩ := ck_e h
        refine r_iald 55 hk dX11_taken_54 rfl rfl (mk_11_17 (nx_11 hN (j := 0) (by decide))) rfl b8 ?_
        obtain ⟨r9, w10, ew10, h⟩ := ob_e h
        refine r_cVv 58 (As := [.int x2, .int (((w5 11 0).2.1 16 ((49 + x3) : Int32).toNatClampNeg)), .int (((w5 11 0).2.1 16 ((73 + x3) : Int32).toNatClampNeg))]) (rest := []) hk (kX11_enters hN ew10) cf_RX11_303 mi_X11_enters ⟨TX11, 36, rfl⟩ dX11_taken_55 rfl (Nat.le_of_ble_eq_true rfl) (Nat.le_of_ble_eq_true rfl) (mk_11_0 (nx_11 hN (j := 0) (by decide))) rfl rfl (Nat.le_of_ble_eq_true rfl) ?_
        obtain ⟨x2_11, ex2_11, h⟩ := lw_e h
        refine r_iinc 61 [(2, .int x2_11), (0, .ref (al 11 0 0)), (1, .int x1), (3, .int x3)] hk (j := 2) dX11_taken_58 rfl hn (by decide) rfl ex2_11 rfl ?_
        obtain ⟨x3_12, ex3_12, h⟩ := lw_e h
        refine r_iinc 64 [(3, .int x3_12), (2, .int x2_11), (0, .ref (al 11 0 0)), (1, .int x1)] hk (j := 3) dX11_taken_61 rfl hn (by decide) rfl ex3_12 rfl ?_
        refine r_goto 4 hk (x := 0) dX11_taken_64 rfl ?_
        refine r_sub [2, 3, 1, 0] rfl ?_
        exact ih _ _ _ _ h
      · have h := if_f c6 h
        refine r_goto 61 hk (x := 0) dX11_taken_32 rfl ?_
        obtain ⟨x3_13, ex3_13, h⟩ := lw_e h
        refine r_iinc 64 [(3, .int x3_13), (0, .ref (al 11 0 0)), (1, .int x1), (2, .int x2)] hk (j := 3) dX11_taken_61 rfl hn (by decide) rfl ex3_13 rfl ?_
        refine r_goto 4 hk (x := 0) dX11_taken_64 rfl ?_
        refine r_sub [1, 2, 3, 0] rfl ?_
        exact ih _ _ _ _ h
set_option maxRecDepth 100000 in
set_option maxHeartbeats 4000000 in
theorem kX11_taken {l : Launch} {G : Gx} {al : Al} {w : Wd} {x1 : Int32} {r : Unit} {wz : Wd} (hN : NX G) (h : fX11_taken (gN G 10) w x1 = some (r, wz)) : MC l G yX11_taken cX11_taken 4 none 1 23 al w [.ref (al 11 0 0), .int x1] none wz := by
  refine mc_of [(0, .ref (al 11 0 0)), (1, .int x1)] (by decide) (Nat.le_of_ble_eq_true rfl) rfl ?_
  intro K hk hR hn hl hG
  subst hl; subst hG
  have hk : VH K RX11 cX11_taken 1 23 := hk
  rw [fX11_taken.eq_1] at h
  refine r_iconst 1 hk dX11_taken_0 rfl ci_0 ?_
  refine r_istore_n 2 [(2, .int 0), (0, .ref (al 11 0 0)), (1, .int x1)] hk dX11_taken_1 rfl rfl hn (by decide) rfl rfl ?_
  refine r_iconst 3 hk dX11_taken_2 rfl ci_0 ?_
  refine r_istore_n 4 [(3, .int 0), (2, .int 0), (0, .ref (al 11 0 0)), (1, .int x1)] hk dX11_taken_3 rfl rfl hn (by decide) rfl rfl ?_
  refine r_sub [2, 3, 1, 0] rfl ?_
  exact sX11_taken_4 hk hR hn hN _ _ _ _ _ h
def fX11_stepsOf (nd : Nat) (w : Wd) (x1 : Int32) : Option (Int32 × Wd) :=
  ck (inb (x1) 24) <|
  some (((2 * ((w 11 0).2.1 22 (x1 : Int32).toNatClampNeg)) + 2), w)
set_option maxRecDepth 100000 in
set_option maxHeartbeats 4000000 in
theorem kX11_stepsOf {l : Launch} {G : Gx} {al : Al} {w : Wd} {x1 : Int32} {r : Int32} {wz : Wd} (hN : NX G) (h : fX11_stepsOf (gN G 10) w x1 = some (r, wz)) : MC l G yX11_stepsOf cX11_stepsOf 2 (some (.int)) 0 0 al w [.ref (al 11 0 0), .int x1] (some (.int r)) wz := by
  refine mc_of [(0, .ref (al 11 0 0)), (1, .int x1)] (by decide) (Nat.le_of_ble_eq_true rfl) rfl ?_
  intro K hk hR hn hl hG
  subst hl; subst hG
  have hk : VH K RX11 cX11_stepsOf 0 0 := hk
  rw [fX11_stepsOf.eq_1] at h
  refine r_iconst 1 hk dX11_stepsOf_0 rfl ci_2 ?_
  refine r_aload_n 2 hk dX11_stepsOf_1 rfl 0 rfl rfl ?_
  refine r_get 5 hk dX11_stepsOf_2 rfl ff_RX11_33 (mk_11_0 (nx_11 hN (j := 0) (by decide))) (gv_11_22 _ _ _) ?_
  refine r_iload_n 6 hk dX11_stepsOf_5 rfl 1 rfl rfl ?_
  obtain ⟨b1, h⟩ := ck_e h
  refine r_iald 7 hk dX11_stepsOf_6 rfl rfl (mk_11_23 (nx_11 hN (j := 0) (by decide))) rfl b1 ?_
  refine r_imul 8 hk dX11_stepsOf_7 rfl ?_
  refine r_iconst 9 hk dX11_stepsOf_8 rfl ci_2 ?_
  refine r_iadd 10 hk dX11_stepsOf_9 rfl ?_
  exact r_iret hk hR dX11_stepsOf_10 h
def fX11_laid_64 (nd : Nat) (w : Wd) : Option (Unit × Wd) :=
    ck (inb (109) 110) <|
    ck (inb (109) 110) <|
    lw (sA w 11 0 16 (109 : Int32).toNatClampNeg ((((w 11 0).2.1 16 (109 : Int32).toNatClampNeg) + 1))) fun w15 =>
    some ((), w15)
def fX11_laid_21 (nd : Nat) : Nat → Wd → Int32 → Int32 → Int32 → Option (Unit × Wd)
  | 0, _, _, _, _ => none
  | n + 1, w, x1, x4, x5 =>
    ckp ((w 11 0).2.2.1 3) nd fun q5 =>
    if (((w 10 q5).1 0) : Int32) < x5 then
      fX11_laid_64 nd w 
    else
      ob (fX11_isIn nd w ((x4 + x5)) (x1)) fun r7 w8 =>
      if (r7 : Int32) = 0 then
        fX11_laid_64 nd w8 
      else
        ck (inb ((x4 + x5)) 110) <|
        lw (sA w8 11 0 16 ((x4 + x5) : Int32).toNatClampNeg ((-2))) fun w11 =>
        lw (x5 + 1) fun x5_12 =>
        fX11_laid_21 nd n w11 (x1) (x4) (x5_12)
def fX11_laid (nd : Nat) (w : Wd) (x1 : Int32) (x2 : Int32) (x3 : Int32) : Option (Unit × Wd) :=
  ck (inb (x1) 24) <|
  lw ((((w 11 0).2.1 21 (x1 : Int32).toNatClampNeg) + x2)) fun x4_2 =>
  ck (inb (x4_2) 110) <|
  lw (sA w 11 0 16 (x4_2 : Int32).toNatClampNeg (x3)) fun w4 =>
  fX11_laid_21 nd fuel0 w4 (x1) (x4_2) (1)
set_option maxRecDepth 100000 in
set_option maxHeartbeats 4000000 in
theorem sX11_laid_64 {K : VC} {al : Al} {r : Unit} {wz : Wd}  (hk : VH K RX11 cX11_laid 1 22) (hR : VR K al none none wz) (hn : kn K = 6) (hN : NX (kG K)) (w : Wd) (h : fX11_laid_64 (gN (kG K) 10) w = some (r, wz)) : V K al w 64 [(0, .ref (al 11 0 0))] [] := by
  rw [fX11_laid_64.eq_1] at h
  refine r_aload_n 65 hk dX11_laid_64 rfl 0 rfl rfl ?_
  refine r_get 68 hk dX11_laid_65 rfl ff_RX11_21 (mk_11_0 (nx_11 hN (j := 0) (by decide))) (gv_11_16 _ _ _) ?_
  refine r_bipush 70 hk dX11_laid_68 rfl cb_109 ?_
  refine r_dup2 71 hk dX11_laid_70 rfl rfl rfl ?_
  obtain ⟨b13, h⟩ := ck_e h
  refine r_iald 72 hk dX11_laid_71 rfl rfl (mk_11_17 (nx_11 hN (j := 0) (by decide))) rfl b13 ?_
  refine r_iconst 73 hk dX11_laid_72 rfl ci_1 ?_
  refine r_iadd 74 hk dX11_laid_73 rfl ?_
  obtain ⟨b14, h⟩ := ck_e h
  obtain ⟨w15, ew15, h⟩ := lw_e h
  refine r_iast 75 w15 hk dX11_laid_74 rfl rfl (mk_11_17 (nx_11 hN (j := 0) (by decide))) rfl b14 ew15 ?_
  exact r_vret hk hR dX11_laid_75 h
set_option maxRecDepth 100000 in
set_option maxHeartbeats 4000000 in
theorem sX11_laid_21 {K : VC} {al : Al} {r : Unit} {wz : Wd}  (hk : VH K RX11 cX11_laid 1 22) (hR : VR K al none none wz) (hn : kn K = 6) (hN : NX (kG K)) : ∀ (n : Nat) (w : Wd) (x1 : Int32) (x4 : Int32) (x5 : Int32), fX11_laid_21 (gN (kG K) 10) n w x1 x4 x5 = some (r, wz) → V K al w 21 [(0, .ref (al 11 0 0)), (1, .int x1), (4, .int x4), (5, .int x5)] [] := by
  intro n
  induction n with
  | zero => intro w x1 x4 x5 h; cases h
  | succ n ih =>
    intro w x1 x4 x5 h
    rw [fX11_laid_21.eq_2] at h
    refine r_iload 23 hk dX11_laid_21 rfl 3 rfl ?_
    refine r_aload_n 24 hk dX11_laid_23 rfl 0 rfl rfl ?_
    refine r_get 27 hk dX11_laid_24 rfl ff_RX11_260 (mk_11_0 (nx_11 hN (j := 0) (by decide))) (gv_11_3 _ _ _) ?_
    obtain ⟨q5, eq5, lq5, h⟩ := ckp_e h
    refine r_pv1 eq5 ?_
    refine r_get 30 hk dX11_laid_27 rfl ff_RX11_143 (mk_10_0 lq5) (gv_10_0 _ _ _) ?_
    refine r_icmp_gt 64 33 hk dX11_laid_30 rfl rfl (fun c6 => ?_) (fun c6 => ?_)
    · have h := if_t c6 h
      refine r_sub [0] rfl ?_
      exact sX11_laid_64 hk hR hn hN _ h
    · have h := if_f c6 h
      refine r_aload_n 34 hk dX11_laid_33 rfl 0 rfl rfl ?_
      refine r_iload 36 hk dX11_laid_34 rfl 2 rfl ?_
      refine r_iload 38 hk dX11_laid_36 rfl 3 rfl ?_
      refine r_iadd 39 hk dX11_laid_38 rfl ?_
      refine r_iload_n 40 hk dX11_laid_39 rfl 1 rfl rfl ?_
      obtain ⟨r7, w8, ew8, h⟩ := ob_e h
      refine r_cVi 43 (As := [.int ((x4 + x5)), .int x1]) (rest := []) hk (kX11_isIn hN ew8) cf_RX11_287 mi_X11_isIn ⟨TX11, 36, rfl⟩ dX11_laid_40 rfl (Nat.le_of_ble_eq_true rfl) (Nat.le_of_ble_eq_true rfl) (mk_11_0 (nx_11 hN (j := 0) (by decide))) rfl rfl (Nat.le_of_ble_eq_true rfl) ?_
      refine r_if_eq 64 46 hk dX11_laid_43 rfl rfl (fun c9 => ?_) (fun c9 => ?_)
      · have h := if_t c9 h
        refine r_sub [0] rfl ?_
        exact sX11_laid_64 hk hR hn hN _ h
      · have h := if_f c9 h
        refine r_aload_n 47 hk dX11_laid_46 rfl 0 rfl rfl ?_
        refine r_get 50 hk dX11_laid_47 rfl ff_RX11_21 (mk_11_0 (nx_11 hN (j := 0) (by decide))) (gv_11_16 _ _ _) ?_
        refine r_iload 52 hk dX11_laid_50 rfl 2 rfl ?_
        refine r_iload 54 hk dX11_laid_52 rfl 3 rfl ?_
        refine r_iadd 55 hk dX11_laid_54 rfl ?_
        refine r_bipush 57 hk dX11_laid_55 rfl cb_m2 ?_
        obtain ⟨b10, h⟩ := ck_e h
        obtain ⟨w11, ew11, h⟩ := lw_e h
        refine r_iast 58 w11 hk dX11_laid_57 rfl rfl (mk_11_17 (nx_11 hN (j := 0) (by decide))) rfl b10 ew11 ?_
        obtain ⟨x5_12, ex5_12, h⟩ := lw_e h
        refine r_iinc 61 [(5, .int x5_12), (0, .ref (al 11 0 0)), (1, .int x1), (4, .int x4)] hk (j := 3) dX11_laid_58 rfl hn (by decide) rfl ex5_12 rfl ?_
        refine r_goto 21 hk (x := 0) dX11_laid_61 rfl ?_
        refine r_sub [1, 2, 3, 0] rfl ?_
        exact ih _ _ _ _ h
set_option maxRecDepth 100000 in
set_option maxHeartbeats 4000000 in
theorem kX11_laid {l : Launch} {G : Gx} {al : Al} {w : Wd} {x1 : Int32} {x2 : Int32} {x3 : Int32} {r : Unit} {wz : Wd} (hN : NX G) (h : fX11_laid (gN G 10) w x1 x2 x3 = some (r, wz)) : MC l G yX11_laid cX11_laid 6 none 1 22 al w [.ref (al 11 0 0), .int x1, .int x2, .int x3] none wz := by
  refine mc_of [(0, .ref (al 11 0 0)), (1, .int x1), (2, .int x2), (3, .int x3)] (by decide) (Nat.le_of_ble_eq_true rfl) rfl ?_
  intro K hk hR hn hl hG
  subst hl; subst hG
  have hk : VH K RX11 cX11_laid 1 22 := hk
  rw [fX11_laid.eq_1] at h
  refine r_aload_n 1 hk dX11_laid_0 rfl 0 rfl rfl ?_
  refine r_get 4 hk dX11_laid_1 rfl ff_RX11_30 (mk_11_0 (nx_11 hN (j := 0) (by decide))) (gv_11_21 _ _ _) ?_
  refine r_iload_n 5 hk dX11_laid_4 rfl 1 rfl rfl ?_
  obtain ⟨b1, h⟩ := ck_e h
  refine r_iald 6 hk dX11_laid_5 rfl rfl (mk_11_22 (nx_11 hN (j := 0) (by decide))) rfl b1 ?_
  refine r_iload_n 7 hk dX11_laid_6 rfl 2 rfl rfl ?_
  refine r_iadd 8 hk dX11_laid_7 rfl ?_
  obtain ⟨x4_2, ex4_2, h⟩ := lw_e h
  refine r_istore 10 [(4, .int x4_2), (0, .ref (al 11 0 0)), (1, .int x1), (2, .int x2), (3, .int x3)] hk dX11_laid_8 rfl hn (by decide) ex4_2 rfl ?_
  refine r_aload_n 11 hk dX11_laid_10 rfl 1 rfl rfl ?_
  refine r_get 14 hk dX11_laid_11 rfl ff_RX11_21 (mk_11_0 (nx_11 hN (j := 0) (by decide))) (gv_11_16 _ _ _) ?_
  refine r_iload 16 hk dX11_laid_14 rfl 0 rfl ?_
  refine r_iload_n 17 hk dX11_laid_16 rfl 4 rfl rfl ?_
  obtain ⟨b3, h⟩ := ck_e h
  obtain ⟨w4, ew4, h⟩ := lw_e h
  refine r_iast 18 w4 hk dX11_laid_17 rfl rfl (mk_11_17 (nx_11 hN (j := 0) (by decide))) rfl b3 ew4 ?_
  refine r_iconst 19 hk dX11_laid_18 rfl ci_1 ?_
  refine r_istore 21 [(5, .int 1), (4, .int x4_2), (0, .ref (al 11 0 0)), (1, .int x1), (2, .int x2), (3, .int x3)] hk dX11_laid_19 rfl hn (by decide) rfl rfl ?_
  refine r_sub [2, 3, 1, 0] rfl ?_
  exact sX11_laid_21 hk hR hn hN _ _ _ _ _ h
def fX11_emptied_26 (nd : Nat) : Nat → Wd → Int32 → Option (Unit × Wd)
  | 0, _, _ => none
  | n + 1, w, x1 =>
    if (8 : Int32) ≤ x1 then
      some ((), w)
    else
      ck (inb ((101 + x1)) 110) <|
      lw (sA w 11 0 16 ((101 + x1) : Int32).toNatClampNeg (0)) fun w9 =>
      lw (x1 + 1) fun x1_10 =>
      fX11_emptied_26 nd n w9 (x1_10)
def fX11_emptied (nd : Nat) (w : Wd) : Option (Unit × Wd) :=
  ck (inb (98) 110) <|
  lw (sA w 11 0 16 (98 : Int32).toNatClampNeg (0)) fun w2 =>
  ck (inb (99) 110) <|
  lw (sA w2 11 0 16 (99 : Int32).toNatClampNeg (0)) fun w4 =>
  ck (inb (100) 110) <|
  lw (sA w4 11 0 16 (100 : Int32).toNatClampNeg (0)) fun w6 =>
  fX11_emptied_26 nd fuel0 w6 (0)
set_option maxRecDepth 100000 in
set_option maxHeartbeats 4000000 in
theorem sX11_emptied_26 {K : VC} {al : Al} {r : Unit} {wz : Wd}  (hk : VH K RX11 cX11_emptied 0 0) (hR : VR K al none none wz) (hn : kn K = 2) (hN : NX (kG K)) : ∀ (n : Nat) (w : Wd) (x1 : Int32), fX11_emptied_26 (gN (kG K) 10) n w x1 = some (r, wz) → V K al w 26 [(0, .ref (al 11 0 0)), (1, .int x1)] [] := by
  intro n
  induction n with
  | zero => intro w x1 h; cases h
  | succ n ih =>
    intro w x1 h
    rw [fX11_emptied_26.eq_2] at h
    refine r_iload_n 27 hk dX11_emptied_26 rfl 1 rfl rfl ?_
    refine r_bipush 29 hk dX11_emptied_27 rfl cb_8 ?_
    refine r_icmp_ge 48 32 hk dX11_emptied_29 rfl rfl (fun c7 => ?_) (fun c7 => ?_)
    · have h := if_t c7 h
      exact r_vret hk hR dX11_emptied_48 h
    · have h := if_f c7 h
      refine r_aload_n 33 hk dX11_emptied_32 rfl 0 rfl rfl ?_
      refine r_get 36 hk dX11_emptied_33 rfl ff_RX11_21 (mk_11_0 (nx_11 hN (j := 0) (by decide))) (gv_11_16 _ _ _) ?_
      refine r_bipush 38 hk dX11_emptied_36 rfl cb_101 ?_
      refine r_iload_n 39 hk dX11_emptied_38 rfl 1 rfl rfl ?_
      refine r_iadd 40 hk dX11_emptied_39 rfl ?_
      refine r_iconst 41 hk dX11_emptied_40 rfl ci_0 ?_
      obtain ⟨b8, h⟩ := ck_e h
      obtain ⟨w9, ew9, h⟩ := lw_e h
      refine r_iast 42 w9 hk dX11_emptied_41 rfl rfl (mk_11_17 (nx_11 hN (j := 0) (by decide))) rfl b8 ew9 ?_
      obtain ⟨x1_10, ex1_10, h⟩ := lw_e h
      refine r_iinc 45 [(1, .int x1_10), (0, .ref (al 11 0 0))] hk (j := 1) dX11_emptied_42 rfl hn (by decide) rfl ex1_10 rfl ?_
      refine r_goto 26 hk (x := 0) dX11_emptied_45 rfl ?_
      refine r_sub [1, 0] rfl ?_
      exact ih _ _ h
set_option maxRecDepth 100000 in
set_option maxHeartbeats 4000000 in
theorem kX11_emptied {l : Launch} {G : Gx} {al : Al} {w : Wd} {r : Unit} {wz : Wd} (hN : NX G) (h : fX11_emptied (gN G 10) w = some (r, wz)) : MC l G yX11_emptied cX11_emptied 2 none 0 0 al w [.ref (al 11 0 0)] none wz := by
  refine mc_of [(0, .ref (al 11 0 0))] (by decide) (Nat.le_of_ble_eq_true rfl) rfl ?_
  intro K hk hR hn hl hG
  subst hl; subst hG
  have hk : VH K RX11 cX11_emptied 0 0 := hk
  rw [fX11_emptied.eq_1] at h
  refine r_aload_n 1 hk dX11_emptied_0 rfl 0 rfl rfl ?_
  refine r_get 4 hk dX11_emptied_1 rfl ff_RX11_21 (mk_11_0 (nx_11 hN (j := 0) (by decide))) (gv_11_16 _ _ _) ?_
  refine r_bipush 6 hk dX11_emptied_4 rfl cb_98 ?_
  refine r_iconst 7 hk dX11_emptied_6 rfl ci_0 ?_
  obtain ⟨b1, h⟩ := ck_e h
  obtain ⟨w2, ew2, h⟩ := lw_e h
  refine r_iast 8 w2 hk dX11_emptied_7 rfl rfl (mk_11_17 (nx_11 hN (j := 0) (by decide))) rfl b1 ew2 ?_
  refine r_aload_n 9 hk dX11_emptied_8 rfl 0 rfl rfl ?_
  refine r_get 12 hk dX11_emptied_9 rfl ff_RX11_21 (mk_11_0 (nx_11 hN (j := 0) (by decide))) (gv_11_16 _ _ _) ?_
  refine r_bipush 14 hk dX11_emptied_12 rfl cb_99 ?_
  refine r_iconst 15 hk dX11_emptied_14 rfl ci_0 ?_
  obtain ⟨b3, h⟩ := ck_e h
  obtain ⟨w4, ew4, h⟩ := lw_e h
  refine r_iast 16 w4 hk dX11_emptied_15 rfl rfl (mk_11_17 (nx_11 hN (j := 0) (by decide))) rfl b3 ew4 ?_
  refine r_aload_n 17 hk dX11_emptied_16 rfl 0 rfl rfl ?_
  refine r_get 20 hk dX11_emptied_17 rfl ff_RX11_21 (mk_11_0 (nx_11 hN (j := 0) (by decide))) (gv_11_16 _ _ _) ?_
  refine r_bipush 22 hk dX11_emptied_20 rfl cb_100 ?_
  refine r_iconst 23 hk dX11_emptied_22 rfl ci_0 ?_
  obtain ⟨b5, h⟩ := ck_e h
  obtain ⟨w6, ew6, h⟩ := lw_e h
  refine r_iast 24 w6 hk dX11_emptied_23 rfl rfl (mk_11_17 (nx_11 hN (j := 0) (by decide))) rfl b5 ew6 ?_
  refine r_iconst 25 hk dX11_emptied_24 rfl ci_0 ?_
  refine r_istore_n 26 [(1, .int 0), (0, .ref (al 11 0 0))] hk dX11_emptied_25 rfl rfl hn (by decide) rfl rfl ?_
  refine r_sub [1, 0] rfl ?_
  exact sX11_emptied_26 hk hR hn hN _ _ _ h
def fX11_journaled (nd : Nat) (w : Wd) (x1 : Int32) (x2 : Int32) : Option (Unit × Wd) :=
  ck (inb (98) 110) <|
  lw (sA w 11 0 16 (98 : Int32).toNatClampNeg (x1)) fun w2 =>
  ck (inb (x1) 24) <|
  ob (fX11_readOf nd w2 ((((w2 11 0).2.1 21 (x1 : Int32).toNatClampNeg) + x2))) fun r4 w5 =>
  ck (inb ((101 + x2)) 110) <|
  lw (sA w5 11 0 16 ((101 + x2) : Int32).toNatClampNeg (r4)) fun w7 =>
  ck (inb (99) 110) <|
  ck (inb (99) 110) <|
  lw (sA w7 11 0 16 (99 : Int32).toNatClampNeg ((((w7 11 0).2.1 16 (99 : Int32).toNatClampNeg) + 1))) fun w10 =>
  ck (inb (109) 110) <|
  ck (inb (109) 110) <|
  lw (sA w10 11 0 16 (109 : Int32).toNatClampNeg ((((w10 11 0).2.1 16 (109 : Int32).toNatClampNeg) + 1))) fun w13 =>
  some ((), w13)
set_option maxRecDepth 100000 in
set_option maxHeartbeats 4000000 in
theorem kX11_journaled {l : Launch} {G : Gx} {al : Al} {w : Wd} {x1 : Int32} {x2 : Int32} {r : Unit} {wz : Wd} (hN : NX G) (h : fX11_journaled (gN G 10) w x1 x2 = some (r, wz)) : MC l G yX11_journaled cX11_journaled 3 none 2 44 al w [.ref (al 11 0 0), .int x1, .int x2] none wz := by
  refine mc_of [(0, .ref (al 11 0 0)), (1, .int x1), (2, .int x2)] (by decide) (Nat.le_of_ble_eq_true rfl) rfl ?_
  intro K hk hR hn hl hG
  subst hl; subst hG
  have hk : VH K RX11 cX11_journaled 2 44 := hk
  rw [fX11_journaled.eq_1] at h
  refine r_aload_n 1 hk dX11_journaled_0 rfl 0 rfl rfl ?_
  refine r_get 4 hk dX11_journaled_1 rfl ff_RX11_21 (mk_11_0 (nx_11 hN (j := 0) (by decide))) (gv_11_16 _ _ _) ?_
  refine r_bipush 6 hk dX11_journaled_4 rfl cb_98 ?_
  refine r_iload_n 7 hk dX11_journaled_6 rfl 1 rfl rfl ?_
  obtain ⟨b1, h⟩ := ck_e h
  obtain ⟨w2, ew2, h⟩ := lw_e h
  refine r_iast 8 w2 hk dX11_journaled_7 rfl rfl (mk_11_17 (nx_11 hN (j := 0) (by decide))) rfl b1 ew2 ?_
  refine r_aload_n 9 hk dX11_journaled_8 rfl 0 rfl rfl ?_
  refine r_get 12 hk dX11_journaled_9 rfl ff_RX11_21 (mk_11_0 (nx_11 hN (j := 0) (by decide))) (gv_11_16 _ _ _) ?_
  refine r_bipush 14 hk dX11_journaled_12 rfl cb_101 ?_
  refine r_iload_n 15 hk dX11_journaled_14 rfl 2 rfl rfl ?_
  refine r_iadd 16 hk dX11_journaled_15 rfl ?_
  refine r_aload_n 17 hk dX11_journaled_16 rfl 0 rfl rfl ?_
  refine r_aload_n 18 hk dX11_journaled_17 rfl 0 rfl rfl ?_
  refine r_get 21 hk dX11_journaled_18 rfl ff_RX11_30 (mk_11_0 (nx_11 hN (j := 0) (by decide))) (gv_11_21 _ _ _) ?_
  refine r_iload_n 22 hk dX11_journaled_21 rfl 1 rfl rfl ?_
  obtain ⟨b3, h⟩ := ck_e h
  refine r_iald 23 hk dX11_journaled_22 rfl rfl (mk_11_22 (nx_11 hN (j := 0) (by decide))) rfl b3 ?_
  refine r_iload_n 24 hk dX11_journaled_23 rfl 2 rfl rfl ?_
  refine r_iadd 25 hk dX11_journaled_24 rfl ?_
  obtain ⟨r4, w5, ew5, h⟩ := ob_e h
  refine r_cVi 28 (As := [.int ((((w2 11 0).2.1 21 (x1 : Int32).toNatClampNeg) + x2))]) (rest := [.int ((101 + x2)), .ref (al 11 0 17)]) hk (kX11_readOf hN ew5) cf_RX11_316 mi_X11_readOf ⟨TX11, 36, rfl⟩ dX11_journaled_25 rfl (Nat.le_of_ble_eq_true rfl) (Nat.le_of_ble_eq_true rfl) (mk_11_0 (nx_11 hN (j := 0) (by decide))) rfl rfl (Nat.le_of_ble_eq_true rfl) ?_
  obtain ⟨b6, h⟩ := ck_e h
  obtain ⟨w7, ew7, h⟩ := lw_e h
  refine r_iast 29 w7 hk dX11_journaled_28 rfl rfl (mk_11_17 (nx_11 hN (j := 0) (by decide))) rfl b6 ew7 ?_
  refine r_aload_n 30 hk dX11_journaled_29 rfl 0 rfl rfl ?_
  refine r_get 33 hk dX11_journaled_30 rfl ff_RX11_21 (mk_11_0 (nx_11 hN (j := 0) (by decide))) (gv_11_16 _ _ _) ?_
  refine r_bipush 35 hk dX11_journaled_33 rfl cb_99 ?_
  refine r_dup2 36 hk dX11_journaled_35 rfl rfl rfl ?_
  obtain ⟨b8, h⟩ := ck_e h
  refine r_iald 37 hk dX11_journaled_36 rfl rfl (mk_11_17 (nx_11 hN (j := 0) (by decide))) rfl b8 ?_
  refine r_iconst 38 hk dX11_journaled_37 rfl ci_1 ?_
  refine r_iadd 39 hk dX11_journaled_38 rfl ?_
  obtain ⟨b9, h⟩ := ck_e h
  obtain ⟨w10, ew10, h⟩ := lw_e h
  refine r_iast 40 w10 hk dX11_journaled_39 rfl rfl (mk_11_17 (nx_11 hN (j := 0) (by decide))) rfl b9 ew10 ?_
  refine r_aload_n 41 hk dX11_journaled_40 rfl 0 rfl rfl ?_
  refine r_get 44 hk dX11_journaled_41 rfl ff_RX11_21 (mk_11_0 (nx_11 hN (j := 0) (by decide))) (gv_11_16 _ _ _) ?_
  refine r_bipush 46 hk dX11_journaled_44 rfl cb_109 ?_
  refine r_dup2 47 hk dX11_journaled_46 rfl rfl rfl ?_
  obtain ⟨b11, h⟩ := ck_e h
  refine r_iald 48 hk dX11_journaled_47 rfl rfl (mk_11_17 (nx_11 hN (j := 0) (by decide))) rfl b11 ?_
  refine r_iconst 49 hk dX11_journaled_48 rfl ci_1 ?_
  refine r_iadd 50 hk dX11_journaled_49 rfl ?_
  obtain ⟨b12, h⟩ := ck_e h
  obtain ⟨w13, ew13, h⟩ := lw_e h
  refine r_iast 51 w13 hk dX11_journaled_50 rfl rfl (mk_11_17 (nx_11 hN (j := 0) (by decide))) rfl b12 ew13 ?_
  exact r_vret hk hR dX11_journaled_51 h
def fX11_ended (nd : Nat) (w : Wd) (x1 : Int32) : Option (Unit × Wd) :=
  ob (fX11_taken nd w (x1)) fun _ w2 =>
  ob (fX11_emptied nd w2 ) fun _ w4 =>
  some ((), w4)
set_option maxRecDepth 100000 in
set_option maxHeartbeats 4000000 in
theorem kX11_ended {l : Launch} {G : Gx} {al : Al} {w : Wd} {x1 : Int32} {r : Unit} {wz : Wd} (hN : NX G) (h : fX11_ended (gN G 10) w x1 = some (r, wz)) : MC l G yX11_ended cX11_ended 2 none 2 46 al w [.ref (al 11 0 0), .int x1] none wz := by
  refine mc_of [(0, .ref (al 11 0 0)), (1, .int x1)] (by decide) (Nat.le_of_ble_eq_true rfl) rfl ?_
  intro K hk hR hn hl hG
  subst hl; subst hG
  have hk : VH K RX11 cX11_ended 2 46 := hk
  rw [fX11_ended.eq_1] at h
  refine r_aload_n 1 hk dX11_ended_0 rfl 0 rfl rfl ?_
  refine r_iload_n 2 hk dX11_ended_1 rfl 1 rfl rfl ?_
  obtain ⟨r1, w2, ew2, h⟩ := ob_e h
  refine r_cVv 5 (As := [.int x1]) (rest := []) hk (kX11_taken hN ew2) cf_RX11_319 mi_X11_taken ⟨TX11, 36, rfl⟩ dX11_ended_2 rfl (Nat.le_of_ble_eq_true rfl) (Nat.le_of_ble_eq_true rfl) (mk_11_0 (nx_11 hN (j := 0) (by decide))) rfl rfl (Nat.le_of_ble_eq_true rfl) ?_
  refine r_aload_n 6 hk dX11_ended_5 rfl 0 rfl rfl ?_
  obtain ⟨r3, w4, ew4, h⟩ := ob_e h
  refine r_cVv 9 (As := []) (rest := []) hk (kX11_emptied hN ew4) cf_RX11_322 mi_X11_emptied ⟨TX11, 36, rfl⟩ dX11_ended_6 rfl (Nat.le_of_ble_eq_true rfl) (Nat.le_of_ble_eq_true rfl) (mk_11_0 (nx_11 hN (j := 0) (by decide))) rfl rfl (Nat.le_of_ble_eq_true rfl) ?_
  exact r_vret hk hR dX11_ended_9 h
def fX11_step (nd : Nat) (w : Wd) (x1 : Int32) (x2 : Int32) : Option (Unit × Wd) :=
  ck (inb (x1) 24) <|
  lw (((w 11 0).2.1 22 (x1 : Int32).toNatClampNeg)) fun x3_2 =>
  if (x3_2 : Int32) ≤ x2 then
    if (x2 : Int32) = x3_2 then
      ck (inb (100) 110) <|
      lw (sA w 11 0 16 (100 : Int32).toNatClampNeg (1)) fun w12 =>
      some ((), w12)
    else
      if ((2 * x3_2) : Int32) < x2 then
        ob (fX11_ended nd w (x1)) fun _ w7 =>
        some ((), w7)
      else
        ck (inb ((((101 + x2) - x3_2) - 1)) 110) <|
        ob (fX11_laid nd w (x1) (((x2 - x3_2) - 1)) (((w 11 0).2.1 16 ((((101 + x2) - x3_2) - 1) : Int32).toNatClampNeg))) fun _ w10 =>
        some ((), w10)
  else
    ob (fX11_journaled nd w (x1) (x2)) fun _ w14 =>
    some ((), w14)
set_option maxRecDepth 100000 in
set_option maxHeartbeats 4000000 in
theorem kX11_step {l : Launch} {G : Gx} {al : Al} {w : Wd} {x1 : Int32} {x2 : Int32} {r : Unit} {wz : Wd} (hN : NX G) (h : fX11_step (gN G 10) w x1 x2 = some (r, wz)) : MC l G yX11_step cX11_step 4 none 3 67 al w [.ref (al 11 0 0), .int x1, .int x2] none wz := by
  refine mc_of [(0, .ref (al 11 0 0)), (1, .int x1), (2, .int x2)] (by decide) (Nat.le_of_ble_eq_true rfl) rfl ?_
  intro K hk hR hn hl hG
  subst hl; subst hG
  have hk : VH K RX11 cX11_step 3 67 := hk
  rw [fX11_step.eq_1] at h
  refine r_aload_n 1 hk dX11_step_0 rfl 0 rfl rfl ?_
  refine r_get 4 hk dX11_step_1 rfl ff_RX11_33 (mk_11_0 (nx_11 hN (j := 0) (by decide))) (gv_11_22 _ _ _) ?_
  refine r_iload_n 5 hk dX11_step_4 rfl 1 rfl rfl ?_
  obtain ⟨b1, h⟩ := ck_e h
  refine r_iald 6 hk dX11_step_5 rfl rfl (mk_11_23 (nx_11 hN (j := 0) (by decide))) rfl b1 ?_
  obtain ⟨x3_2, ex3_2, h⟩ := lw_e h
  refine r_istore_n 7 [(3, .int x3_2), (0, .ref (al 11 0 0)), (1, .int x1), (2, .int x2)] hk dX11_step_6 rfl rfl hn (by decide) ex3_2 rfl ?_
  refine r_iload_n 8 hk dX11_step_7 rfl 3 rfl rfl ?_
  refine r_iload_n 9 hk dX11_step_8 rfl 0 rfl rfl ?_
  refine r_icmp_ge 21 12 hk dX11_step_9 rfl rfl (fun c3 => ?_) (fun c3 => ?_)
  · have h := if_t c3 h
    refine r_iload_n 22 hk dX11_step_21 rfl 3 rfl rfl ?_
    refine r_iload_n 23 hk dX11_step_22 rfl 0 rfl rfl ?_
    refine r_icmp_ne 37 26 hk dX11_step_23 rfl rfl (fun c4 => ?_) (fun c4 => ?_)
    · have h := if_f c4 h
      refine r_iload_n 38 hk dX11_step_37 rfl 3 rfl rfl ?_
      refine r_iconst 39 hk dX11_step_38 rfl ci_2 ?_
      refine r_iload_n 40 hk dX11_step_39 rfl 0 rfl rfl ?_
      refine r_imul 41 hk dX11_step_40 rfl ?_
      refine r_icmp_gt 70 44 hk dX11_step_41 rfl rfl (fun c5 => ?_) (fun c5 => ?_)
      · have h := if_t c5 h
        refine r_aload_n 71 hk dX11_step_70 rfl 1 rfl rfl ?_
        refine r_iload_n 72 hk dX11_step_71 rfl 2 rfl rfl ?_
        obtain ⟨r6, w7, ew7, h⟩ := ob_e h
        refine r_cVv 75 (As := [.int x1]) (rest := []) hk (kX11_ended hN ew7) cf_RX11_313 mi_X11_ended ⟨TX11, 36, rfl⟩ dX11_step_72 rfl (Nat.le_of_ble_eq_true rfl) (Nat.le_of_ble_eq_true rfl) (mk_11_0 (nx_11 hN (j := 0) (by decide))) rfl rfl (Nat.le_of_ble_eq_true rfl) ?_
        exact r_vret hk hR dX11_step_75 h
      · have h := if_f c5 h
        refine r_aload_n 45 hk dX11_step_44 rfl 1 rfl rfl ?_
        refine r_iload_n 46 hk dX11_step_45 rfl 2 rfl rfl ?_
        refine r_iload_n 47 hk dX11_step_46 rfl 3 rfl rfl ?_
        refine r_iload_n 48 hk dX11_step_47 rfl 0 rfl rfl ?_
        refine r_isub 49 hk dX11_step_48 rfl ?_
        refine r_iconst 50 hk dX11_step_49 rfl ci_1 ?_
        refine r_isub 51 hk dX11_step_50 rfl ?_
        refine r_aload_n 52 hk dX11_step_51 rfl 1 rfl rfl ?_
        refine r_get 55 hk dX11_step_52 rfl ff_RX11_21 (mk_11_0 (nx_11 hN (j := 0) (by decide))) (gv_11_16 _ _ _) ?_
        refine r_bipush 57 hk dX11_step_55 rfl cb_101 ?_
        refine r_iload_n 58 hk dX11_step_57 rfl 3 rfl rfl ?_
        refine r_iadd 59 hk dX11_step_58 rfl ?_
        refine r_iload_n 60 hk dX11_step_59 rfl 0 rfl rfl ?_
        refine r_isub 61 hk dX11_step_60 rfl ?_
        refine r_iconst 62 hk dX11_step_61 rfl ci_1 ?_
        refine r_isub 63 hk dX11_step_62 rfl ?_
        obtain ⟨b8, h⟩ := ck_e h
        refine r_iald 64 hk dX11_step_63 rfl rfl (mk_11_17 (nx_11 hN (j := 0) (by decide))) rfl b8 ?_
        obtain ⟨r9, w10, ew10, h⟩ := ob_e h
        refine r_cVv 67 (As := [.int x1, .int (((x2 - x3_2) - 1)), .int (((w 11 0).2.1 16 ((((101 + x2) - x3_2) - 1) : Int32).toNatClampNeg))]) (rest := []) hk (kX11_laid hN ew10) cf_RX11_310 mi_X11_laid ⟨TX11, 36, rfl⟩ dX11_step_64 rfl (Nat.le_of_ble_eq_true rfl) (Nat.le_of_ble_eq_true rfl) (mk_11_0 (nx_11 hN (j := 0) (by decide))) rfl rfl (Nat.le_of_ble_eq_true rfl) ?_
        refine r_goto 75 hk (x := 0) dX11_step_67 rfl ?_
        exact r_vret hk hR dX11_step_75 h
    · have h := if_t c4 h
      refine r_aload_n 27 hk dX11_step_26 rfl 1 rfl rfl ?_
      refine r_get 30 hk dX11_step_27 rfl ff_RX11_21 (mk_11_0 (nx_11 hN (j := 0) (by decide))) (gv_11_16 _ _ _) ?_
      refine r_bipush 32 hk dX11_step_30 rfl cb_100 ?_
      refine r_iconst 33 hk dX11_step_32 rfl ci_1 ?_
      obtain ⟨b11, h⟩ := ck_e h
      obtain ⟨w12, ew12, h⟩ := lw_e h
      refine r_iast 34 w12 hk dX11_step_33 rfl rfl (mk_11_17 (nx_11 hN (j := 0) (by decide))) rfl b11 ew12 ?_
      refine r_goto 75 hk (x := 0) dX11_step_34 rfl ?_
      exact r_vret hk hR dX11_step_75 h
  · have h := if_f c3 h
    refine r_aload_n 13 hk dX11_step_12 rfl 1 rfl rfl ?_
    refine r_iload_n 14 hk dX11_step_13 rfl 2 rfl rfl ?_
    refine r_iload_n 15 hk dX11_step_14 rfl 3 rfl rfl ?_
    obtain ⟨r13, w14, ew14, h⟩ := ob_e h
    refine r_cVv 18 (As := [.int x1, .int x2]) (rest := []) hk (kX11_journaled hN ew14) cf_RX11_307 mi_X11_journaled ⟨TX11, 36, rfl⟩ dX11_step_15 rfl (Nat.le_of_ble_eq_true rfl) (Nat.le_of_ble_eq_true rfl) (mk_11_0 (nx_11 hN (j := 0) (by decide))) rfl rfl (Nat.le_of_ble_eq_true rfl) ?_
    refine r_goto 75 hk (x := 0) dX11_step_18 rfl ?_
    exact r_vret hk hR dX11_step_75 h
def fX11_stepsTo_2 (nd : Nat) : Nat → Wd → Int32 → Int32 → Int32 → Option (Unit × Wd)
  | 0, _, _, _, _ => none
  | n + 1, w, x1, x2, x3 =>
    if (x2 : Int32) ≤ x3 then
      some ((), w)
    else
      ob (fX11_step nd w (x1) (x3)) fun _ w3 =>
      lw (x3 + 1) fun x3_4 =>
      fX11_stepsTo_2 nd n w3 (x1) (x2) (x3_4)
def fX11_stepsTo (nd : Nat) (w : Wd) (x1 : Int32) (x2 : Int32) : Option (Unit × Wd) :=
  fX11_stepsTo_2 nd fuel0 w (x1) (x2) (0)
set_option maxRecDepth 100000 in
set_option maxHeartbeats 4000000 in
theorem sX11_stepsTo_2 {K : VC} {al : Al} {r : Unit} {wz : Wd}  (hk : VH K RX11 cX11_stepsTo 4 90) (hR : VR K al none none wz) (hn : kn K = 4) (hN : NX (kG K)) : ∀ (n : Nat) (w : Wd) (x1 : Int32) (x2 : Int32) (x3 : Int32), fX11_stepsTo_2 (gN (kG K) 10) n w x1 x2 x3 = some (r, wz) → V K al w 2 [(0, .ref (al 11 0 0)), (1, .int x1), (2, .int x2), (3, .int x3)] [] := by
  intro n
  induction n with
  | zero => intro w x1 x2 x3 h; cases h
  | succ n ih =>
    intro w x1 x2 x3 h
    rw [fX11_stepsTo_2.eq_2] at h
    refine r_iload_n 3 hk dX11_stepsTo_2 rfl 3 rfl rfl ?_
    refine r_iload_n 4 hk dX11_stepsTo_3 rfl 2 rfl rfl ?_
    refine r_icmp_ge 19 7 hk dX11_stepsTo_4 rfl rfl (fun c1 => ?_) (fun c1 => ?_)
    · have h := if_t c1 h
      exact r_vret hk hR dX11_stepsTo_19 h
    · have h := if_f c1 h
      refine r_aload_n 8 hk dX11_stepsTo_7 rfl 0 rfl rfl ?_
      refine r_iload_n 9 hk dX11_stepsTo_8 rfl 1 rfl rfl ?_
      refine r_iload_n 10 hk dX11_stepsTo_9 rfl 3 rfl rfl ?_
      obtain ⟨r2, w3, ew3, h⟩ := ob_e h
      refine r_cVv 13 (As := [.int x1, .int x3]) (rest := []) hk (kX11_step hN ew3) cf_RX11_325 mi_X11_step ⟨TX11, 36, rfl⟩ dX11_stepsTo_10 rfl (Nat.le_of_ble_eq_true rfl) (Nat.le_of_ble_eq_true rfl) (mk_11_0 (nx_11 hN (j := 0) (by decide))) rfl rfl (Nat.le_of_ble_eq_true rfl) ?_
      obtain ⟨x3_4, ex3_4, h⟩ := lw_e h
      refine r_iinc 16 [(3, .int x3_4), (0, .ref (al 11 0 0)), (1, .int x1), (2, .int x2)] hk (j := 3) dX11_stepsTo_13 rfl hn (by decide) rfl ex3_4 rfl ?_
      refine r_goto 2 hk (x := 0) dX11_stepsTo_16 rfl ?_
      refine r_sub [1, 2, 3, 0] rfl ?_
      exact ih _ _ _ _ h
set_option maxRecDepth 100000 in
set_option maxHeartbeats 4000000 in
theorem kX11_stepsTo {l : Launch} {G : Gx} {al : Al} {w : Wd} {x1 : Int32} {x2 : Int32} {r : Unit} {wz : Wd} (hN : NX G) (h : fX11_stepsTo (gN G 10) w x1 x2 = some (r, wz)) : MC l G yX11_stepsTo cX11_stepsTo 4 none 4 90 al w [.ref (al 11 0 0), .int x1, .int x2] none wz := by
  refine mc_of [(0, .ref (al 11 0 0)), (1, .int x1), (2, .int x2)] (by decide) (Nat.le_of_ble_eq_true rfl) rfl ?_
  intro K hk hR hn hl hG
  subst hl; subst hG
  have hk : VH K RX11 cX11_stepsTo 4 90 := hk
  rw [fX11_stepsTo.eq_1] at h
  refine r_iconst 1 hk dX11_stepsTo_0 rfl ci_0 ?_
  refine r_istore_n 2 [(3, .int 0), (0, .ref (al 11 0 0)), (1, .int x1), (2, .int x2)] hk dX11_stepsTo_1 rfl rfl hn (by decide) rfl rfl ?_
  refine r_sub [1, 2, 3, 0] rfl ?_
  exact sX11_stepsTo_2 hk hR hn hN _ _ _ _ _ h
def fX11_cleans (nd : Nat) (w : Wd) (x1 : Int32) : Option (Int32 × Wd) :=
  ob (fX11_entriesOf nd w (x1) (0)) fun r1 w2 =>
  ob (fX11_stepsOf nd w2 (x1)) fun r3 w4 =>
  ob (fX11_stepsTo nd w4 (x1) (r3)) fun _ w6 =>
  lw (sI w6 11 0 25 ((((w6 11 0).1 25) + 1))) fun w7 =>
  some (r1, w7)
set_option maxRecDepth 100000 in
set_option maxHeartbeats 4000000 in
theorem kX11_cleans {l : Launch} {G : Gx} {al : Al} {w : Wd} {x1 : Int32} {r : Int32} {wz : Wd} (hN : NX G) (h : fX11_cleans (gN G 10) w x1 = some (r, wz)) : MC l G yX11_cleans cX11_cleans 3 (some (.int)) 5 113 al w [.ref (al 11 0 0), .int x1] (some (.int r)) wz := by
  refine mc_of [(0, .ref (al 11 0 0)), (1, .int x1)] (by decide) (Nat.le_of_ble_eq_true rfl) rfl ?_
  intro K hk hR hn hl hG
  subst hl; subst hG
  have hk : VH K RX11 cX11_cleans 5 113 := hk
  rw [fX11_cleans.eq_1] at h
  refine r_aload_n 1 hk dX11_cleans_0 rfl 0 rfl rfl ?_
  refine r_iload_n 2 hk dX11_cleans_1 rfl 1 rfl rfl ?_
  refine r_iconst 3 hk dX11_cleans_2 rfl ci_0 ?_
  obtain ⟨r1, w2, ew2, h⟩ := ob_e h
  refine r_cVi 6 (As := [.int x1, .int 0]) (rest := []) hk (kX11_entriesOf hN ew2) cf_RX11_299 mi_X11_entriesOf ⟨TX11, 36, rfl⟩ dX11_cleans_3 rfl (Nat.le_of_ble_eq_true rfl) (Nat.le_of_ble_eq_true rfl) (mk_11_0 (nx_11 hN (j := 0) (by decide))) rfl rfl (Nat.le_of_ble_eq_true rfl) ?_
  refine r_istore_n 7 [(2, .int r1), (0, .ref (al 11 0 0)), (1, .int x1)] hk dX11_cleans_6 rfl rfl hn (by decide) rfl rfl ?_
  refine r_aload_n 8 hk dX11_cleans_7 rfl 1 rfl rfl ?_
  refine r_iload_n 9 hk dX11_cleans_8 rfl 2 rfl rfl ?_
  refine r_aload_n 10 hk dX11_cleans_9 rfl 1 rfl rfl ?_
  refine r_iload_n 11 hk dX11_cleans_10 rfl 2 rfl rfl ?_
  obtain ⟨r3, w4, ew4, h⟩ := ob_e h
  refine r_cVi 14 (As := [.int x1]) (rest := [.int x1, .ref (al 11 0 0)]) hk (kX11_stepsOf hN ew4) cf_RX11_328 mi_X11_stepsOf ⟨TX11, 36, rfl⟩ dX11_cleans_11 rfl (Nat.le_of_ble_eq_true rfl) (Nat.le_of_ble_eq_true rfl) (mk_11_0 (nx_11 hN (j := 0) (by decide))) rfl rfl (Nat.le_of_ble_eq_true rfl) ?_
  obtain ⟨r5, w6, ew6, h⟩ := ob_e h
  refine r_cVv 17 (As := [.int x1, .int r3]) (rest := []) hk (kX11_stepsTo hN ew6) cf_RX11_331 mi_X11_stepsTo ⟨TX11, 36, rfl⟩ dX11_cleans_14 rfl (Nat.le_of_ble_eq_true rfl) (Nat.le_of_ble_eq_true rfl) (mk_11_0 (nx_11 hN (j := 0) (by decide))) rfl rfl (Nat.le_of_ble_eq_true rfl) ?_
  refine r_aload_n 18 hk dX11_cleans_17 rfl 1 rfl rfl ?_
  refine r_dup 19 hk dX11_cleans_18 rfl rfl ?_
  refine r_get 22 hk dX11_cleans_19 rfl ff_RX11_278 (mk_11_0 (nx_11 hN (j := 0) (by decide))) (gv_11_25 _ _ _) ?_
  refine r_iconst 23 hk dX11_cleans_22 rfl ci_1 ?_
  refine r_iadd 24 hk dX11_cleans_23 rfl ?_
  obtain ⟨w7, ew7, h⟩ := lw_e h
  refine r_putI 27 w7 hk dX11_cleans_24 rfl ff_RX11_278 fi_11_25 (mk_11_0 (nx_11 hN (j := 0) (by decide))) ew7 ?_
  refine r_iload_n 28 hk dX11_cleans_27 rfl 0 rfl rfl ?_
  exact r_iret hk hR dX11_cleans_28 h
def fX11_damagedIn_9 (nd : Nat) : Nat → Wd → Int32 → Int32 → Int32 → Option (Int32 × Wd)
  | 0, _, _, _, _ => none
  | n + 1, w, x1, x2, x3 =>
    ck (inb (x1) 24) <|
    ck (inb (x1) 24) <|
    if ((((w 11 0).2.1 21 (x1 : Int32).toNatClampNeg) + ((w 11 0).2.1 22 (x1 : Int32).toNatClampNeg)) : Int32) ≤ x3 then
      some (x2, w)
    else
      ck (inb (x3) 110) <|
      if (((w 11 0).2.1 16 (x3 : Int32).toNatClampNeg) : Int32) = (-2) then
        lw ((x2 + 1)) fun x2_10 =>
        lw (x3 + 1) fun x3_11 =>
        fX11_damagedIn_9 nd n w (x1) (x2_10) (x3_11)
      else
        lw ((x2 + 0)) fun x2_8 =>
        lw (x3 + 1) fun x3_9 =>
        fX11_damagedIn_9 nd n w (x1) (x2_8) (x3_9)
def fX11_damagedIn (nd : Nat) (w : Wd) (x1 : Int32) : Option (Int32 × Wd) :=
  ck (inb (x1) 24) <|
  lw (((w 11 0).2.1 21 (x1 : Int32).toNatClampNeg)) fun x3_2 =>
  fX11_damagedIn_9 nd fuel0 w (x1) (0) (x3_2)
set_option maxRecDepth 100000 in
set_option maxHeartbeats 4000000 in
theorem sX11_damagedIn_9 {K : VC} {al : Al} {r : Int32} {wz : Wd}  (hk : VH K RX11 cX11_damagedIn 0 0) (hR : VR K al (some (.int)) (some (.int r)) wz) (hn : kn K = 4) (hN : NX (kG K)) : ∀ (n : Nat) (w : Wd) (x1 : Int32) (x2 : Int32) (x3 : Int32), fX11_damagedIn_9 (gN (kG K) 10) n w x1 x2 x3 = some (r, wz) → V K al w 9 [(0, .ref (al 11 0 0)), (1, .int x1), (2, .int x2), (3, .int x3)] [] := by
  intro n
  induction n with
  | zero => intro w x1 x2 x3 h; cases h
  | succ n ih =>
    intro w x1 x2 x3 h
    rw [fX11_damagedIn_9.eq_2] at h
    refine r_iload_n 10 hk dX11_damagedIn_9 rfl 3 rfl rfl ?_
    refine r_aload_n 11 hk dX11_damagedIn_10 rfl 0 rfl rfl ?_
    refine r_get 14 hk dX11_damagedIn_11 rfl ff_RX11_30 (mk_11_0 (nx_11 hN (j := 0) (by decide))) (gv_11_21 _ _ _) ?_
    refine r_iload_n 15 hk dX11_damagedIn_14 rfl 1 rfl rfl ?_
    obtain ⟨b3, h⟩ := ck_e h
    refine r_iald 16 hk dX11_damagedIn_15 rfl rfl (mk_11_22 (nx_11 hN (j := 0) (by decide))) rfl b3 ?_
    refine r_aload_n 17 hk dX11_damagedIn_16 rfl 0 rfl rfl ?_
    refine r_get 20 hk dX11_damagedIn_17 rfl ff_RX11_33 (mk_11_0 (nx_11 hN (j := 0) (by decide))) (gv_11_22 _ _ _) ?_
    refine r_iload_n 21 hk dX11_damagedIn_20 rfl 1 rfl rfl ?_
    obtain ⟨b4, h⟩ := ck_e h
    refine r_iald 22 hk dX11_damagedIn_21 rfl rfl (mk_11_23 (nx_11 hN (j := 0) (by decide))) rfl b4 ?_
    refine r_iadd 23 hk dX11_damagedIn_22 rfl ?_
    refine r_icmp_ge 51 26 hk dX11_damagedIn_23 rfl rfl (fun c5 => ?_) (fun c5 => ?_)
    · have h := if_t c5 h
      refine r_iload_n 52 hk dX11_damagedIn_51 rfl 2 rfl rfl ?_
      exact r_iret hk hR dX11_damagedIn_52 h
    · have h := if_f c5 h
      refine r_iload_n 27 hk dX11_damagedIn_26 rfl 2 rfl rfl ?_
      refine r_aload_n 28 hk dX11_damagedIn_27 rfl 0 rfl rfl ?_
      refine r_get 31 hk dX11_damagedIn_28 rfl ff_RX11_21 (mk_11_0 (nx_11 hN (j := 0) (by decide))) (gv_11_16 _ _ _) ?_
      refine r_iload_n 32 hk dX11_damagedIn_31 rfl 3 rfl rfl ?_
      obtain ⟨b6, h⟩ := ck_e h
      refine r_iald 33 hk dX11_damagedIn_32 rfl rfl (mk_11_17 (nx_11 hN (j := 0) (by decide))) rfl b6 ?_
      refine r_bipush 35 hk dX11_damagedIn_33 rfl cb_m2 ?_
      refine r_icmp_ne 42 38 hk dX11_damagedIn_35 rfl rfl (fun c7 => ?_) (fun c7 => ?_)
      · have h := if_f c7 h
        refine r_iconst 43 hk dX11_damagedIn_42 rfl ci_0 ?_
        refine r_iadd 44 hk dX11_damagedIn_43 rfl ?_
        obtain ⟨x2_8, ex2_8, h⟩ := lw_e h
        refine r_istore_n 45 [(2, .int x2_8), (0, .ref (al 11 0 0)), (1, .int x1), (3, .int x3)] hk dX11_damagedIn_44 rfl rfl hn (by decide) ex2_8 rfl ?_
        obtain ⟨x3_9, ex3_9, h⟩ := lw_e h
        refine r_iinc 48 [(3, .int x3_9), (2, .int x2_8), (0, .ref (al 11 0 0)), (1, .int x1)] hk (j := 3) dX11_damagedIn_45 rfl hn (by decide) rfl ex3_9 rfl ?_
        refine r_goto 9 hk (x := 0) dX11_damagedIn_48 rfl ?_
        refine r_sub [2, 3, 1, 0] rfl ?_
        exact ih _ _ _ _ h
      · have h := if_t c7 h
        refine r_iconst 39 hk dX11_damagedIn_38 rfl ci_1 ?_
        refine r_goto 43 hk (x := 0) dX11_damagedIn_39 rfl ?_
        refine r_iadd 44 hk dX11_damagedIn_43 rfl ?_
        obtain ⟨x2_10, ex2_10, h⟩ := lw_e h
        refine r_istore_n 45 [(2, .int x2_10), (0, .ref (al 11 0 0)), (1, .int x1), (3, .int x3)] hk dX11_damagedIn_44 rfl rfl hn (by decide) ex2_10 rfl ?_
        obtain ⟨x3_11, ex3_11, h⟩ := lw_e h
        refine r_iinc 48 [(3, .int x3_11), (2, .int x2_10), (0, .ref (al 11 0 0)), (1, .int x1)] hk (j := 3) dX11_damagedIn_45 rfl hn (by decide) rfl ex3_11 rfl ?_
        refine r_goto 9 hk (x := 0) dX11_damagedIn_48 rfl ?_
        refine r_sub [2, 3, 1, 0] rfl ?_
        exact ih _ _ _ _ h
set_option maxRecDepth 100000 in
set_option maxHeartbeats 4000000 in
theorem kX11_damagedIn {l : Launch} {G : Gx} {al : Al} {w : Wd} {x1 : Int32} {r : Int32} {wz : Wd} (hN : NX G) (h : fX11_damagedIn (gN G 10) w x1 = some (r, wz)) : MC l G yX11_damagedIn cX11_damagedIn 4 (some (.int)) 0 0 al w [.ref (al 11 0 0), .int x1] (some (.int r)) wz := by
  refine mc_of [(0, .ref (al 11 0 0)), (1, .int x1)] (by decide) (Nat.le_of_ble_eq_true rfl) rfl ?_
  intro K hk hR hn hl hG
  subst hl; subst hG
  have hk : VH K RX11 cX11_damagedIn 0 0 := hk
  rw [fX11_damagedIn.eq_1] at h
  refine r_iconst 1 hk dX11_damagedIn_0 rfl ci_0 ?_
  refine r_istore_n 2 [(2, .int 0), (0, .ref (al 11 0 0)), (1, .int x1)] hk dX11_damagedIn_1 rfl rfl hn (by decide) rfl rfl ?_
  refine r_aload_n 3 hk dX11_damagedIn_2 rfl 1 rfl rfl ?_
  refine r_get 6 hk dX11_damagedIn_3 rfl ff_RX11_30 (mk_11_0 (nx_11 hN (j := 0) (by decide))) (gv_11_21 _ _ _) ?_
  refine r_iload_n 7 hk dX11_damagedIn_6 rfl 2 rfl rfl ?_
  obtain ⟨b1, h⟩ := ck_e h
  refine r_iald 8 hk dX11_damagedIn_7 rfl rfl (mk_11_22 (nx_11 hN (j := 0) (by decide))) rfl b1 ?_
  obtain ⟨x3_2, ex3_2, h⟩ := lw_e h
  refine r_istore_n 9 [(3, .int x3_2), (2, .int 0), (0, .ref (al 11 0 0)), (1, .int x1)] hk dX11_damagedIn_8 rfl rfl hn (by decide) ex3_2 rfl ?_
  refine r_sub [2, 3, 1, 0] rfl ?_
  exact sX11_damagedIn_9 hk hR hn hN _ _ _ _ _ h
def fX11_damagedNow_4 (nd : Nat) : Nat → Wd → Int32 → Int32 → Option (Int32 × Wd)
  | 0, _, _, _ => none
  | n + 1, w, x1, x2 =>
    if (((w 11 0).1 23) : Int32) ≤ x2 then
      some (x1, w)
    else
      ob (fX11_damagedIn nd w (x2)) fun r2 w3 =>
      lw ((x1 + r2)) fun x1_4 =>
      lw (x2 + 1) fun x2_5 =>
      fX11_damagedNow_4 nd n w3 (x1_4) (x2_5)
def fX11_damagedNow (nd : Nat) (w : Wd) : Option (Int32 × Wd) :=
  fX11_damagedNow_4 nd fuel0 w (0) (0)
set_option maxRecDepth 100000 in
set_option maxHeartbeats 4000000 in
theorem sX11_damagedNow_4 {K : VC} {al : Al} {r : Int32} {wz : Wd}  (hk : VH K RX11 cX11_damagedNow 1 23) (hR : VR K al (some (.int)) (some (.int r)) wz) (hn : kn K = 3) (hN : NX (kG K)) : ∀ (n : Nat) (w : Wd) (x1 : Int32) (x2 : Int32), fX11_damagedNow_4 (gN (kG K) 10) n w x1 x2 = some (r, wz) → V K al w 4 [(0, .ref (al 11 0 0)), (1, .int x1), (2, .int x2)] [] := by
  intro n
  induction n with
  | zero => intro w x1 x2 h; cases h
  | succ n ih =>
    intro w x1 x2 h
    rw [fX11_damagedNow_4.eq_2] at h
    refine r_iload_n 5 hk dX11_damagedNow_4 rfl 2 rfl rfl ?_
    refine r_aload_n 6 hk dX11_damagedNow_5 rfl 0 rfl rfl ?_
    refine r_get 9 hk dX11_damagedNow_6 rfl ff_RX11_274 (mk_11_0 (nx_11 hN (j := 0) (by decide))) (gv_11_23 _ _ _) ?_
    refine r_icmp_ge 26 12 hk dX11_damagedNow_9 rfl rfl (fun c1 => ?_) (fun c1 => ?_)
    · have h := if_t c1 h
      refine r_iload_n 27 hk dX11_damagedNow_26 rfl 1 rfl rfl ?_
      exact r_iret hk hR dX11_damagedNow_27 h
    · have h := if_f c1 h
      refine r_iload_n 13 hk dX11_damagedNow_12 rfl 1 rfl rfl ?_
      refine r_aload_n 14 hk dX11_damagedNow_13 rfl 0 rfl rfl ?_
      refine r_iload_n 15 hk dX11_damagedNow_14 rfl 2 rfl rfl ?_
      obtain ⟨r2, w3, ew3, h⟩ := ob_e h
      refine r_cVi 18 (As := [.int x2]) (rest := [.int x1]) hk (kX11_damagedIn hN ew3) cf_RX11_334 mi_X11_damagedIn ⟨TX11, 36, rfl⟩ dX11_damagedNow_15 rfl (Nat.le_of_ble_eq_true rfl) (Nat.le_of_ble_eq_true rfl) (mk_11_0 (nx_11 hN (j := 0) (by decide))) rfl rfl (Nat.le_of_ble_eq_true rfl) ?_
      refine r_iadd 19 hk dX11_damagedNow_18 rfl ?_
      obtain ⟨x1_4, ex1_4, h⟩ := lw_e h
      refine r_istore_n 20 [(1, .int x1_4), (0, .ref (al 11 0 0)), (2, .int x2)] hk dX11_damagedNow_19 rfl rfl hn (by decide) ex1_4 rfl ?_
      obtain ⟨x2_5, ex2_5, h⟩ := lw_e h
      refine r_iinc 23 [(2, .int x2_5), (1, .int x1_4), (0, .ref (al 11 0 0))] hk (j := 2) dX11_damagedNow_20 rfl hn (by decide) rfl ex2_5 rfl ?_
      refine r_goto 4 hk (x := 0) dX11_damagedNow_23 rfl ?_
      refine r_sub [2, 1, 0] rfl ?_
      exact ih _ _ _ h
set_option maxRecDepth 100000 in
set_option maxHeartbeats 4000000 in
theorem kX11_damagedNow {l : Launch} {G : Gx} {al : Al} {w : Wd} {r : Int32} {wz : Wd} (hN : NX G) (h : fX11_damagedNow (gN G 10) w = some (r, wz)) : MC l G yX11_damagedNow cX11_damagedNow 3 (some (.int)) 1 23 al w [.ref (al 11 0 0)] (some (.int r)) wz := by
  refine mc_of [(0, .ref (al 11 0 0))] (by decide) (Nat.le_of_ble_eq_true rfl) rfl ?_
  intro K hk hR hn hl hG
  subst hl; subst hG
  have hk : VH K RX11 cX11_damagedNow 1 23 := hk
  rw [fX11_damagedNow.eq_1] at h
  refine r_iconst 1 hk dX11_damagedNow_0 rfl ci_0 ?_
  refine r_istore_n 2 [(1, .int 0), (0, .ref (al 11 0 0))] hk dX11_damagedNow_1 rfl rfl hn (by decide) rfl rfl ?_
  refine r_iconst 3 hk dX11_damagedNow_2 rfl ci_0 ?_
  refine r_istore_n 4 [(2, .int 0), (1, .int 0), (0, .ref (al 11 0 0))] hk dX11_damagedNow_3 rfl rfl hn (by decide) rfl rfl ?_
  refine r_sub [2, 1, 0] rfl ?_
  exact sX11_damagedNow_4 hk hR hn hN _ _ _ _ h
def fX11_cuts (nd : Nat) (w : Wd) (x1 : Int32) (x2 : Int32) : Option (Int32 × Wd) :=
  ob (fX11_stepsTo nd w (x1) (x2)) fun _ w2 =>
  ck (inb (97) 110) <|
  lw (sA w2 11 0 16 (97 : Int32).toNatClampNeg (1)) fun w4 =>
  ob (fX11_damagedNow nd w4 ) fun r5 w6 =>
  some (r5, w6)
set_option maxRecDepth 100000 in
set_option maxHeartbeats 4000000 in
theorem kX11_cuts {l : Launch} {G : Gx} {al : Al} {w : Wd} {x1 : Int32} {x2 : Int32} {r : Int32} {wz : Wd} (hN : NX G) (h : fX11_cuts (gN G 10) w x1 x2 = some (r, wz)) : MC l G yX11_cuts cX11_cuts 3 (some (.int)) 5 113 al w [.ref (al 11 0 0), .int x1, .int x2] (some (.int r)) wz := by
  refine mc_of [(0, .ref (al 11 0 0)), (1, .int x1), (2, .int x2)] (by decide) (Nat.le_of_ble_eq_true rfl) rfl ?_
  intro K hk hR hn hl hG
  subst hl; subst hG
  have hk : VH K RX11 cX11_cuts 5 113 := hk
  rw [fX11_cuts.eq_1] at h
  refine r_aload_n 1 hk dX11_cuts_0 rfl 0 rfl rfl ?_
  refine r_iload_n 2 hk dX11_cuts_1 rfl 1 rfl rfl ?_
  refine r_iload_n 3 hk dX11_cuts_2 rfl 2 rfl rfl ?_
  obtain ⟨r1, w2, ew2, h⟩ := ob_e h
  refine r_cVv 6 (As := [.int x1, .int x2]) (rest := []) hk (kX11_stepsTo hN ew2) cf_RX11_331 mi_X11_stepsTo ⟨TX11, 36, rfl⟩ dX11_cuts_3 rfl (Nat.le_of_ble_eq_true rfl) (Nat.le_of_ble_eq_true rfl) (mk_11_0 (nx_11 hN (j := 0) (by decide))) rfl rfl (Nat.le_of_ble_eq_true rfl) ?_
  refine r_aload_n 7 hk dX11_cuts_6 rfl 0 rfl rfl ?_
  refine r_get 10 hk dX11_cuts_7 rfl ff_RX11_21 (mk_11_0 (nx_11 hN (j := 0) (by decide))) (gv_11_16 _ _ _) ?_
  refine r_bipush 12 hk dX11_cuts_10 rfl cb_97 ?_
  refine r_iconst 13 hk dX11_cuts_12 rfl ci_1 ?_
  obtain ⟨b3, h⟩ := ck_e h
  obtain ⟨w4, ew4, h⟩ := lw_e h
  refine r_iast 14 w4 hk dX11_cuts_13 rfl rfl (mk_11_17 (nx_11 hN (j := 0) (by decide))) rfl b3 ew4 ?_
  refine r_aload_n 15 hk dX11_cuts_14 rfl 0 rfl rfl ?_
  obtain ⟨r5, w6, ew6, h⟩ := ob_e h
  refine r_cVi 18 (As := []) (rest := []) hk (kX11_damagedNow hN ew6) cf_RX11_337 mi_X11_damagedNow ⟨TX11, 36, rfl⟩ dX11_cuts_15 rfl (Nat.le_of_ble_eq_true rfl) (Nat.le_of_ble_eq_true rfl) (mk_11_0 (nx_11 hN (j := 0) (by decide))) rfl rfl (Nat.le_of_ble_eq_true rfl) ?_
  exact r_iret hk hR dX11_cuts_18 h
def fX11_recovers_35 (nd : Nat) : Nat → Wd → Int32 → Int32 → Option (Int32 × Wd)
  | 0, _, _, _ => none
  | n + 1, w, x1, x2 =>
    ck (inb (x1) 24) <|
    if (((w 11 0).2.1 22 (x1 : Int32).toNatClampNeg) : Int32) ≤ x2 then
      ob (fX11_ended nd w (x1)) fun _ w12 =>
      some (x1, w12)
    else
      ck (inb ((101 + x2)) 110) <|
      ob (fX11_laid nd w (x1) (x2) (((w 11 0).2.1 16 ((101 + x2) : Int32).toNatClampNeg))) fun _ w15 =>
      lw (x2 + 1) fun x2_16 =>
      fX11_recovers_35 nd n w15 (x1) (x2_16)
def fX11_recovers (nd : Nat) (w : Wd) : Option (Int32 × Wd) :=
  ck (inb (97) 110) <|
  lw (sA w 11 0 16 (97 : Int32).toNatClampNeg (0)) fun w2 =>
  ck (inb (100) 110) <|
  if (((w2 11 0).2.1 16 (100 : Int32).toNatClampNeg) : Int32) = 0 then
    ob (fX11_emptied nd w2 ) fun _ w8 =>
    some ((-2), w8)
  else
    ck (inb (98) 110) <|
    lw (((w2 11 0).2.1 16 (98 : Int32).toNatClampNeg)) fun x1_6 =>
    fX11_recovers_35 nd fuel0 w2 (x1_6) (0)
set_option maxRecDepth 100000 in
set_option maxHeartbeats 4000000 in
theorem sX11_recovers_35 {K : VC} {al : Al} {r : Int32} {wz : Wd}  (hk : VH K RX11 cX11_recovers 3 67) (hR : VR K al (some (.int)) (some (.int r)) wz) (hn : kn K = 3) (hN : NX (kG K)) : ∀ (n : Nat) (w : Wd) (x1 : Int32) (x2 : Int32), fX11_recovers_35 (gN (kG K) 10) n w x1 x2 = some (r, wz) → V K al w 35 [(0, .ref (al 11 0 0)), (1, .int x1), (2, .int x2)] [] := by
  intro n
  induction n with
  | zero => intro w x1 x2 h; cases h
  | succ n ih =>
    intro w x1 x2 h
    rw [fX11_recovers_35.eq_2] at h
    refine r_iload_n 36 hk dX11_recovers_35 rfl 2 rfl rfl ?_
    refine r_aload_n 37 hk dX11_recovers_36 rfl 0 rfl rfl ?_
    refine r_get 40 hk dX11_recovers_37 rfl ff_RX11_33 (mk_11_0 (nx_11 hN (j := 0) (by decide))) (gv_11_22 _ _ _) ?_
    refine r_iload_n 41 hk dX11_recovers_40 rfl 1 rfl rfl ?_
    obtain ⟨b9, h⟩ := ck_e h
    refine r_iald 42 hk dX11_recovers_41 rfl rfl (mk_11_23 (nx_11 hN (j := 0) (by decide))) rfl b9 ?_
    refine r_icmp_ge 66 45 hk dX11_recovers_42 rfl rfl (fun c10 => ?_) (fun c10 => ?_)
    · have h := if_t c10 h
      refine r_aload_n 67 hk dX11_recovers_66 rfl 0 rfl rfl ?_
      refine r_iload_n 68 hk dX11_recovers_67 rfl 1 rfl rfl ?_
      obtain ⟨r11, w12, ew12, h⟩ := ob_e h
      refine r_cVv 71 (As := [.int x1]) (rest := []) hk (kX11_ended hN ew12) cf_RX11_313 mi_X11_ended ⟨TX11, 36, rfl⟩ dX11_recovers_68 rfl (Nat.le_of_ble_eq_true rfl) (Nat.le_of_ble_eq_true rfl) (mk_11_0 (nx_11 hN (j := 0) (by decide))) rfl rfl (Nat.le_of_ble_eq_true rfl) ?_
      refine r_iload_n 72 hk dX11_recovers_71 rfl 1 rfl rfl ?_
      exact r_iret hk hR dX11_recovers_72 h
    · have h := if_f c10 h
      refine r_aload_n 46 hk dX11_recovers_45 rfl 0 rfl rfl ?_
      refine r_iload_n 47 hk dX11_recovers_46 rfl 1 rfl rfl ?_
      refine r_iload_n 48 hk dX11_recovers_47 rfl 2 rfl rfl ?_
      refine r_aload_n 49 hk dX11_recovers_48 rfl 0 rfl rfl ?_
      refine r_get 52 hk dX11_recovers_49 rfl ff_RX11_21 (mk_11_0 (nx_11 hN (j := 0) (by decide))) (gv_11_16 _ _ _) ?_
      refine r_bipush 54 hk dX11_recovers_52 rfl cb_101 ?_
      refine r_iload_n 55 hk dX11_recovers_54 rfl 2 rfl rfl ?_
      refine r_iadd 56 hk dX11_recovers_55 rfl ?_
      obtain ⟨b13, h⟩ := ck_e h
      refine r_iald 57 hk dX11_recovers_56 rfl rfl (mk_11_17 (nx_11 hN (j := 0) (by decide))) rfl b13 ?_
      obtain ⟨r14, w15, ew15, h⟩ := ob_e h
      refine r_cVv 60 (As := [.int x1, .int x2, .int (((w 11 0).2.1 16 ((101 + x2) : Int32).toNatClampNeg))]) (rest := []) hk (kX11_laid hN ew15) cf_RX11_310 mi_X11_laid ⟨TX11, 36, rfl⟩ dX11_recovers_57 rfl (Nat.le_of_ble_eq_true rfl) (Nat.le_of_ble_eq_true rfl) (mk_11_0 (nx_11 hN (j := 0) (by decide))) rfl rfl (Nat.le_of_ble_eq_true rfl) ?_
      obtain ⟨x2_16, ex2_16, h⟩ := lw_e h
      refine r_iinc 63 [(2, .int x2_16), (0, .ref (al 11 0 0)), (1, .int x1)] hk (j := 2) dX11_recovers_60 rfl hn (by decide) rfl ex2_16 rfl ?_
      refine r_goto 35 hk (x := 0) dX11_recovers_63 rfl ?_
      refine r_sub [1, 2, 0] rfl ?_
      exact ih _ _ _ h
set_option maxRecDepth 100000 in
set_option maxHeartbeats 4000000 in
theorem kX11_recovers {l : Launch} {G : Gx} {al : Al} {w : Wd} {r : Int32} {wz : Wd} (hN : NX G) (h : fX11_recovers (gN G 10) w = some (r, wz)) : MC l G yX11_recovers cX11_recovers 3 (some (.int)) 3 67 al w [.ref (al 11 0 0)] (some (.int r)) wz := by
  refine mc_of [(0, .ref (al 11 0 0))] (by decide) (Nat.le_of_ble_eq_true rfl) rfl ?_
  intro K hk hR hn hl hG
  subst hl; subst hG
  have hk : VH K RX11 cX11_recovers 3 67 := hk
  rw [fX11_recovers.eq_1] at h
  refine r_aload_n 1 hk dX11_recovers_0 rfl 0 rfl rfl ?_
  refine r_get 4 hk dX11_recovers_1 rfl ff_RX11_21 (mk_11_0 (nx_11 hN (j := 0) (by decide))) (gv_11_16 _ _ _) ?_
  refine r_bipush 6 hk dX11_recovers_4 rfl cb_97 ?_
  refine r_iconst 7 hk dX11_recovers_6 rfl ci_0 ?_
  obtain ⟨b1, h⟩ := ck_e h
  obtain ⟨w2, ew2, h⟩ := lw_e h
  refine r_iast 8 w2 hk dX11_recovers_7 rfl rfl (mk_11_17 (nx_11 hN (j := 0) (by decide))) rfl b1 ew2 ?_
  refine r_aload_n 9 hk dX11_recovers_8 rfl 0 rfl rfl ?_
  refine r_get 12 hk dX11_recovers_9 rfl ff_RX11_21 (mk_11_0 (nx_11 hN (j := 0) (by decide))) (gv_11_16 _ _ _) ?_
  refine r_bipush 14 hk dX11_recovers_12 rfl cb_100 ?_
  obtain ⟨b3, h⟩ := ck_e h
  refine r_iald 15 hk dX11_recovers_14 rfl rfl (mk_11_17 (nx_11 hN (j := 0) (by decide))) rfl b3 ?_
  refine r_if_ne 25 18 hk dX11_recovers_15 rfl rfl (fun c4 => ?_) (fun c4 => ?_)
  · have h := if_f c4 h
    refine r_aload_n 26 hk dX11_recovers_25 rfl 0 rfl rfl ?_
    refine r_get 29 hk dX11_recovers_26 rfl ff_RX11_21 (mk_11_0 (nx_11 hN (j := 0) (by decide))) (gv_11_16 _ _ _) ?_
    refine r_bipush 31 hk dX11_recovers_29 rfl cb_98 ?_
    obtain ⟨b5, h⟩ := ck_e h
    refine r_iald 32 hk dX11_recovers_31 rfl rfl (mk_11_17 (nx_11 hN (j := 0) (by decide))) rfl b5 ?_
    obtain ⟨x1_6, ex1_6, h⟩ := lw_e h
    refine r_istore_n 33 [(1, .int x1_6), (0, .ref (al 11 0 0))] hk dX11_recovers_32 rfl rfl hn (by decide) ex1_6 rfl ?_
    refine r_iconst 34 hk dX11_recovers_33 rfl ci_0 ?_
    refine r_istore_n 35 [(2, .int 0), (1, .int x1_6), (0, .ref (al 11 0 0))] hk dX11_recovers_34 rfl rfl hn (by decide) rfl rfl ?_
    refine r_sub [2, 1, 0] rfl ?_
    exact sX11_recovers_35 hk hR hn hN _ _ _ _ h
  · have h := if_t c4 h
    refine r_aload_n 19 hk dX11_recovers_18 rfl 0 rfl rfl ?_
    obtain ⟨r7, w8, ew8, h⟩ := ob_e h
    refine r_cVv 22 (As := []) (rest := []) hk (kX11_emptied hN ew8) cf_RX11_322 mi_X11_emptied ⟨TX11, 36, rfl⟩ dX11_recovers_19 rfl (Nat.le_of_ble_eq_true rfl) (Nat.le_of_ble_eq_true rfl) (mk_11_0 (nx_11 hN (j := 0) (by decide))) rfl rfl (Nat.le_of_ble_eq_true rfl) ?_
    refine r_bipush 24 hk dX11_recovers_22 rfl cb_m2 ?_
    exact r_iret hk hR dX11_recovers_24 h
def fX11_writes_23 (nd : Nat) (w : Wd) (x1 : Int32) (x2 : Int32) : Option (Int32 × Wd) :=
    ck (inb (48) 110) <|
    lw (((w 11 0).2.1 16 (48 : Int32).toNatClampNeg)) fun x3_8 =>
    ob (fX11_enters nd w (x3_8) (x1) (x2)) fun _ w10 =>
    ck (inb (48) 110) <|
    ck (inb (48) 110) <|
    lw (sA w10 11 0 16 (48 : Int32).toNatClampNeg ((((w10 11 0).2.1 16 (48 : Int32).toNatClampNeg) + 1))) fun w13 =>
    ck (inb (109) 110) <|
    ck (inb (109) 110) <|
    lw (sA w13 11 0 16 (109 : Int32).toNatClampNeg ((((w13 11 0).2.1 16 (109 : Int32).toNatClampNeg) + 1))) fun w16 =>
    some (x3_8, w16)
def fX11_writes (nd : Nat) (w : Wd) (x1 : Int32) (x2 : Int32) : Option (Int32 × Wd) :=
  ck (inb (48) 110) <|
  if (((w 11 0).2.1 16 (48 : Int32).toNatClampNeg) : Int32) = ((w 11 0).1 24) then
    ob (fX11_nextBand nd w ) fun r3 w4 =>
    ob (fX11_cleans nd w4 (r3)) fun r5 w6 =>
    fX11_writes_23 nd w6 (x1) (x2)
  else
    fX11_writes_23 nd w (x1) (x2)
set_option maxRecDepth 100000 in
set_option maxHeartbeats 4000000 in
theorem sX11_writes_23 {K : VC} {al : Al} {r : Int32} {wz : Wd}  (hk : VH K RX11 cX11_writes 6 135) (hR : VR K al (some (.int)) (some (.int r)) wz) (hn : kn K = 4) (hN : NX (kG K)) (w : Wd) (x1 : Int32) (x2 : Int32) (h : fX11_writes_23 (gN (kG K) 10) w x1 x2 = some (r, wz)) : V K al w 23 [(0, .ref (al 11 0 0)), (1, .int x1), (2, .int x2)] [] := by
  rw [fX11_writes_23.eq_1] at h
  refine r_aload_n 24 hk dX11_writes_23 rfl 0 rfl rfl ?_
  refine r_get 27 hk dX11_writes_24 rfl ff_RX11_21 (mk_11_0 (nx_11 hN (j := 0) (by decide))) (gv_11_16 _ _ _) ?_
  refine r_bipush 29 hk dX11_writes_27 rfl cb_48 ?_
  obtain ⟨b7, h⟩ := ck_e h
  refine r_iald 30 hk dX11_writes_29 rfl rfl (mk_11_17 (nx_11 hN (j := 0) (by decide))) rfl b7 ?_
  obtain ⟨x3_8, ex3_8, h⟩ := lw_e h
  refine r_istore_n 31 [(3, .int x3_8), (0, .ref (al 11 0 0)), (1, .int x1), (2, .int x2)] hk dX11_writes_30 rfl rfl hn (by decide) ex3_8 rfl ?_
  refine r_aload_n 32 hk dX11_writes_31 rfl 1 rfl rfl ?_
  refine r_iload_n 33 hk dX11_writes_32 rfl 0 rfl rfl ?_
  refine r_iload_n 34 hk dX11_writes_33 rfl 2 rfl rfl ?_
  refine r_iload_n 35 hk dX11_writes_34 rfl 3 rfl rfl ?_
  obtain ⟨r9, w10, ew10, h⟩ := ob_e h
  refine r_cVv 38 (As := [.int x3_8, .int x1, .int x2]) (rest := []) hk (kX11_enters hN ew10) cf_RX11_303 mi_X11_enters ⟨TX11, 36, rfl⟩ dX11_writes_35 rfl (Nat.le_of_ble_eq_true rfl) (Nat.le_of_ble_eq_true rfl) (mk_11_0 (nx_11 hN (j := 0) (by decide))) rfl rfl (Nat.le_of_ble_eq_true rfl) ?_
  refine r_aload_n 39 hk dX11_writes_38 rfl 1 rfl rfl ?_
  refine r_get 42 hk dX11_writes_39 rfl ff_RX11_21 (mk_11_0 (nx_11 hN (j := 0) (by decide))) (gv_11_16 _ _ _) ?_
  refine r_bipush 44 hk dX11_writes_42 rfl cb_48 ?_
  refine r_dup2 45 hk dX11_writes_44 rfl rfl rfl ?_
  obtain ⟨b11, h⟩ := ck_e h
  refine r_iald 46 hk dX11_writes_45 rfl rfl (mk_11_17 (nx_11 hN (j := 0) (by decide))) rfl b11 ?_
  refine r_iconst 47 hk dX11_writes_46 rfl ci_1 ?_
  refine r_iadd 48 hk dX11_writes_47 rfl ?_
  obtain ⟨b12, h⟩ := ck_e h
  obtain ⟨w13, ew13, h⟩ := lw_e h
  refine r_iast 49 w13 hk dX11_writes_48 rfl rfl (mk_11_17 (nx_11 hN (j := 0) (by decide))) rfl b12 ew13 ?_
  refine r_aload_n 50 hk dX11_writes_49 rfl 1 rfl rfl ?_
  refine r_get 53 hk dX11_writes_50 rfl ff_RX11_21 (mk_11_0 (nx_11 hN (j := 0) (by decide))) (gv_11_16 _ _ _) ?_
  refine r_bipush 55 hk dX11_writes_53 rfl cb_109 ?_
  refine r_dup2 56 hk dX11_writes_55 rfl rfl rfl ?_
  obtain ⟨b14, h⟩ := ck_e h
  refine r_iald 57 hk dX11_writes_56 rfl rfl (mk_11_17 (nx_11 hN (j := 0) (by decide))) rfl b14 ?_
  refine r_iconst 58 hk dX11_writes_57 rfl ci_1 ?_
  refine r_iadd 59 hk dX11_writes_58 rfl ?_
  obtain ⟨b15, h⟩ := ck_e h
  obtain ⟨w16, ew16, h⟩ := lw_e h
  refine r_iast 60 w16 hk dX11_writes_59 rfl rfl (mk_11_17 (nx_11 hN (j := 0) (by decide))) rfl b15 ew16 ?_
  refine r_iload_n 61 hk dX11_writes_60 rfl 0 rfl rfl ?_
  exact r_iret hk hR dX11_writes_61 h
set_option maxRecDepth 100000 in
set_option maxHeartbeats 4000000 in
theorem kX11_writes {l : Launch} {G : Gx} {al : Al} {w : Wd} {x1 : Int32} {x2 : Int32} {r : Int32} {wz : Wd} (hN : NX G) (h : fX11_writes (gN G 10) w x1 x2 = some (r, wz)) : MC l G yX11_writes cX11_writes 4 (some (.int)) 6 135 al w [.ref (al 11 0 0), .int x1, .int x2] (some (.int r)) wz := by
  refine mc_of [(0, .ref (al 11 0 0)), (1, .int x1), (2, .int x2)] (by decide) (Nat.le_of_ble_eq_true rfl) rfl ?_
  intro K hk hR hn hl hG
  subst hl; subst hG
  have hk : VH K RX11 cX11_writes 6 135 := hk
  rw [fX11_writes.eq_1] at h
  refine r_aload_n 1 hk dX11_writes_0 rfl 0 rfl rfl ?_
  refine r_get 4 hk dX11_writes_1 rfl ff_RX11_21 (mk_11_0 (nx_11 hN (j := 0) (by decide))) (gv_11_16 _ _ _) ?_
  refine r_bipush 6 hk dX11_writes_4 rfl cb_48 ?_
  obtain ⟨b1, h⟩ := ck_e h
  refine r_iald 7 hk dX11_writes_6 rfl rfl (mk_11_17 (nx_11 hN (j := 0) (by decide))) rfl b1 ?_
  refine r_aload_n 8 hk dX11_writes_7 rfl 0 rfl rfl ?_
  refine r_get 11 hk dX11_writes_8 rfl ff_RX11_275 (mk_11_0 (nx_11 hN (j := 0) (by decide))) (gv_11_24 _ _ _) ?_
  refine r_icmp_ne 23 14 hk dX11_writes_11 rfl rfl (fun c2 => ?_) (fun c2 => ?_)
  · have h := if_f c2 h
    exact sX11_writes_23 hk hR hn hN _ _ _ h
  · have h := if_t c2 h
    refine r_aload_n 15 hk dX11_writes_14 rfl 0 rfl rfl ?_
    refine r_aload_n 16 hk dX11_writes_15 rfl 0 rfl rfl ?_
    obtain ⟨r3, w4, ew4, h⟩ := ob_e h
    refine r_cVi 19 (As := []) (rest := [.ref (al 11 0 0)]) hk (kX11_nextBand hN ew4) cf_RX11_340 mi_X11_nextBand ⟨TX11, 36, rfl⟩ dX11_writes_16 rfl (Nat.le_of_ble_eq_true rfl) (Nat.le_of_ble_eq_true rfl) (mk_11_0 (nx_11 hN (j := 0) (by decide))) rfl rfl (Nat.le_of_ble_eq_true rfl) ?_
    obtain ⟨r5, w6, ew6, h⟩ := ob_e h
    refine r_cVi 22 (As := [.int r3]) (rest := []) hk (kX11_cleans hN ew6) cf_RX11_343 mi_X11_cleans ⟨TX11, 36, rfl⟩ dX11_writes_19 rfl (Nat.le_of_ble_eq_true rfl) (Nat.le_of_ble_eq_true rfl) (mk_11_0 (nx_11 hN (j := 0) (by decide))) rfl rfl (Nat.le_of_ble_eq_true rfl) ?_
    refine r_pop 23 hk dX11_writes_22 rfl rfl ?_
    exact sX11_writes_23 hk hR hn hN _ _ _ h
def fX11_isTrack (nd : Nat) (w : Wd) (x1 : Int32) : Option (Int32 × Wd) :=
  if (w 11 0).2.2.1 3 = 0 then
    some (0, w)
  else
    if (x1 : Int32) < 0 then
      some (0, w)
    else
      ckp ((w 11 0).2.2.1 3) nd fun q3 =>
      if (((w 10 q3).1 3) : Int32) ≤ x1 then
        some (0, w)
      else
        some (1, w)
set_option maxRecDepth 100000 in
set_option maxHeartbeats 4000000 in
theorem kX11_isTrack {l : Launch} {G : Gx} {al : Al} {w : Wd} {x1 : Int32} {r : Int32} {wz : Wd} (hN : NX G) (h : fX11_isTrack (gN G 10) w x1 = some (r, wz)) : MC l G yX11_isTrack cX11_isTrack 2 (some (.boolean)) 0 0 al w [.ref (al 11 0 0), .int x1] (some (.int r)) wz := by
  refine mc_of [(0, .ref (al 11 0 0)), (1, .int x1)] (by decide) (Nat.le_of_ble_eq_true rfl) rfl ?_
  intro K hk hR hn hl hG
  subst hl; subst hG
  have hk : VH K RX11 cX11_isTrack 0 0 := hk
  rw [fX11_isTrack.eq_1] at h
  refine r_aload_n 1 hk dX11_isTrack_0 rfl 0 rfl rfl ?_
  refine r_get 4 hk dX11_isTrack_1 rfl ff_RX11_260 (mk_11_0 (nx_11 hN (j := 0) (by decide))) (gv_11_3 _ _ _) ?_
  by_cases c1 : (w 11 0).2.2.1 3 = 0
  · have h := if_t c1 h
    refine r_pv0 c1 ?_
    refine r_ifnull1 26 hk (x := 0) dX11_isTrack_4 rfl ?_
    refine r_iconst 27 hk dX11_isTrack_26 rfl ci_0 ?_
    exact r_zret hk hR dX11_isTrack_27 (by decide) h
  · have h := if_f c1 h
    obtain ⟨q5, eq5⟩ := Nat.exists_eq_succ_of_ne_zero c1
    refine r_pv1 eq5 ?_
    refine r_ifnull0 7 hk dX11_isTrack_4 rfl ?_
    refine r_iload_n 8 hk dX11_isTrack_7 rfl 1 rfl rfl ?_
    refine r_if_lt 26 11 hk dX11_isTrack_8 rfl rfl (fun c2 => ?_) (fun c2 => ?_)
    · have h := if_t c2 h
      refine r_iconst 27 hk dX11_isTrack_26 rfl ci_0 ?_
      exact r_zret hk hR dX11_isTrack_27 (by decide) h
    · have h := if_f c2 h
      refine r_iload_n 12 hk dX11_isTrack_11 rfl 1 rfl rfl ?_
      refine r_aload_n 13 hk dX11_isTrack_12 rfl 0 rfl rfl ?_
      refine r_get 16 hk dX11_isTrack_13 rfl ff_RX11_260 (mk_11_0 (nx_11 hN (j := 0) (by decide))) (gv_11_3 _ _ _) ?_
      obtain ⟨q3, eq3, lq3, h⟩ := ckp_e h
      refine r_pv1 eq3 ?_
      refine r_get 19 hk dX11_isTrack_16 rfl ff_RX11_209 (mk_10_0 lq3) (gv_10_3 _ _ _) ?_
      refine r_icmp_ge 26 22 hk dX11_isTrack_19 rfl rfl (fun c4 => ?_) (fun c4 => ?_)
      · have h := if_t c4 h
        refine r_iconst 27 hk dX11_isTrack_26 rfl ci_0 ?_
        exact r_zret hk hR dX11_isTrack_27 (by decide) h
      · have h := if_f c4 h
        refine r_iconst 23 hk dX11_isTrack_22 rfl ci_1 ?_
        refine r_goto 27 hk (x := 0) dX11_isTrack_23 rfl ?_
        exact r_zret hk hR dX11_isTrack_27 (by decide) h
def fX11_isBand (nd : Nat) (w : Wd) (x1 : Int32) : Option (Int32 × Wd) :=
  if (w 11 0).2.2.1 3 = 0 then
    some (0, w)
  else
    if (x1 : Int32) < 0 then
      some (0, w)
    else
      ckp ((w 11 0).2.2.1 3) nd fun q3 =>
      if (((w 10 q3).1 2) : Int32) ≤ x1 then
        some (0, w)
      else
        some (1, w)
set_option maxRecDepth 100000 in
set_option maxHeartbeats 4000000 in
theorem kX11_isBand {l : Launch} {G : Gx} {al : Al} {w : Wd} {x1 : Int32} {r : Int32} {wz : Wd} (hN : NX G) (h : fX11_isBand (gN G 10) w x1 = some (r, wz)) : MC l G yX11_isBand cX11_isBand 2 (some (.boolean)) 0 0 al w [.ref (al 11 0 0), .int x1] (some (.int r)) wz := by
  refine mc_of [(0, .ref (al 11 0 0)), (1, .int x1)] (by decide) (Nat.le_of_ble_eq_true rfl) rfl ?_
  intro K hk hR hn hl hG
  subst hl; subst hG
  have hk : VH K RX11 cX11_isBand 0 0 := hk
  rw [fX11_isBand.eq_1] at h
  refine r_aload_n 1 hk dX11_isBand_0 rfl 0 rfl rfl ?_
  refine r_get 4 hk dX11_isBand_1 rfl ff_RX11_260 (mk_11_0 (nx_11 hN (j := 0) (by decide))) (gv_11_3 _ _ _) ?_
  by_cases c1 : (w 11 0).2.2.1 3 = 0
  · have h := if_t c1 h
    refine r_pv0 c1 ?_
    refine r_ifnull1 26 hk (x := 0) dX11_isBand_4 rfl ?_
    refine r_iconst 27 hk dX11_isBand_26 rfl ci_0 ?_
    exact r_zret hk hR dX11_isBand_27 (by decide) h
  · have h := if_f c1 h
    obtain ⟨q5, eq5⟩ := Nat.exists_eq_succ_of_ne_zero c1
    refine r_pv1 eq5 ?_
    refine r_ifnull0 7 hk dX11_isBand_4 rfl ?_
    refine r_iload_n 8 hk dX11_isBand_7 rfl 1 rfl rfl ?_
    refine r_if_lt 26 11 hk dX11_isBand_8 rfl rfl (fun c2 => ?_) (fun c2 => ?_)
    · have h := if_t c2 h
      refine r_iconst 27 hk dX11_isBand_26 rfl ci_0 ?_
      exact r_zret hk hR dX11_isBand_27 (by decide) h
    · have h := if_f c2 h
      refine r_iload_n 12 hk dX11_isBand_11 rfl 1 rfl rfl ?_
      refine r_aload_n 13 hk dX11_isBand_12 rfl 0 rfl rfl ?_
      refine r_get 16 hk dX11_isBand_13 rfl ff_RX11_260 (mk_11_0 (nx_11 hN (j := 0) (by decide))) (gv_11_3 _ _ _) ?_
      obtain ⟨q3, eq3, lq3, h⟩ := ckp_e h
      refine r_pv1 eq3 ?_
      refine r_get 19 hk dX11_isBand_16 rfl ff_RX11_155 (mk_10_0 lq3) (gv_10_2 _ _ _) ?_
      refine r_icmp_ge 26 22 hk dX11_isBand_19 rfl rfl (fun c4 => ?_) (fun c4 => ?_)
      · have h := if_t c4 h
        refine r_iconst 27 hk dX11_isBand_26 rfl ci_0 ?_
        exact r_zret hk hR dX11_isBand_27 (by decide) h
      · have h := if_f c4 h
        refine r_iconst 23 hk dX11_isBand_22 rfl ci_1 ?_
        refine r_goto 27 hk (x := 0) dX11_isBand_23 rfl ?_
        exact r_zret hk hR dX11_isBand_27 (by decide) h
def fX11_isDown (nd : Nat) (w : Wd) : Option (Int32 × Wd) :=
  ck (inb (97) 110) <|
  if (((w 11 0).2.1 15 (97 : Int32).toNatClampNeg) : Int32) = 1 then
    some (1, w)
  else
    some (0, w)
set_option maxRecDepth 100000 in
set_option maxHeartbeats 4000000 in
theorem kX11_isDown {l : Launch} {G : Gx} {al : Al} {w : Wd} {r : Int32} {wz : Wd} (hN : NX G) (h : fX11_isDown (gN G 10) w = some (r, wz)) : MC l G yX11_isDown cX11_isDown 1 (some (.boolean)) 0 0 al w [.ref (al 11 0 0)] (some (.int r)) wz := by
  refine mc_of [(0, .ref (al 11 0 0))] (by decide) (Nat.le_of_ble_eq_true rfl) rfl ?_
  intro K hk hR hn hl hG
  subst hl; subst hG
  have hk : VH K RX11 cX11_isDown 0 0 := hk
  rw [fX11_isDown.eq_1] at h
  refine r_aload_n 1 hk dX11_isDown_0 rfl 0 rfl rfl ?_
  refine r_get 4 hk dX11_isDown_1 rfl ff_RX11_17 (mk_11_0 (nx_11 hN (j := 0) (by decide))) (gv_11_15 _ _ _) ?_
  refine r_bipush 6 hk dX11_isDown_4 rfl cb_97 ?_
  obtain ⟨b1, h⟩ := ck_e h
  refine r_iald 7 hk dX11_isDown_6 rfl rfl (mk_11_16 (nx_11 hN (j := 0) (by decide))) rfl b1 ?_
  refine r_iconst 8 hk dX11_isDown_7 rfl ci_1 ?_
  refine r_icmp_ne 15 11 hk dX11_isDown_8 rfl rfl (fun c2 => ?_) (fun c2 => ?_)
  · have h := if_f c2 h
    refine r_iconst 16 hk dX11_isDown_15 rfl ci_0 ?_
    exact r_zret hk hR dX11_isDown_16 (by decide) h
  · have h := if_t c2 h
    refine r_iconst 12 hk dX11_isDown_11 rfl ci_1 ?_
    refine r_goto 16 hk (x := 0) dX11_isDown_12 rfl ?_
    exact r_zret hk hR dX11_isDown_16 (by decide) h
