def fX10_stands_2 (nd : Nat) (ac0 : Nat) (aj0 : Nat) (ak0 : Nat) : Nat → Wd → Int32 → Int32 → Int32 → Option (Int32 × Wd)
  | 0, _, _, _, _ => none
  | n + 1, w, x1, x2, x3 =>
    if (x1 : Int32) ≤ x3 then
      some (0, w)
    else
      ck (inb (x3) (aln ac0 aj0 ak0)) <|
      if (((w ac0 aj0).2.1 ak0 (x3 : Int32).toNatClampNeg) : Int32) = x2 then
        some (1, w)
      else
        lw (x3 + 1) fun x3_4 =>
        fX10_stands_2 nd ac0 aj0 ak0 n w (x1) (x2) (x3_4)
def fX10_stands (nd : Nat) (ac0 : Nat) (aj0 : Nat) (ak0 : Nat) (w : Wd) (x1 : Int32) (x2 : Int32) : Option (Int32 × Wd) :=
  fX10_stands_2 nd ac0 aj0 ak0 fuel0 w (x1) (x2) (0)
set_option maxRecDepth 100000 in
set_option maxHeartbeats 4000000 in
theorem sX10_stands_2 {K : VC} {al : Al} {r : Int32} {wz : Wd} {ac0 : Nat} {aj0 : Nat} {ak0 : Nat} (hk : VH K RX10 cX10_stands 0 0) (hR : VR K al (some (.boolean)) (some (.int r)) wz) (hn : kn K = 4) (hN : NX (kG K)) (ht0 : aty ac0 ak0 = 1) (hm0 : (ac0, aj0, ak0 + 1) ∈ keys (gN (kG K))) : ∀ (n : Nat) (w : Wd) (x1 : Int32) (x2 : Int32) (x3 : Int32), fX10_stands_2 (gN (kG K) 10) ac0 aj0 ak0 n w x1 x2 x3 = some (r, wz) → V K al w 2 [(0, .ref (al ac0 aj0 (ak0 + 1))), (1, .int x1), (2, .int x2), (3, .int x3)] [] := by
  intro n
  induction n with
  | zero => intro w x1 x2 x3 h; cases h
  | succ n ih =>
    intro w x1 x2 x3 h
    rw [fX10_stands_2.eq_2] at h
    refine r_iload_n 3 hk dX10_stands_2 rfl 3 rfl rfl ?_
    refine r_iload_n 4 hk dX10_stands_3 rfl 1 rfl rfl ?_
    refine r_icmp_ge 22 7 hk dX10_stands_4 rfl rfl (fun c1 => ?_) (fun c1 => ?_)
    · have h := if_t c1 h
      refine r_iconst 23 hk dX10_stands_22 rfl ci_0 ?_
      exact r_zret hk hR dX10_stands_23 (by decide) h
    · have h := if_f c1 h
      refine r_aload_n 8 hk dX10_stands_7 rfl 0 rfl rfl ?_
      refine r_iload_n 9 hk dX10_stands_8 rfl 3 rfl rfl ?_
      obtain ⟨b2, h⟩ := ck_e h
      refine r_iald 10 hk dX10_stands_9 rfl ht0 hm0 rfl b2 ?_
      refine r_iload_n 11 hk dX10_stands_10 rfl 2 rfl rfl ?_
      refine r_icmp_ne 16 14 hk dX10_stands_11 rfl rfl (fun c3 => ?_) (fun c3 => ?_)
      · have h := if_f c3 h
        obtain ⟨x3_4, ex3_4, h⟩ := lw_e h
        refine r_iinc 19 [(3, .int x3_4), (0, .ref (al ac0 aj0 (ak0 + 1))), (1, .int x1), (2, .int x2)] hk (j := 3) dX10_stands_16 rfl hn (by decide) rfl ex3_4 rfl ?_
        refine r_goto 2 hk (x := 0) dX10_stands_19 rfl ?_
        refine r_sub [1, 2, 3, 0] rfl ?_
        exact ih _ _ _ _ h
      · have h := if_t c3 h
        refine r_iconst 15 hk dX10_stands_14 rfl ci_1 ?_
        exact r_zret hk hR dX10_stands_15 (by decide) h
set_option maxRecDepth 100000 in
set_option maxHeartbeats 4000000 in
theorem kX10_stands {l : Launch} {G : Gx} {al : Al} {ac0 : Nat} {aj0 : Nat} {ak0 : Nat} {w : Wd} {x1 : Int32} {x2 : Int32} {r : Int32} {wz : Wd} (hN : NX G) (ht0 : aty ac0 ak0 = 1) (hm0 : (ac0, aj0, ak0 + 1) ∈ keys (gN G)) (h : fX10_stands (gN G 10) ac0 aj0 ak0 w x1 x2 = some (r, wz)) : MC l G yX10_stands cX10_stands 4 (some (.boolean)) 0 0 al w [.ref (al ac0 aj0 (ak0 + 1)), .int x1, .int x2] (some (.int r)) wz := by
  refine mc_of [(0, .ref (al ac0 aj0 (ak0 + 1))), (1, .int x1), (2, .int x2)] (by decide) (Nat.le_of_ble_eq_true rfl) rfl ?_
  intro K hk hR hn hl hG
  subst hl; subst hG
  have hk : VH K RX10 cX10_stands 0 0 := hk
  rw [fX10_stands.eq_1] at h
  refine r_iconst 1 hk dX10_stands_0 rfl ci_0 ?_
  refine r_istore_n 2 [(3, .int 0), (0, .ref (al ac0 aj0 (ak0 + 1))), (1, .int x1), (2, .int x2)] hk dX10_stands_1 rfl rfl hn (by decide) rfl rfl ?_
  refine r_sub [1, 2, 3, 0] rfl ?_
  exact sX10_stands_2 hk hR hn hN ht0 hm0 _ _ _ _ _ h
def fX11_thrown (nd : Nat) (w : Wd) : Option (Int32 × Wd) :=
  some (((w 11 0).1 0), w)
set_option maxRecDepth 100000 in
set_option maxHeartbeats 4000000 in
theorem kX11_thrown {l : Launch} {G : Gx} {al : Al} {w : Wd} {r : Int32} {wz : Wd} (hN : NX G) (h : fX11_thrown (gN G 10) w = some (r, wz)) : MC l G yX11_thrown cX11_thrown 1 (some (.int)) 0 0 al w [.ref (al 11 0 0)] (some (.int r)) wz := by
  refine mc_of [(0, .ref (al 11 0 0))] (by decide) (Nat.le_of_ble_eq_true rfl) rfl ?_
  intro K hk hR hn hl hG
  subst hl; subst hG
  have hk : VH K RX11 cX11_thrown 0 0 := hk
  rw [fX11_thrown.eq_1] at h
  refine r_aload_n 1 hk dX11_thrown_0 rfl 0 rfl rfl ?_
  refine r_get 4 hk dX11_thrown_1 rfl ff_RX11_45 (mk_11_0 (nx_11 hN (j := 0) (by decide))) (gv_11_0 _ _ _) ?_
  exact r_iret hk hR dX11_thrown_4 h
def fX11_refused (nd : Nat) (w : Wd) (x1 : Int32) : Option (Int32 × Wd) :=
  lw (sI w 11 0 1 (x1)) fun w1 =>
  lw (sI w1 11 0 2 ((-1))) fun w2 =>
  some ((-1), w2)
set_option maxRecDepth 100000 in
set_option maxHeartbeats 4000000 in
theorem kX11_refused {l : Launch} {G : Gx} {al : Al} {w : Wd} {x1 : Int32} {r : Int32} {wz : Wd} (hN : NX G) (h : fX11_refused (gN G 10) w x1 = some (r, wz)) : MC l G yX11_refused cX11_refused 2 (some (.int)) 0 0 al w [.ref (al 11 0 0), .int x1] (some (.int r)) wz := by
  refine mc_of [(0, .ref (al 11 0 0)), (1, .int x1)] (by decide) (Nat.le_of_ble_eq_true rfl) rfl ?_
  intro K hk hR hn hl hG
  subst hl; subst hG
  have hk : VH K RX11 cX11_refused 0 0 := hk
  rw [fX11_refused.eq_1] at h
  refine r_aload_n 1 hk dX11_refused_0 rfl 0 rfl rfl ?_
  refine r_iload_n 2 hk dX11_refused_1 rfl 1 rfl rfl ?_
  obtain ⟨w1, ew1, h⟩ := lw_e h
  refine r_putI 5 w1 hk dX11_refused_2 rfl ff_RX11_48 fi_11_1 (mk_11_0 (nx_11 hN (j := 0) (by decide))) ew1 ?_
  refine r_aload_n 6 hk dX11_refused_5 rfl 0 rfl rfl ?_
  refine r_iconst 7 hk dX11_refused_6 rfl ci_m1 ?_
  obtain ⟨w2, ew2, h⟩ := lw_e h
  refine r_putI 10 w2 hk dX11_refused_7 rfl ff_RX11_9 fi_11_2 (mk_11_0 (nx_11 hN (j := 0) (by decide))) ew2 ?_
  refine r_iconst 11 hk dX11_refused_10 rfl ci_m1 ?_
  exact r_iret hk hR dX11_refused_11 h
def fX11_denied (nd : Nat) (w : Wd) (x1 : Int32) : Option (Int32 × Wd) :=
  ob (fX11_refused nd w (x1)) fun r1 w2 =>
  some (0, w2)
set_option maxRecDepth 100000 in
set_option maxHeartbeats 4000000 in
theorem kX11_denied {l : Launch} {G : Gx} {al : Al} {w : Wd} {x1 : Int32} {r : Int32} {wz : Wd} (hN : NX G) (h : fX11_denied (gN G 10) w x1 = some (r, wz)) : MC l G yX11_denied cX11_denied 2 (some (.boolean)) 1 21 al w [.ref (al 11 0 0), .int x1] (some (.int r)) wz := by
  refine mc_of [(0, .ref (al 11 0 0)), (1, .int x1)] (by decide) (Nat.le_of_ble_eq_true rfl) rfl ?_
  intro K hk hR hn hl hG
  subst hl; subst hG
  have hk : VH K RX11 cX11_denied 1 21 := hk
  rw [fX11_denied.eq_1] at h
  refine r_aload_n 1 hk dX11_denied_0 rfl 0 rfl rfl ?_
  refine r_iload_n 2 hk dX11_denied_1 rfl 1 rfl rfl ?_
  obtain ⟨r1, w2, ew2, h⟩ := ob_e h
  refine r_cVi 5 (As := [.int x1]) (rest := []) hk (kX11_refused hN ew2) cf_RX11_51 mi_X11_refused ⟨TX11, 36, rfl⟩ dX11_denied_2 rfl (Nat.le_of_ble_eq_true rfl) (Nat.le_of_ble_eq_true rfl) (mk_11_0 (nx_11 hN (j := 0) (by decide))) rfl rfl (Nat.le_of_ble_eq_true rfl) ?_
  refine r_pop 6 hk dX11_denied_5 rfl rfl ?_
  refine r_iconst 7 hk dX11_denied_6 rfl ci_0 ?_
  exact r_zret hk hR dX11_denied_7 (by decide) h
def fX11_good (nd : Nat) (w : Wd) (x1 : Int32) : Option (Int32 × Wd) :=
  lw (sI w 11 0 1 (0)) fun w1 =>
  lw (sI w1 11 0 2 ((-1))) fun w2 =>
  some (x1, w2)
set_option maxRecDepth 100000 in
set_option maxHeartbeats 4000000 in
theorem kX11_good {l : Launch} {G : Gx} {al : Al} {w : Wd} {x1 : Int32} {r : Int32} {wz : Wd} (hN : NX G) (h : fX11_good (gN G 10) w x1 = some (r, wz)) : MC l G yX11_good cX11_good 2 (some (.int)) 0 0 al w [.ref (al 11 0 0), .int x1] (some (.int r)) wz := by
  refine mc_of [(0, .ref (al 11 0 0)), (1, .int x1)] (by decide) (Nat.le_of_ble_eq_true rfl) rfl ?_
  intro K hk hR hn hl hG
  subst hl; subst hG
  have hk : VH K RX11 cX11_good 0 0 := hk
  rw [fX11_good.eq_1] at h
  refine r_aload_n 1 hk dX11_good_0 rfl 0 rfl rfl ?_
  refine r_iconst 2 hk dX11_good_1 rfl ci_0 ?_
  obtain ⟨w1, ew1, h⟩ := lw_e h
  refine r_putI 5 w1 hk dX11_good_2 rfl ff_RX11_48 fi_11_1 (mk_11_0 (nx_11 hN (j := 0) (by decide))) ew1 ?_
  refine r_aload_n 6 hk dX11_good_5 rfl 0 rfl rfl ?_
  refine r_iconst 7 hk dX11_good_6 rfl ci_m1 ?_
  obtain ⟨w2, ew2, h⟩ := lw_e h
  refine r_putI 10 w2 hk dX11_good_7 rfl ff_RX11_9 fi_11_2 (mk_11_0 (nx_11 hN (j := 0) (by decide))) ew2 ?_
  refine r_iload_n 11 hk dX11_good_10 rfl 1 rfl rfl ?_
  exact r_iret hk hR dX11_good_11 h
def fX11_granted (nd : Nat) (w : Wd) : Option (Int32 × Wd) :=
  ob (fX11_good nd w (0)) fun r1 w2 =>
  some (1, w2)
set_option maxRecDepth 100000 in
set_option maxHeartbeats 4000000 in
theorem kX11_granted {l : Launch} {G : Gx} {al : Al} {w : Wd} {r : Int32} {wz : Wd} (hN : NX G) (h : fX11_granted (gN G 10) w = some (r, wz)) : MC l G yX11_granted cX11_granted 1 (some (.boolean)) 1 21 al w [.ref (al 11 0 0)] (some (.int r)) wz := by
  refine mc_of [(0, .ref (al 11 0 0))] (by decide) (Nat.le_of_ble_eq_true rfl) rfl ?_
  intro K hk hR hn hl hG
  subst hl; subst hG
  have hk : VH K RX11 cX11_granted 1 21 := hk
  rw [fX11_granted.eq_1] at h
  refine r_aload_n 1 hk dX11_granted_0 rfl 0 rfl rfl ?_
  refine r_iconst 2 hk dX11_granted_1 rfl ci_0 ?_
  obtain ⟨r1, w2, ew2, h⟩ := ob_e h
  refine r_cVi 5 (As := [.int 0]) (rest := []) hk (kX11_good hN ew2) cf_RX11_55 mi_X11_good ⟨TX11, 36, rfl⟩ dX11_granted_2 rfl (Nat.le_of_ble_eq_true rfl) (Nat.le_of_ble_eq_true rfl) (mk_11_0 (nx_11 hN (j := 0) (by decide))) rfl rfl (Nat.le_of_ble_eq_true rfl) ?_
  refine r_pop 6 hk dX11_granted_5 rfl rfl ?_
  refine r_iconst 7 hk dX11_granted_6 rfl ci_1 ?_
  exact r_zret hk hR dX11_granted_7 (by decide) h
def fX11_in (nd : Nat) (w : Wd) (x0 : Int32) (x1 : Int32) (x2 : Int32) : Option (Int32 × Wd) :=
  if (x0 : Int32) < x1 then
    some (0, w)
  else
    if (x2 : Int32) < x0 then
      some (0, w)
    else
      some (1, w)
set_option maxRecDepth 100000 in
set_option maxHeartbeats 4000000 in
theorem kX11_in {l : Launch} {G : Gx} {al : Al} {w : Wd} {x0 : Int32} {x1 : Int32} {x2 : Int32} {r : Int32} {wz : Wd} (hN : NX G) (h : fX11_in (gN G 10) w x0 x1 x2 = some (r, wz)) : MC l G yX11_in cX11_in 3 (some (.boolean)) 0 0 al w [.int x0, .int x1, .int x2] (some (.int r)) wz := by
  refine mc_of [(0, .int x0), (1, .int x1), (2, .int x2)] (by decide) (Nat.le_of_ble_eq_true rfl) rfl ?_
  intro K hk hR hn hl hG
  subst hl; subst hG
  have hk : VH K RX11 cX11_in 0 0 := hk
  rw [fX11_in.eq_1] at h
  refine r_iload_n 1 hk dX11_in_0 rfl 0 rfl rfl ?_
  refine r_iload_n 2 hk dX11_in_1 rfl 1 rfl rfl ?_
  refine r_icmp_lt 14 5 hk dX11_in_2 rfl rfl (fun c1 => ?_) (fun c1 => ?_)
  · have h := if_t c1 h
    refine r_iconst 15 hk dX11_in_14 rfl ci_0 ?_
    exact r_zret hk hR dX11_in_15 (by decide) h
  · have h := if_f c1 h
    refine r_iload_n 6 hk dX11_in_5 rfl 0 rfl rfl ?_
    refine r_iload_n 7 hk dX11_in_6 rfl 2 rfl rfl ?_
    refine r_icmp_gt 14 10 hk dX11_in_7 rfl rfl (fun c2 => ?_) (fun c2 => ?_)
    · have h := if_t c2 h
      refine r_iconst 15 hk dX11_in_14 rfl ci_0 ?_
      exact r_zret hk hR dX11_in_15 (by decide) h
    · have h := if_f c2 h
      refine r_iconst 11 hk dX11_in_10 rfl ci_1 ?_
      refine r_goto 15 hk (x := 0) dX11_in_11 rfl ?_
      exact r_zret hk hR dX11_in_15 (by decide) h
def fX11_bit (nd : Nat) (w : Wd) (x0 : Int32) (x1 : Int32) : Option (Int32 × Wd) :=
  if (((x0 >>> (x1 &&& 31)) &&& 1) : Int32) = 1 then
    some (1, w)
  else
    some (0, w)
set_option maxRecDepth 100000 in
set_option maxHeartbeats 4000000 in
theorem kX11_bit {l : Launch} {G : Gx} {al : Al} {w : Wd} {x0 : Int32} {x1 : Int32} {r : Int32} {wz : Wd} (hN : NX G) (h : fX11_bit (gN G 10) w x0 x1 = some (r, wz)) : MC l G yX11_bit cX11_bit 2 (some (.boolean)) 0 0 al w [.int x0, .int x1] (some (.int r)) wz := by
  refine mc_of [(0, .int x0), (1, .int x1)] (by decide) (Nat.le_of_ble_eq_true rfl) rfl ?_
  intro K hk hR hn hl hG
  subst hl; subst hG
  have hk : VH K RX11 cX11_bit 0 0 := hk
  rw [fX11_bit.eq_1] at h
  refine r_iload_n 1 hk dX11_bit_0 rfl 0 rfl rfl ?_
  refine r_iload_n 2 hk dX11_bit_1 rfl 1 rfl rfl ?_
  refine r_ishr 3 hk dX11_bit_2 rfl ?_
  refine r_iconst 4 hk dX11_bit_3 rfl ci_1 ?_
  refine r_iand 5 hk dX11_bit_4 rfl ?_
  refine r_iconst 6 hk dX11_bit_5 rfl ci_1 ?_
  refine r_icmp_ne 13 9 hk dX11_bit_6 rfl rfl (fun c1 => ?_) (fun c1 => ?_)
  · have h := if_f c1 h
    refine r_iconst 14 hk dX11_bit_13 rfl ci_0 ?_
    exact r_zret hk hR dX11_bit_14 (by decide) h
  · have h := if_t c1 h
    refine r_iconst 10 hk dX11_bit_9 rfl ci_1 ?_
    refine r_goto 14 hk (x := 0) dX11_bit_10 rfl ?_
    exact r_zret hk hR dX11_bit_14 (by decide) h
def fX11_common_6 (nd : Nat) : Nat → Wd → Int64 → Int64 → Option (Int64 × Wd)
  | 0, _, _, _ => none
  | n + 1, w, x4, x6 =>
    if ((lg_cmp x6 0) : Int32) = 0 then
      some (x4, w)
    else
      if (x6 : Int64) = 0 then none else
      lw ((x4 - x4 / x6 * x6)) fun x8_3 =>
      fX11_common_6 nd n w (x6) (x8_3)
def fX11_common (nd : Nat) (w : Wd) (x0 : Int64) (x2 : Int64) : Option (Int64 × Wd) :=
  fX11_common_6 nd fuel0 w (x0) (x2)
set_option maxRecDepth 100000 in
set_option maxHeartbeats 4000000 in
theorem sX11_common_6 {K : VC} {al : Al} {r : Int64} {wz : Wd}  (hk : VH K RX11 cX11_common 0 0) (hR : VR K al (some (.long)) (some (.long r)) wz) (hn : kn K = 10) (hN : NX (kG K)) : ∀ (n : Nat) (w : Wd) (x4 : Int64) (x6 : Int64), fX11_common_6 (gN (kG K) 10) n w x4 x6 = some (r, wz) → V K al w 6 [(4, .long x4), (6, .long x6)] [] := by
  intro n
  induction n with
  | zero => intro w x4 x6 h; cases h
  | succ n ih =>
    intro w x4 x6 h
    rw [fX11_common_6.eq_2] at h
    refine r_lload 8 hk dX11_common_6 rfl 1 rfl ?_
    refine r_lconst 9 hk dX11_common_8 rfl cl_0 ?_
    refine r_lcmp 10 hk dX11_common_9 rfl ?_
    refine r_if_eq 31 13 hk dX11_common_10 rfl rfl (fun c1 => ?_) (fun c1 => ?_)
    · have h := if_t c1 h
      refine r_lload 33 hk dX11_common_31 rfl 0 rfl ?_
      exact r_lret hk hR dX11_common_33 h
    · have h := if_f c1 h
      refine r_lload 15 hk dX11_common_13 rfl 0 rfl ?_
      refine r_lload 17 hk dX11_common_15 rfl 1 rfl ?_
      by_cases z2 : (x6 : Int64) = 0
      · have h := if_t z2 h; cases h
      have h := if_f z2 h
      refine r_lrem 18 hk dX11_common_17 rfl z2 ?_
      obtain ⟨x8_3, ex8_3, h⟩ := lw_e h
      refine r_lstore 20 [(8, .long x8_3), (4, .long x4), (6, .long x6)] hk dX11_common_18 rfl hn (by decide) ex8_3 rfl ?_
      refine r_lload 22 hk dX11_common_20 rfl 2 rfl ?_
      refine r_lstore 24 [(4, .long x6), (8, .long x8_3), (6, .long x6)] hk dX11_common_22 rfl hn (by decide) rfl rfl ?_
      refine r_lload 26 hk dX11_common_24 rfl 1 rfl ?_
      refine r_lstore 28 [(6, .long x8_3), (4, .long x6), (8, .long x8_3)] hk dX11_common_26 rfl hn (by decide) rfl rfl ?_
      refine r_goto 6 hk (x := 0) dX11_common_28 rfl ?_
      refine r_sub [1, 0] rfl ?_
      exact ih _ _ _ h
set_option maxRecDepth 100000 in
set_option maxHeartbeats 4000000 in
theorem kX11_common {l : Launch} {G : Gx} {al : Al} {w : Wd} {x0 : Int64} {x2 : Int64} {r : Int64} {wz : Wd} (hN : NX G) (h : fX11_common (gN G 10) w x0 x2 = some (r, wz)) : MC l G yX11_common cX11_common 10 (some (.long)) 0 0 al w [.long x0, .long x2] (some (.long r)) wz := by
  refine mc_of [(0, .long x0), (2, .long x2)] (by decide) (Nat.le_of_ble_eq_true rfl) rfl ?_
  intro K hk hR hn hl hG
  subst hl; subst hG
  have hk : VH K RX11 cX11_common 0 0 := hk
  rw [fX11_common.eq_1] at h
  refine r_lload_n 1 hk dX11_common_0 rfl 0 rfl rfl ?_
  refine r_lstore 3 [(4, .long x0), (0, .long x0), (2, .long x2)] hk dX11_common_1 rfl hn (by decide) rfl rfl ?_
  refine r_lload_n 4 hk dX11_common_3 rfl 2 rfl rfl ?_
  refine r_lstore 6 [(6, .long x2), (4, .long x0), (0, .long x0), (2, .long x2)] hk dX11_common_4 rfl hn (by decide) rfl rfl ?_
  refine r_sub [1, 0] rfl ?_
  exact sX11_common_6 hk hR hn hN _ _ _ _ h
def fX11_fraction (nd : Nat) (w : Wd) (x1 : Int64) (x3 : Int64) (x5 : Int32) : Option (Int64 × Wd) :=
  ob (fX11_good nd w (0)) fun r1 w2 =>
  if (x5 : Int32) = 0 then
    ob (fX11_common nd w2 (x1) (x3)) fun r4 w5 =>
    if (r4 : Int64) = 0 then none else
    some ((x1 / r4), w5)
  else
    ob (fX11_common nd w2 (x1) (x3)) fun r7 w8 =>
    if (r7 : Int64) = 0 then none else
    some ((x3 / r7), w8)
set_option maxRecDepth 100000 in
set_option maxHeartbeats 4000000 in
theorem kX11_fraction {l : Launch} {G : Gx} {al : Al} {w : Wd} {x1 : Int64} {x3 : Int64} {x5 : Int32} {r : Int64} {wz : Wd} (hN : NX G) (h : fX11_fraction (gN G 10) w x1 x3 x5 = some (r, wz)) : MC l G yX11_fraction cX11_fraction 6 (some (.long)) 1 29 al w [.ref (al 11 0 0), .long x1, .long x3, .int x5] (some (.long r)) wz := by
  refine mc_of [(0, .ref (al 11 0 0)), (1, .long x1), (3, .long x3), (5, .int x5)] (by decide) (Nat.le_of_ble_eq_true rfl) rfl ?_
  intro K hk hR hn hl hG
  subst hl; subst hG
  have hk : VH K RX11 cX11_fraction 1 29 := hk
  rw [fX11_fraction.eq_1] at h
  refine r_aload_n 1 hk dX11_fraction_0 rfl 0 rfl rfl ?_
  refine r_iconst 2 hk dX11_fraction_1 rfl ci_0 ?_
  obtain ⟨r1, w2, ew2, h⟩ := ob_e h
  refine r_cVi 5 (As := [.int 0]) (rest := []) hk (kX11_good hN ew2) cf_RX11_55 mi_X11_good ⟨TX11, 36, rfl⟩ dX11_fraction_2 rfl (Nat.le_of_ble_eq_true rfl) (Nat.le_of_ble_eq_true rfl) (mk_11_0 (nx_11 hN (j := 0) (by decide))) rfl rfl (Nat.le_of_ble_eq_true rfl) ?_
  refine r_pop 6 hk dX11_fraction_5 rfl rfl ?_
  refine r_iload 8 hk dX11_fraction_6 rfl 3 rfl ?_
  refine r_if_eq 15 11 hk dX11_fraction_8 rfl rfl (fun c3 => ?_) (fun c3 => ?_)
  · have h := if_t c3 h
    refine r_lload_n 16 hk dX11_fraction_15 rfl 1 rfl rfl ?_
    refine r_lload_n 17 hk dX11_fraction_16 rfl 1 rfl rfl ?_
    refine r_lload_n 18 hk dX11_fraction_17 rfl 2 rfl rfl ?_
    obtain ⟨r4, w5, ew5, h⟩ := ob_e h
    refine r_cSl 21 (As := [.long x1, .long x3]) (rest := [.long x1]) hk (kX11_common hN ew5) cf_RX11_58 ms_X11_common dX11_fraction_18 rfl (Nat.le_of_ble_eq_true rfl) (Nat.le_of_ble_eq_true rfl) rfl rfl (Nat.le_of_ble_eq_true rfl) ?_
    by_cases z6 : (r4 : Int64) = 0
    · have h := if_t z6 h; cases h
    have h := if_f z6 h
    refine r_ldiv 22 hk dX11_fraction_21 rfl z6 ?_
    exact r_lret hk hR dX11_fraction_22 h
  · have h := if_f c3 h
    refine r_lload_n 12 hk dX11_fraction_11 rfl 2 rfl rfl ?_
    refine r_goto 16 hk (x := 0) dX11_fraction_12 rfl ?_
    refine r_lload_n 17 hk dX11_fraction_16 rfl 1 rfl rfl ?_
    refine r_lload_n 18 hk dX11_fraction_17 rfl 2 rfl rfl ?_
    obtain ⟨r7, w8, ew8, h⟩ := ob_e h
    refine r_cSl 21 (As := [.long x1, .long x3]) (rest := [.long x3]) hk (kX11_common hN ew8) cf_RX11_58 ms_X11_common dX11_fraction_18 rfl (Nat.le_of_ble_eq_true rfl) (Nat.le_of_ble_eq_true rfl) rfl rfl (Nat.le_of_ble_eq_true rfl) ?_
    by_cases z9 : (r7 : Int64) = 0
    · have h := if_t z9 h; cases h
    have h := if_f z9 h
    refine r_ldiv 22 hk dX11_fraction_21 rfl z9 ?_
    exact r_lret hk hR dX11_fraction_22 h
def fX11_byteAt (nd : Nat) (w : Wd) (x1 : Int32) : Option (Int32 × Wd) :=
  if (((w 11 0).1 7) : Int32) ≤ x1 then
    some ((-1), w)
  else
    ck (inb (x1) 700) <|
    some ((((w 11 0).2.1 5 (x1 : Int32).toNatClampNeg) &&& 255), w)
set_option maxRecDepth 100000 in
set_option maxHeartbeats 4000000 in
theorem kX11_byteAt {l : Launch} {G : Gx} {al : Al} {w : Wd} {x1 : Int32} {r : Int32} {wz : Wd} (hN : NX G) (h : fX11_byteAt (gN G 10) w x1 = some (r, wz)) : MC l G yX11_byteAt cX11_byteAt 2 (some (.int)) 0 0 al w [.ref (al 11 0 0), .int x1] (some (.int r)) wz := by
  refine mc_of [(0, .ref (al 11 0 0)), (1, .int x1)] (by decide) (Nat.le_of_ble_eq_true rfl) rfl ?_
  intro K hk hR hn hl hG
  subst hl; subst hG
  have hk : VH K RX11 cX11_byteAt 0 0 := hk
  rw [fX11_byteAt.eq_1] at h
  refine r_iload_n 1 hk dX11_byteAt_0 rfl 1 rfl rfl ?_
  refine r_aload_n 2 hk dX11_byteAt_1 rfl 0 rfl rfl ?_
  refine r_get 5 hk dX11_byteAt_2 rfl ff_RX11_62 (mk_11_0 (nx_11 hN (j := 0) (by decide))) (gv_11_7 _ _ _) ?_
  refine r_icmp_ge 21 8 hk dX11_byteAt_5 rfl rfl (fun c1 => ?_) (fun c1 => ?_)
  · have h := if_t c1 h
    refine r_iconst 22 hk dX11_byteAt_21 rfl ci_m1 ?_
    exact r_iret hk hR dX11_byteAt_22 h
  · have h := if_f c1 h
    refine r_aload_n 9 hk dX11_byteAt_8 rfl 0 rfl rfl ?_
    refine r_get 12 hk dX11_byteAt_9 rfl ff_RX11_13 (mk_11_0 (nx_11 hN (j := 0) (by decide))) (gv_11_5 _ _ _) ?_
    refine r_iload_n 13 hk dX11_byteAt_12 rfl 1 rfl rfl ?_
    obtain ⟨b2, h⟩ := ck_e h
    refine r_bald 14 hk dX11_byteAt_13 rfl rfl (mk_11_6 (nx_11 hN (j := 0) (by decide))) rfl b2 ?_
    refine r_sipush 17 hk dX11_byteAt_14 rfl cs_255 ?_
    refine r_iand 18 hk dX11_byteAt_17 rfl ?_
    refine r_goto 22 hk (x := 0) dX11_byteAt_18 rfl ?_
    exact r_iret hk hR dX11_byteAt_22 h
def fX11_isLetter (nd : Nat) (w : Wd) (x0 : Int32) : Option (Int32 × Wd) :=
  if (x0 : Int32) < 97 then
    some (0, w)
  else
    if (122 : Int32) < x0 then
      some (0, w)
    else
      some (1, w)
set_option maxRecDepth 100000 in
set_option maxHeartbeats 4000000 in
theorem kX11_isLetter {l : Launch} {G : Gx} {al : Al} {w : Wd} {x0 : Int32} {r : Int32} {wz : Wd} (hN : NX G) (h : fX11_isLetter (gN G 10) w x0 = some (r, wz)) : MC l G yX11_isLetter cX11_isLetter 1 (some (.boolean)) 0 0 al w [.int x0] (some (.int r)) wz := by
  refine mc_of [(0, .int x0)] (by decide) (Nat.le_of_ble_eq_true rfl) rfl ?_
  intro K hk hR hn hl hG
  subst hl; subst hG
  have hk : VH K RX11 cX11_isLetter 0 0 := hk
  rw [fX11_isLetter.eq_1] at h
  refine r_iload_n 1 hk dX11_isLetter_0 rfl 0 rfl rfl ?_
  refine r_bipush 3 hk dX11_isLetter_1 rfl cb_97 ?_
  refine r_icmp_lt 16 6 hk dX11_isLetter_3 rfl rfl (fun c1 => ?_) (fun c1 => ?_)
  · have h := if_t c1 h
    refine r_iconst 17 hk dX11_isLetter_16 rfl ci_0 ?_
    exact r_zret hk hR dX11_isLetter_17 (by decide) h
  · have h := if_f c1 h
    refine r_iload_n 7 hk dX11_isLetter_6 rfl 0 rfl rfl ?_
    refine r_bipush 9 hk dX11_isLetter_7 rfl cb_122 ?_
    refine r_icmp_gt 16 12 hk dX11_isLetter_9 rfl rfl (fun c2 => ?_) (fun c2 => ?_)
    · have h := if_t c2 h
      refine r_iconst 17 hk dX11_isLetter_16 rfl ci_0 ?_
      exact r_zret hk hR dX11_isLetter_17 (by decide) h
    · have h := if_f c2 h
      refine r_iconst 13 hk dX11_isLetter_12 rfl ci_1 ?_
      refine r_goto 17 hk (x := 0) dX11_isLetter_13 rfl ?_
      exact r_zret hk hR dX11_isLetter_17 (by decide) h
def fX11_isDigit (nd : Nat) (w : Wd) (x0 : Int32) : Option (Int32 × Wd) :=
  if (x0 : Int32) < 48 then
    some (0, w)
  else
    if (57 : Int32) < x0 then
      some (0, w)
    else
      some (1, w)
set_option maxRecDepth 100000 in
set_option maxHeartbeats 4000000 in
theorem kX11_isDigit {l : Launch} {G : Gx} {al : Al} {w : Wd} {x0 : Int32} {r : Int32} {wz : Wd} (hN : NX G) (h : fX11_isDigit (gN G 10) w x0 = some (r, wz)) : MC l G yX11_isDigit cX11_isDigit 1 (some (.boolean)) 0 0 al w [.int x0] (some (.int r)) wz := by
  refine mc_of [(0, .int x0)] (by decide) (Nat.le_of_ble_eq_true rfl) rfl ?_
  intro K hk hR hn hl hG
  subst hl; subst hG
  have hk : VH K RX11 cX11_isDigit 0 0 := hk
  rw [fX11_isDigit.eq_1] at h
  refine r_iload_n 1 hk dX11_isDigit_0 rfl 0 rfl rfl ?_
  refine r_bipush 3 hk dX11_isDigit_1 rfl cb_48 ?_
  refine r_icmp_lt 16 6 hk dX11_isDigit_3 rfl rfl (fun c1 => ?_) (fun c1 => ?_)
  · have h := if_t c1 h
    refine r_iconst 17 hk dX11_isDigit_16 rfl ci_0 ?_
    exact r_zret hk hR dX11_isDigit_17 (by decide) h
  · have h := if_f c1 h
    refine r_iload_n 7 hk dX11_isDigit_6 rfl 0 rfl rfl ?_
    refine r_bipush 9 hk dX11_isDigit_7 rfl cb_57 ?_
    refine r_icmp_gt 16 12 hk dX11_isDigit_9 rfl rfl (fun c2 => ?_) (fun c2 => ?_)
    · have h := if_t c2 h
      refine r_iconst 17 hk dX11_isDigit_16 rfl ci_0 ?_
      exact r_zret hk hR dX11_isDigit_17 (by decide) h
    · have h := if_f c2 h
      refine r_iconst 13 hk dX11_isDigit_12 rfl ci_1 ?_
      refine r_goto 17 hk (x := 0) dX11_isDigit_13 rfl ?_
      exact r_zret hk hR dX11_isDigit_17 (by decide) h
def fX11_packed_4 (nd : Nat) (s0 : Nat) : Nat → Wd → Int64 → Int32 → Option (Int64 × Wd)
  | 0, _, _, _ => none
  | n + 1, w, x1, x3 =>
    if ((nI (slen.getD s0 0)) : Int32) ≤ x3 then
      some (x1, w)
    else
      ck (inb (x3) (slen.getD s0 0)) <|
      lw (((32 * x1) + ((((((sbyt.getD s0 []).getD (x3 : Int32).toNatClampNeg 0) - 97) + 1) : Int32).toInt64))) fun x1_3 =>
      lw (x3 + 1) fun x3_4 =>
      fX11_packed_4 nd s0 n w (x1_3) (x3_4)
def fX11_packed (nd : Nat) (s0 : Nat) (w : Wd) : Option (Int64 × Wd) :=
  fX11_packed_4 nd s0 fuel0 w (0) (0)
set_option maxRecDepth 100000 in
set_option maxHeartbeats 4000000 in
theorem sX11_packed_4 {K : VC} {al : Al} {r : Int64} {wz : Wd} {s0 : Nat} (hk : VH K RX11 cX11_packed 4 100) (hR : VR K al (some (.long)) (some (.long r)) wz) (hn : kn K = 4) (hN : NX (kG K)) (hs0 : s0 < 10) : ∀ (n : Nat) (w : Wd) (x1 : Int64) (x3 : Int32), fX11_packed_4 (gN (kG K) 10) s0 n w x1 x3 = some (r, wz) → V K al w 4 [(0, .ref ((kG K).2.2.1 s0)), (1, .long x1), (3, .int x3)] [] := by
  intro n
  induction n with
  | zero => intro w x1 x3 h; cases h
  | succ n ih =>
    intro w x1 x3 h
    rw [fX11_packed_4.eq_2] at h
    refine r_iload_n 5 hk dX11_packed_4 rfl 2 rfl rfl ?_
    refine r_aload_n 6 hk dX11_packed_5 rfl 0 rfl rfl ?_
    refine r_slen 9 hk dX11_packed_6 rfl hs0 cf_RX11_65 (Nat.le_of_ble_eq_true rfl) (Nat.le_of_ble_eq_true rfl) (Nat.le_of_ble_eq_true rfl) ?_
    refine r_icmp_ge 36 12 hk dX11_packed_9 rfl rfl (fun c1 => ?_) (fun c1 => ?_)
    · have h := if_t c1 h
      refine r_lload_n 37 hk dX11_packed_36 rfl 1 rfl rfl ?_
      exact r_lret hk hR dX11_packed_37 h
    · have h := if_f c1 h
      refine r_ldc2 15 hk dX11_packed_12 rfl kc_RX11_71 ?_
      refine r_lload_n 16 hk dX11_packed_15 rfl 1 rfl rfl ?_
      refine r_lmul 17 hk dX11_packed_16 rfl ?_
      refine r_aload_n 18 hk dX11_packed_17 rfl 0 rfl rfl ?_
      refine r_iload_n 19 hk dX11_packed_18 rfl 2 rfl rfl ?_
      obtain ⟨b2, h⟩ := ck_e h
      refine r_schar 22 hk dX11_packed_19 rfl hs0 cf_RX11_73 b2 (Nat.le_of_ble_eq_true rfl) (Nat.le_of_ble_eq_true rfl) (Nat.le_of_ble_eq_true rfl) ?_
      refine r_bipush 24 hk dX11_packed_22 rfl cb_97 ?_
      refine r_isub 25 hk dX11_packed_24 rfl ?_
      refine r_iconst 26 hk dX11_packed_25 rfl ci_1 ?_
      refine r_iadd 27 hk dX11_packed_26 rfl ?_
      refine r_i2l 28 hk dX11_packed_27 rfl ?_
      refine r_ladd 29 hk dX11_packed_28 rfl ?_
      obtain ⟨x1_3, ex1_3, h⟩ := lw_e h
      refine r_lstore_n 30 [(1, .long x1_3), (0, .ref ((kG K).2.2.1 s0)), (3, .int x3)] hk dX11_packed_29 rfl rfl hn (by decide) ex1_3 rfl ?_
      obtain ⟨x3_4, ex3_4, h⟩ := lw_e h
      refine r_iinc 33 [(3, .int x3_4), (1, .long x1_3), (0, .ref ((kG K).2.2.1 s0))] hk (j := 2) dX11_packed_30 rfl hn (by decide) rfl ex3_4 rfl ?_
      refine r_goto 4 hk (x := 0) dX11_packed_33 rfl ?_
      refine r_sub [2, 1, 0] rfl ?_
      exact ih _ _ _ h
set_option maxRecDepth 100000 in
set_option maxHeartbeats 4000000 in
theorem kX11_packed {l : Launch} {G : Gx} {al : Al} {s0 : Nat} {w : Wd} {r : Int64} {wz : Wd} (hN : NX G) (hs0 : s0 < 10) (h : fX11_packed (gN G 10) s0 w = some (r, wz)) : MC l G yX11_packed cX11_packed 4 (some (.long)) 4 100 al w [.ref (G.2.2.1 s0)] (some (.long r)) wz := by
  refine mc_of [(0, .ref (G.2.2.1 s0))] (by decide) (Nat.le_of_ble_eq_true rfl) rfl ?_
  intro K hk hR hn hl hG
  subst hl; subst hG
  have hk : VH K RX11 cX11_packed 4 100 := hk
  rw [fX11_packed.eq_1] at h
  refine r_lconst 1 hk dX11_packed_0 rfl cl_0 ?_
  refine r_lstore_n 2 [(1, .long 0), (0, .ref ((kG K).2.2.1 s0))] hk dX11_packed_1 rfl rfl hn (by decide) rfl rfl ?_
  refine r_iconst 3 hk dX11_packed_2 rfl ci_0 ?_
  refine r_istore_n 4 [(3, .int 0), (1, .long 0), (0, .ref ((kG K).2.2.1 s0))] hk dX11_packed_3 rfl rfl hn (by decide) rfl rfl ?_
  refine r_sub [2, 1, 0] rfl ?_
  exact sX11_packed_4 hk hR hn hN hs0 _ _ _ _ h
def fX11_goesOn_215 (k173 : Wd → Int32 → Option (Unit × Wd)) (nd : Nat) (w : Wd) (x2 : Int32) : Option (Unit × Wd) :=
    lw (x2 + 1) fun x2_34 =>
    lw (sI w 11 0 8 ((((w 11 0).1 8) + 1))) fun w35 =>
    k173 w35 (x2_34)
def fX11_goesOn_173 (nd : Nat) : Nat → Wd → Int32 → Option (Unit × Wd)
  | 0, _, _ => none
  | n + 1, w, x2 =>
    ob (fX11_byteAt nd w (((w 11 0).1 8))) fun r23 w24 =>
    ob (fX11_isDigit nd w24 (r23)) fun r25 w26 =>
    if (r25 : Int32) = 0 then
      if (4 : Int32) < x2 then
        some ((), w26)
      else
        lw (sI w26 11 0 9 (3)) fun w29 =>
        some ((), w29)
    else
      if (4 : Int32) ≤ x2 then
        fX11_goesOn_215 (fX11_goesOn_173 nd n) nd w26 (x2)
      else
        ob (fX11_byteAt nd w26 (((w26 11 0).1 8))) fun r31 w32 =>
        lw (sI w32 11 0 11 ((((10 * ((w26 11 0).1 11)) + r31) - 48))) fun w33 =>
        fX11_goesOn_215 (fX11_goesOn_173 nd n) nd w33 (x2)
def fX11_goesOn_131 (k84 : Wd → Int32 → Option (Unit × Wd)) (nd : Nat) (w : Wd) (x2 : Int32) : Option (Unit × Wd) :=
    lw (x2 + 1) fun x2_47 =>
    lw (sI w 11 0 8 ((((w 11 0).1 8) + 1))) fun w48 =>
    k84 w48 (x2_47)
def fX11_goesOn_84 (nd : Nat) : Nat → Wd → Int32 → Option (Unit × Wd)
  | 0, _, _ => none
  | n + 1, w, x2 =>
    ob (fX11_byteAt nd w (((w 11 0).1 8))) fun r36 w37 =>
    ob (fX11_isLetter nd w37 (r36)) fun r38 w39 =>
    if (r38 : Int32) = 0 then
      if (8 : Int32) < x2 then
        some ((), w39)
      else
        lw (sI w39 11 0 9 (2)) fun w42 =>
        some ((), w42)
    else
      if (8 : Int32) ≤ x2 then
        fX11_goesOn_131 (fX11_goesOn_84 nd n) nd w39 (x2)
      else
        ob (fX11_byteAt nd w39 (((w39 11 0).1 8))) fun r44 w45 =>
        lw (sJ w45 11 0 14 (((32 * ((w39 11 0).2.2.2 14)) + ((((r44 - 97) + 1) : Int32).toInt64)))) fun w46 =>
        fX11_goesOn_131 (fX11_goesOn_84 nd n) nd w46 (x2)
def fX11_goesOn_9 (nd : Nat) : Nat → Wd → Option (Unit × Wd)
  | 0, _ => none
  | n + 1, w =>
    ob (fX11_byteAt nd w (((w 11 0).1 8))) fun r2 w3 =>
    if (r2 : Int32) = 32 then
      lw (sI w3 11 0 8 ((((w3 11 0).1 8) + 1))) fun w22 =>
      fX11_goesOn_9 nd n w22 
    else
      lw (sI w3 11 0 10 (((w3 11 0).1 8))) fun w5 =>
      lw (sI w5 11 0 9 (0)) fun w6 =>
      ob (fX11_byteAt nd w6 (((w6 11 0).1 8))) fun r7 w8 =>
      if (r7 : Int32) = (-1) then
        lw (sI w8 11 0 9 (1)) fun w21 =>
        some ((), w21)
      else
        ob (fX11_isLetter nd w8 (r7)) fun r10 w11 =>
        if (r10 : Int32) = 0 then
          ob (fX11_isDigit nd w11 (r7)) fun r13 w14 =>
          if (r13 : Int32) = 0 then
            if (r7 : Int32) = 59 then
              lw (sI w14 11 0 9 (4)) fun w17 =>
              lw (sI w17 11 0 8 ((((w17 11 0).1 8) + 1))) fun w18 =>
              some ((), w18)
            else
              some ((), w14)
          else
            lw (sI w14 11 0 11 (0)) fun w19 =>
            fX11_goesOn_173 nd fuel0 w19 (0)
        else
          lw (sJ w11 11 0 14 (0)) fun w20 =>
          fX11_goesOn_84 nd fuel0 w20 (0)
def fX11_goesOn (nd : Nat) (w : Wd) : Option (Unit × Wd) :=
  if (((w 11 0).1 9) : Int32) = 5 then
    some ((), w)
  else
    fX11_goesOn_9 nd fuel0 w 
set_option maxRecDepth 100000 in
set_option maxHeartbeats 4000000 in
theorem sX11_goesOn_215 {K : VC} {al : Al} {r : Unit} {wz : Wd} {k173 : Wd → Int32 → Option (Unit × Wd)} (hc173 : ∀ (w : Wd) (x2 : Int32), k173 w x2 = some (r, wz) → V K al w 173 [(0, .ref (al 11 0 0)), (2, .int x2)] []) (hk : VH K RX11 cX11_goesOn 1 21) (hR : VR K al none none wz) (hn : kn K = 3) (hN : NX (kG K)) (w : Wd) (x2 : Int32) (h : fX11_goesOn_215 k173 (gN (kG K) 10) w x2 = some (r, wz)) : V K al w 215 [(0, .ref (al 11 0 0)), (2, .int x2)] [] := by
  rw [fX11_goesOn_215.eq_1] at h
  obtain ⟨x2_34, ex2_34, h⟩ := lw_e h
  refine r_iinc 218 [(2, .int x2_34), (0, .ref (al 11 0 0))] hk (j := 1) dX11_goesOn_215 rfl hn (by decide) rfl ex2_34 rfl ?_
  refine r_aload_n 219 hk dX11_goesOn_218 rfl 1 rfl rfl ?_
  refine r_dup 220 hk dX11_goesOn_219 rfl rfl ?_
  refine r_get 223 hk dX11_goesOn_220 rfl ff_RX11_80 (mk_11_0 (nx_11 hN (j := 0) (by decide))) (gv_11_8 _ _ _) ?_
  refine r_iconst 224 hk dX11_goesOn_223 rfl ci_1 ?_
  refine r_iadd 225 hk dX11_goesOn_224 rfl ?_
  obtain ⟨w35, ew35, h⟩ := lw_e h
  refine r_putI 228 w35 hk dX11_goesOn_225 rfl ff_RX11_80 fi_11_8 (mk_11_0 (nx_11 hN (j := 0) (by decide))) ew35 ?_
  refine r_goto 173 hk (x := 0) dX11_goesOn_228 rfl ?_
  refine r_sub [1, 0] rfl ?_
  exact hc173 _ _ h
set_option maxRecDepth 100000 in
set_option maxHeartbeats 4000000 in
theorem sX11_goesOn_173 {K : VC} {al : Al} {r : Unit} {wz : Wd}  (hk : VH K RX11 cX11_goesOn 1 21) (hR : VR K al none none wz) (hn : kn K = 3) (hN : NX (kG K)) : ∀ (n : Nat) (w : Wd) (x2 : Int32), fX11_goesOn_173 (gN (kG K) 10) n w x2 = some (r, wz) → V K al w 173 [(0, .ref (al 11 0 0)), (2, .int x2)] [] := by
  intro n
  induction n with
  | zero => intro w x2 h; cases h
  | succ n ih =>
    intro w x2 h
    rw [fX11_goesOn_173.eq_2] at h
    refine r_aload_n 174 hk dX11_goesOn_173 rfl 0 rfl rfl ?_
    refine r_aload_n 175 hk dX11_goesOn_174 rfl 0 rfl rfl ?_
    refine r_get 178 hk dX11_goesOn_175 rfl ff_RX11_80 (mk_11_0 (nx_11 hN (j := 0) (by decide))) (gv_11_8 _ _ _) ?_
    obtain ⟨r23, w24, ew24, h⟩ := ob_e h
    refine r_cVi 181 (As := [.int (((w 11 0).1 8))]) (rest := []) hk (kX11_byteAt hN ew24) cf_RX11_83 mi_X11_byteAt ⟨TX11, 36, rfl⟩ dX11_goesOn_178 rfl (Nat.le_of_ble_eq_true rfl) (Nat.le_of_ble_eq_true rfl) (mk_11_0 (nx_11 hN (j := 0) (by decide))) rfl rfl (Nat.le_of_ble_eq_true rfl) ?_
    obtain ⟨r25, w26, ew26, h⟩ := ob_e h
    refine r_cSi 184 (As := [.int r23]) (rest := []) hk (kX11_isDigit hN ew26) cf_RX11_97 ms_X11_isDigit dX11_goesOn_181 rfl (Nat.le_of_ble_eq_true rfl) (Nat.le_of_ble_eq_true rfl) rfl rfl (Nat.le_of_ble_eq_true rfl) ?_
    refine r_if_eq 231 187 hk dX11_goesOn_184 rfl rfl (fun c27 => ?_) (fun c27 => ?_)
    · have h := if_t c27 h
      refine r_iload_n 232 hk dX11_goesOn_231 rfl 1 rfl rfl ?_
      refine r_iconst 233 hk dX11_goesOn_232 rfl ci_4 ?_
      refine r_icmp_gt 265 236 hk dX11_goesOn_233 rfl rfl (fun c28 => ?_) (fun c28 => ?_)
      · have h := if_t c28 h
        exact r_vret hk hR dX11_goesOn_265 h
      · have h := if_f c28 h
        refine r_aload_n 237 hk dX11_goesOn_236 rfl 0 rfl rfl ?_
        refine r_iconst 238 hk dX11_goesOn_237 rfl ci_3 ?_
        obtain ⟨w29, ew29, h⟩ := lw_e h
        refine r_putI 241 w29 hk dX11_goesOn_238 rfl ff_RX11_77 fi_11_9 (mk_11_0 (nx_11 hN (j := 0) (by decide))) ew29 ?_
        refine r_goto 265 hk (x := 0) dX11_goesOn_241 rfl ?_
        exact r_vret hk hR dX11_goesOn_265 h
    · have h := if_f c27 h
      refine r_iload_n 188 hk dX11_goesOn_187 rfl 1 rfl rfl ?_
      refine r_iconst 189 hk dX11_goesOn_188 rfl ci_4 ?_
      refine r_icmp_ge 215 192 hk dX11_goesOn_189 rfl rfl (fun c30 => ?_) (fun c30 => ?_)
      · have h := if_t c30 h
        exact sX11_goesOn_215 (fun _ _ h => ih _ _ h) hk hR hn hN _ _ h
      · have h := if_f c30 h
        refine r_aload_n 193 hk dX11_goesOn_192 rfl 0 rfl rfl ?_
        refine r_bipush 195 hk dX11_goesOn_193 rfl cb_10 ?_
        refine r_aload_n 196 hk dX11_goesOn_195 rfl 0 rfl rfl ?_
        refine r_get 199 hk dX11_goesOn_196 rfl ff_RX11_100 (mk_11_0 (nx_11 hN (j := 0) (by decide))) (gv_11_11 _ _ _) ?_
        refine r_imul 200 hk dX11_goesOn_199 rfl ?_
        refine r_aload_n 201 hk dX11_goesOn_200 rfl 0 rfl rfl ?_
        refine r_aload_n 202 hk dX11_goesOn_201 rfl 0 rfl rfl ?_
        refine r_get 205 hk dX11_goesOn_202 rfl ff_RX11_80 (mk_11_0 (nx_11 hN (j := 0) (by decide))) (gv_11_8 _ _ _) ?_
        obtain ⟨r31, w32, ew32, h⟩ := ob_e h
        refine r_cVi 208 (As := [.int (((w26 11 0).1 8))]) (rest := [.int ((10 * ((w26 11 0).1 11))), .ref (al 11 0 0)]) hk (kX11_byteAt hN ew32) cf_RX11_83 mi_X11_byteAt ⟨TX11, 36, rfl⟩ dX11_goesOn_205 rfl (Nat.le_of_ble_eq_true rfl) (Nat.le_of_ble_eq_true rfl) (mk_11_0 (nx_11 hN (j := 0) (by decide))) rfl rfl (Nat.le_of_ble_eq_true rfl) ?_
        refine r_iadd 209 hk dX11_goesOn_208 rfl ?_
        refine r_bipush 211 hk dX11_goesOn_209 rfl cb_48 ?_
        refine r_isub 212 hk dX11_goesOn_211 rfl ?_
        obtain ⟨w33, ew33, h⟩ := lw_e h
        refine r_putI 215 w33 hk dX11_goesOn_212 rfl ff_RX11_100 fi_11_11 (mk_11_0 (nx_11 hN (j := 0) (by decide))) ew33 ?_
        exact sX11_goesOn_215 (fun _ _ h => ih _ _ h) hk hR hn hN _ _ h
set_option maxRecDepth 100000 in
set_option maxHeartbeats 4000000 in
theorem sX11_goesOn_131 {K : VC} {al : Al} {r : Unit} {wz : Wd} {k84 : Wd → Int32 → Option (Unit × Wd)} (hc84 : ∀ (w : Wd) (x2 : Int32), k84 w x2 = some (r, wz) → V K al w 84 [(0, .ref (al 11 0 0)), (2, .int x2)] []) (hk : VH K RX11 cX11_goesOn 1 21) (hR : VR K al none none wz) (hn : kn K = 3) (hN : NX (kG K)) (w : Wd) (x2 : Int32) (h : fX11_goesOn_131 k84 (gN (kG K) 10) w x2 = some (r, wz)) : V K al w 131 [(0, .ref (al 11 0 0)), (2, .int x2)] [] := by
  rw [fX11_goesOn_131.eq_1] at h
  obtain ⟨x2_47, ex2_47, h⟩ := lw_e h
  refine r_iinc 134 [(2, .int x2_47), (0, .ref (al 11 0 0))] hk (j := 1) dX11_goesOn_131 rfl hn (by decide) rfl ex2_47 rfl ?_
  refine r_aload_n 135 hk dX11_goesOn_134 rfl 1 rfl rfl ?_
  refine r_dup 136 hk dX11_goesOn_135 rfl rfl ?_
  refine r_get 139 hk dX11_goesOn_136 rfl ff_RX11_80 (mk_11_0 (nx_11 hN (j := 0) (by decide))) (gv_11_8 _ _ _) ?_
  refine r_iconst 140 hk dX11_goesOn_139 rfl ci_1 ?_
  refine r_iadd 141 hk dX11_goesOn_140 rfl ?_
  obtain ⟨w48, ew48, h⟩ := lw_e h
  refine r_putI 144 w48 hk dX11_goesOn_141 rfl ff_RX11_80 fi_11_8 (mk_11_0 (nx_11 hN (j := 0) (by decide))) ew48 ?_
  refine r_goto 84 hk (x := 0) dX11_goesOn_144 rfl ?_
  refine r_sub [1, 0] rfl ?_
  exact hc84 _ _ h
set_option maxRecDepth 100000 in
set_option maxHeartbeats 4000000 in
theorem sX11_goesOn_84 {K : VC} {al : Al} {r : Unit} {wz : Wd}  (hk : VH K RX11 cX11_goesOn 1 21) (hR : VR K al none none wz) (hn : kn K = 3) (hN : NX (kG K)) : ∀ (n : Nat) (w : Wd) (x2 : Int32), fX11_goesOn_84 (gN (kG K) 10) n w x2 = some (r, wz) → V K al w 84 [(0, .ref (al 11 0 0)), (2, .int x2)] [] := by
  intro n
  induction n with
  | zero => intro w x2 h; cases h
  | succ n ih =>
    intro w x2 h
    rw [fX11_goesOn_84.eq_2] at h
    refine r_aload_n 85 hk dX11_goesOn_84 rfl 0 rfl rfl ?_
    refine r_aload_n 86 hk dX11_goesOn_85 rfl 0 rfl rfl ?_
    refine r_get 89 hk dX11_goesOn_86 rfl ff_RX11_80 (mk_11_0 (nx_11 hN (j := 0) (by decide))) (gv_11_8 _ _ _) ?_
    obtain ⟨r36, w37, ew37, h⟩ := ob_e h
    refine r_cVi 92 (As := [.int (((w 11 0).1 8))]) (rest := []) hk (kX11_byteAt hN ew37) cf_RX11_83 mi_X11_byteAt ⟨TX11, 36, rfl⟩ dX11_goesOn_89 rfl (Nat.le_of_ble_eq_true rfl) (Nat.le_of_ble_eq_true rfl) (mk_11_0 (nx_11 hN (j := 0) (by decide))) rfl rfl (Nat.le_of_ble_eq_true rfl) ?_
    obtain ⟨r38, w39, ew39, h⟩ := ob_e h
    refine r_cSi 95 (As := [.int r36]) (rest := []) hk (kX11_isLetter hN ew39) cf_RX11_89 ms_X11_isLetter dX11_goesOn_92 rfl (Nat.le_of_ble_eq_true rfl) (Nat.le_of_ble_eq_true rfl) rfl rfl (Nat.le_of_ble_eq_true rfl) ?_
    refine r_if_eq 147 98 hk dX11_goesOn_95 rfl rfl (fun c40 => ?_) (fun c40 => ?_)
    · have h := if_t c40 h
      refine r_iload_n 148 hk dX11_goesOn_147 rfl 1 rfl rfl ?_
      refine r_bipush 150 hk dX11_goesOn_148 rfl cb_8 ?_
      refine r_icmp_gt 265 153 hk dX11_goesOn_150 rfl rfl (fun c41 => ?_) (fun c41 => ?_)
      · have h := if_t c41 h
        exact r_vret hk hR dX11_goesOn_265 h
      · have h := if_f c41 h
        refine r_aload_n 154 hk dX11_goesOn_153 rfl 0 rfl rfl ?_
        refine r_iconst 155 hk dX11_goesOn_154 rfl ci_2 ?_
        obtain ⟨w42, ew42, h⟩ := lw_e h
        refine r_putI 158 w42 hk dX11_goesOn_155 rfl ff_RX11_77 fi_11_9 (mk_11_0 (nx_11 hN (j := 0) (by decide))) ew42 ?_
        refine r_goto 265 hk (x := 0) dX11_goesOn_158 rfl ?_
        exact r_vret hk hR dX11_goesOn_265 h
    · have h := if_f c40 h
      refine r_iload_n 99 hk dX11_goesOn_98 rfl 1 rfl rfl ?_
      refine r_bipush 101 hk dX11_goesOn_99 rfl cb_8 ?_
      refine r_icmp_ge 131 104 hk dX11_goesOn_101 rfl rfl (fun c43 => ?_) (fun c43 => ?_)
      · have h := if_t c43 h
        exact sX11_goesOn_131 (fun _ _ h => ih _ _ h) hk hR hn hN _ _ h
      · have h := if_f c43 h
        refine r_aload_n 105 hk dX11_goesOn_104 rfl 0 rfl rfl ?_
        refine r_ldc2 108 hk dX11_goesOn_105 rfl kc_RX11_71 ?_
        refine r_aload_n 109 hk dX11_goesOn_108 rfl 0 rfl rfl ?_
        refine r_get 112 hk dX11_goesOn_109 rfl ff_RX11_93 (mk_11_0 (nx_11 hN (j := 0) (by decide))) (gv_11_14 _ _ _) ?_
        refine r_lmul 113 hk dX11_goesOn_112 rfl ?_
        refine r_aload_n 114 hk dX11_goesOn_113 rfl 0 rfl rfl ?_
        refine r_aload_n 115 hk dX11_goesOn_114 rfl 0 rfl rfl ?_
        refine r_get 118 hk dX11_goesOn_115 rfl ff_RX11_80 (mk_11_0 (nx_11 hN (j := 0) (by decide))) (gv_11_8 _ _ _) ?_
        obtain ⟨r44, w45, ew45, h⟩ := ob_e h
        refine r_cVi 121 (As := [.int (((w39 11 0).1 8))]) (rest := [.long ((32 * ((w39 11 0).2.2.2 14))), .ref (al 11 0 0)]) hk (kX11_byteAt hN ew45) cf_RX11_83 mi_X11_byteAt ⟨TX11, 36, rfl⟩ dX11_goesOn_118 rfl (Nat.le_of_ble_eq_true rfl) (Nat.le_of_ble_eq_true rfl) (mk_11_0 (nx_11 hN (j := 0) (by decide))) rfl rfl (Nat.le_of_ble_eq_true rfl) ?_
        refine r_bipush 123 hk dX11_goesOn_121 rfl cb_97 ?_
        refine r_isub 124 hk dX11_goesOn_123 rfl ?_
        refine r_iconst 125 hk dX11_goesOn_124 rfl ci_1 ?_
        refine r_iadd 126 hk dX11_goesOn_125 rfl ?_
        refine r_i2l 127 hk dX11_goesOn_126 rfl ?_
        refine r_ladd 128 hk dX11_goesOn_127 rfl ?_
        obtain ⟨w46, ew46, h⟩ := lw_e h
        refine r_putJ 131 w46 hk dX11_goesOn_128 rfl ff_RX11_93 fi_11_14 (by decide) (mk_11_0 (nx_11 hN (j := 0) (by decide))) ew46 ?_
        exact sX11_goesOn_131 (fun _ _ h => ih _ _ h) hk hR hn hN _ _ h
set_option maxRecDepth 100000 in
set_option maxHeartbeats 4000000 in
theorem sX11_goesOn_9 {K : VC} {al : Al} {r : Unit} {wz : Wd}  (hk : VH K RX11 cX11_goesOn 1 21) (hR : VR K al none none wz) (hn : kn K = 3) (hN : NX (kG K)) : ∀ (n : Nat) (w : Wd) , fX11_goesOn_9 (gN (kG K) 10) n w = some (r, wz) → V K al w 9 [(0, .ref (al 11 0 0))] [] := by
  intro n
  induction n with
  | zero => intro w  h; cases h
  | succ n ih =>
    intro w  h
    rw [fX11_goesOn_9.eq_2] at h
    refine r_aload_n 10 hk dX11_goesOn_9 rfl 0 rfl rfl ?_
    refine r_aload_n 11 hk dX11_goesOn_10 rfl 0 rfl rfl ?_
    refine r_get 14 hk dX11_goesOn_11 rfl ff_RX11_80 (mk_11_0 (nx_11 hN (j := 0) (by decide))) (gv_11_8 _ _ _) ?_
    obtain ⟨r2, w3, ew3, h⟩ := ob_e h
    refine r_cVi 17 (As := [.int (((w 11 0).1 8))]) (rest := []) hk (kX11_byteAt hN ew3) cf_RX11_83 mi_X11_byteAt ⟨TX11, 36, rfl⟩ dX11_goesOn_14 rfl (Nat.le_of_ble_eq_true rfl) (Nat.le_of_ble_eq_true rfl) (mk_11_0 (nx_11 hN (j := 0) (by decide))) rfl rfl (Nat.le_of_ble_eq_true rfl) ?_
    refine r_bipush 19 hk dX11_goesOn_17 rfl cb_32 ?_
    refine r_icmp_ne 35 22 hk dX11_goesOn_19 rfl rfl (fun c4 => ?_) (fun c4 => ?_)
    · have h := if_f c4 h
      refine r_aload_n 36 hk dX11_goesOn_35 rfl 0 rfl rfl ?_
      refine r_aload_n 37 hk dX11_goesOn_36 rfl 0 rfl rfl ?_
      refine r_get 40 hk dX11_goesOn_37 rfl ff_RX11_80 (mk_11_0 (nx_11 hN (j := 0) (by decide))) (gv_11_8 _ _ _) ?_
      obtain ⟨w5, ew5, h⟩ := lw_e h
      refine r_putI 43 w5 hk dX11_goesOn_40 rfl ff_RX11_86 fi_11_10 (mk_11_0 (nx_11 hN (j := 0) (by decide))) ew5 ?_
      refine r_aload_n 44 hk dX11_goesOn_43 rfl 0 rfl rfl ?_
      refine r_iconst 45 hk dX11_goesOn_44 rfl ci_0 ?_
      obtain ⟨w6, ew6, h⟩ := lw_e h
      refine r_putI 48 w6 hk dX11_goesOn_45 rfl ff_RX11_77 fi_11_9 (mk_11_0 (nx_11 hN (j := 0) (by decide))) ew6 ?_
      refine r_aload_n 49 hk dX11_goesOn_48 rfl 0 rfl rfl ?_
      refine r_aload_n 50 hk dX11_goesOn_49 rfl 0 rfl rfl ?_
      refine r_get 53 hk dX11_goesOn_50 rfl ff_RX11_80 (mk_11_0 (nx_11 hN (j := 0) (by decide))) (gv_11_8 _ _ _) ?_
      obtain ⟨r7, w8, ew8, h⟩ := ob_e h
      refine r_cVi 56 (As := [.int (((w6 11 0).1 8))]) (rest := []) hk (kX11_byteAt hN ew8) cf_RX11_83 mi_X11_byteAt ⟨TX11, 36, rfl⟩ dX11_goesOn_53 rfl (Nat.le_of_ble_eq_true rfl) (Nat.le_of_ble_eq_true rfl) (mk_11_0 (nx_11 hN (j := 0) (by decide))) rfl rfl (Nat.le_of_ble_eq_true rfl) ?_
      refine r_istore_n 57 [(1, .int r7), (0, .ref (al 11 0 0))] hk dX11_goesOn_56 rfl rfl hn (by decide) rfl rfl ?_
      refine r_iconst 58 hk dX11_goesOn_57 rfl ci_0 ?_
      refine r_istore_n 59 [(2, .int 0), (1, .int r7), (0, .ref (al 11 0 0))] hk dX11_goesOn_58 rfl rfl hn (by decide) rfl rfl ?_
      refine r_iload_n 60 hk dX11_goesOn_59 rfl 1 rfl rfl ?_
      refine r_iconst 61 hk dX11_goesOn_60 rfl ci_m1 ?_
      refine r_icmp_ne 72 64 hk dX11_goesOn_61 rfl rfl (fun c9 => ?_) (fun c9 => ?_)
      · have h := if_f c9 h
        refine r_iload_n 73 hk dX11_goesOn_72 rfl 1 rfl rfl ?_
        obtain ⟨r10, w11, ew11, h⟩ := ob_e h
        refine r_cSi 76 (As := [.int r7]) (rest := []) hk (kX11_isLetter hN ew11) cf_RX11_89 ms_X11_isLetter dX11_goesOn_73 rfl (Nat.le_of_ble_eq_true rfl) (Nat.le_of_ble_eq_true rfl) rfl rfl (Nat.le_of_ble_eq_true rfl) ?_
        refine r_if_eq 161 79 hk dX11_goesOn_76 rfl rfl (fun c12 => ?_) (fun c12 => ?_)
        · have h := if_t c12 h
          refine r_iload_n 162 hk dX11_goesOn_161 rfl 1 rfl rfl ?_
          obtain ⟨r13, w14, ew14, h⟩ := ob_e h
          refine r_cSi 165 (As := [.int r7]) (rest := []) hk (kX11_isDigit hN ew14) cf_RX11_97 ms_X11_isDigit dX11_goesOn_162 rfl (Nat.le_of_ble_eq_true rfl) (Nat.le_of_ble_eq_true rfl) rfl rfl (Nat.le_of_ble_eq_true rfl) ?_
          refine r_if_eq 244 168 hk dX11_goesOn_165 rfl rfl (fun c15 => ?_) (fun c15 => ?_)
          · have h := if_t c15 h
            refine r_iload_n 245 hk dX11_goesOn_244 rfl 1 rfl rfl ?_
            refine r_bipush 247 hk dX11_goesOn_245 rfl cb_59 ?_
            refine r_icmp_ne 265 250 hk dX11_goesOn_247 rfl rfl (fun c16 => ?_) (fun c16 => ?_)
            · have h := if_f c16 h
              exact r_vret hk hR dX11_goesOn_265 h
            · have h := if_t c16 h
              refine r_aload_n 251 hk dX11_goesOn_250 rfl 2 rfl rfl ?_
              refine r_iconst 252 hk dX11_goesOn_251 rfl ci_4 ?_
              obtain ⟨w17, ew17, h⟩ := lw_e h
              refine r_putI 255 w17 hk dX11_goesOn_252 rfl ff_RX11_77 fi_11_9 (mk_11_0 (nx_11 hN (j := 0) (by decide))) ew17 ?_
              refine r_aload_n 256 hk dX11_goesOn_255 rfl 2 rfl rfl ?_
              refine r_dup 257 hk dX11_goesOn_256 rfl rfl ?_
              refine r_get 260 hk dX11_goesOn_257 rfl ff_RX11_80 (mk_11_0 (nx_11 hN (j := 0) (by decide))) (gv_11_8 _ _ _) ?_
              refine r_iconst 261 hk dX11_goesOn_260 rfl ci_1 ?_
              refine r_iadd 262 hk dX11_goesOn_261 rfl ?_
              obtain ⟨w18, ew18, h⟩ := lw_e h
              refine r_putI 265 w18 hk dX11_goesOn_262 rfl ff_RX11_80 fi_11_8 (mk_11_0 (nx_11 hN (j := 0) (by decide))) ew18 ?_
              exact r_vret hk hR dX11_goesOn_265 h
          · have h := if_f c15 h
            refine r_aload_n 169 hk dX11_goesOn_168 rfl 2 rfl rfl ?_
            refine r_iconst 170 hk dX11_goesOn_169 rfl ci_0 ?_
            obtain ⟨w19, ew19, h⟩ := lw_e h
            refine r_putI 173 w19 hk dX11_goesOn_170 rfl ff_RX11_100 fi_11_11 (mk_11_0 (nx_11 hN (j := 0) (by decide))) ew19 ?_
            refine r_sub [2, 0] rfl ?_
            exact sX11_goesOn_173 hk hR hn hN _ _ _ h
        · have h := if_f c12 h
          refine r_aload_n 80 hk dX11_goesOn_79 rfl 2 rfl rfl ?_
          refine r_lconst 81 hk dX11_goesOn_80 rfl cl_0 ?_
          obtain ⟨w20, ew20, h⟩ := lw_e h
          refine r_putJ 84 w20 hk dX11_goesOn_81 rfl ff_RX11_93 fi_11_14 (by decide) (mk_11_0 (nx_11 hN (j := 0) (by decide))) ew20 ?_
          refine r_sub [2, 0] rfl ?_
          exact sX11_goesOn_84 hk hR hn hN _ _ _ h
      · have h := if_t c9 h
        refine r_aload_n 65 hk dX11_goesOn_64 rfl 2 rfl rfl ?_
        refine r_iconst 66 hk dX11_goesOn_65 rfl ci_1 ?_
        obtain ⟨w21, ew21, h⟩ := lw_e h
        refine r_putI 69 w21 hk dX11_goesOn_66 rfl ff_RX11_77 fi_11_9 (mk_11_0 (nx_11 hN (j := 0) (by decide))) ew21 ?_
        refine r_goto 265 hk (x := 0) dX11_goesOn_69 rfl ?_
        exact r_vret hk hR dX11_goesOn_265 h
    · have h := if_t c4 h
      refine r_aload_n 23 hk dX11_goesOn_22 rfl 0 rfl rfl ?_
      refine r_dup 24 hk dX11_goesOn_23 rfl rfl ?_
      refine r_get 27 hk dX11_goesOn_24 rfl ff_RX11_80 (mk_11_0 (nx_11 hN (j := 0) (by decide))) (gv_11_8 _ _ _) ?_
      refine r_iconst 28 hk dX11_goesOn_27 rfl ci_1 ?_
      refine r_iadd 29 hk dX11_goesOn_28 rfl ?_
      obtain ⟨w22, ew22, h⟩ := lw_e h
      refine r_putI 32 w22 hk dX11_goesOn_29 rfl ff_RX11_80 fi_11_8 (mk_11_0 (nx_11 hN (j := 0) (by decide))) ew22 ?_
      refine r_goto 9 hk (x := 0) dX11_goesOn_32 rfl ?_
      exact ih _ h
set_option maxRecDepth 100000 in
set_option maxHeartbeats 4000000 in
theorem kX11_goesOn {l : Launch} {G : Gx} {al : Al} {w : Wd} {r : Unit} {wz : Wd} (hN : NX G) (h : fX11_goesOn (gN G 10) w = some (r, wz)) : MC l G yX11_goesOn cX11_goesOn 3 none 1 21 al w [.ref (al 11 0 0)] none wz := by
  refine mc_of [(0, .ref (al 11 0 0))] (by decide) (Nat.le_of_ble_eq_true rfl) rfl ?_
  intro K hk hR hn hl hG
  subst hl; subst hG
  have hk : VH K RX11 cX11_goesOn 1 21 := hk
  rw [fX11_goesOn.eq_1] at h
  refine r_aload_n 1 hk dX11_goesOn_0 rfl 0 rfl rfl ?_
  refine r_get 4 hk dX11_goesOn_1 rfl ff_RX11_77 (mk_11_0 (nx_11 hN (j := 0) (by decide))) (gv_11_9 _ _ _) ?_
  refine r_iconst 5 hk dX11_goesOn_4 rfl ci_5 ?_
  refine r_icmp_ne 9 8 hk dX11_goesOn_5 rfl rfl (fun c1 => ?_) (fun c1 => ?_)
  · have h := if_f c1 h
    exact sX11_goesOn_9 hk hR hn hN _ _ h
  · have h := if_t c1 h
    exact r_vret hk hR dX11_goesOn_8 h
def fX11_flaw (nd : Nat) (w : Wd) (x1 : Int32) : Option (Unit × Wd) :=
  if (((w 11 0).1 9) : Int32) = 5 then
    some ((), w)
  else
    lw (sI w 11 0 12 (x1)) fun w2 =>
    lw (sI w2 11 0 13 (((w2 11 0).1 10))) fun w3 =>
    lw (sI w3 11 0 9 (5)) fun w4 =>
    some ((), w4)
set_option maxRecDepth 100000 in
set_option maxHeartbeats 4000000 in
theorem kX11_flaw {l : Launch} {G : Gx} {al : Al} {w : Wd} {x1 : Int32} {r : Unit} {wz : Wd} (hN : NX G) (h : fX11_flaw (gN G 10) w x1 = some (r, wz)) : MC l G yX11_flaw cX11_flaw 2 none 0 0 al w [.ref (al 11 0 0), .int x1] none wz := by
  refine mc_of [(0, .ref (al 11 0 0)), (1, .int x1)] (by decide) (Nat.le_of_ble_eq_true rfl) rfl ?_
  intro K hk hR hn hl hG
  subst hl; subst hG
  have hk : VH K RX11 cX11_flaw 0 0 := hk
  rw [fX11_flaw.eq_1] at h
  refine r_aload_n 1 hk dX11_flaw_0 rfl 0 rfl rfl ?_
  refine r_get 4 hk dX11_flaw_1 rfl ff_RX11_77 (mk_11_0 (nx_11 hN (j := 0) (by decide))) (gv_11_9 _ _ _) ?_
  refine r_iconst 5 hk dX11_flaw_4 rfl ci_5 ?_
  refine r_icmp_ne 9 8 hk dX11_flaw_5 rfl rfl (fun c1 => ?_) (fun c1 => ?_)
  · have h := if_f c1 h
    refine r_aload_n 10 hk dX11_flaw_9 rfl 0 rfl rfl ?_
    refine r_iload_n 11 hk dX11_flaw_10 rfl 1 rfl rfl ?_
    obtain ⟨w2, ew2, h⟩ := lw_e h
    refine r_putI 14 w2 hk dX11_flaw_11 rfl ff_RX11_103 fi_11_12 (mk_11_0 (nx_11 hN (j := 0) (by decide))) ew2 ?_
    refine r_aload_n 15 hk dX11_flaw_14 rfl 0 rfl rfl ?_
    refine r_aload_n 16 hk dX11_flaw_15 rfl 0 rfl rfl ?_
    refine r_get 19 hk dX11_flaw_16 rfl ff_RX11_86 (mk_11_0 (nx_11 hN (j := 0) (by decide))) (gv_11_10 _ _ _) ?_
    obtain ⟨w3, ew3, h⟩ := lw_e h
    refine r_putI 22 w3 hk dX11_flaw_19 rfl ff_RX11_106 fi_11_13 (mk_11_0 (nx_11 hN (j := 0) (by decide))) ew3 ?_
    refine r_aload_n 23 hk dX11_flaw_22 rfl 0 rfl rfl ?_
    refine r_iconst 24 hk dX11_flaw_23 rfl ci_5 ?_
    obtain ⟨w4, ew4, h⟩ := lw_e h
    refine r_putI 27 w4 hk dX11_flaw_24 rfl ff_RX11_77 fi_11_9 (mk_11_0 (nx_11 hN (j := 0) (by decide))) ew4 ?_
    exact r_vret hk hR dX11_flaw_27 h
  · have h := if_t c1 h
    exact r_vret hk hR dX11_flaw_8 h
def fX11_isWord (nd : Nat) (s1 : Nat) (w : Wd) : Option (Int32 × Wd) :=
  if (((w 11 0).1 9) : Int32) = 2 then
    ob (fX11_packed nd s1 w ) fun r2 w3 =>
    if ((lg_cmp ((w 11 0).2.2.2 14) r2) : Int32) = 0 then
      some (1, w3)
    else
      some (0, w3)
  else
    some (0, w)
set_option maxRecDepth 100000 in
set_option maxHeartbeats 4000000 in
theorem kX11_isWord {l : Launch} {G : Gx} {al : Al} {s1 : Nat} {w : Wd} {r : Int32} {wz : Wd} (hN : NX G) (hs1 : s1 < 10) (h : fX11_isWord (gN G 10) s1 w = some (r, wz)) : MC l G yX11_isWord cX11_isWord 2 (some (.boolean)) 5 123 al w [.ref (al 11 0 0), .ref (G.2.2.1 s1)] (some (.int r)) wz := by
  refine mc_of [(0, .ref (al 11 0 0)), (1, .ref (G.2.2.1 s1))] (by decide) (Nat.le_of_ble_eq_true rfl) rfl ?_
  intro K hk hR hn hl hG
  subst hl; subst hG
  have hk : VH K RX11 cX11_isWord 5 123 := hk
  rw [fX11_isWord.eq_1] at h
  refine r_aload_n 1 hk dX11_isWord_0 rfl 0 rfl rfl ?_
  refine r_get 4 hk dX11_isWord_1 rfl ff_RX11_77 (mk_11_0 (nx_11 hN (j := 0) (by decide))) (gv_11_9 _ _ _) ?_
  refine r_iconst 5 hk dX11_isWord_4 rfl ci_2 ?_
  refine r_icmp_ne 24 8 hk dX11_isWord_5 rfl rfl (fun c1 => ?_) (fun c1 => ?_)
  · have h := if_f c1 h
    refine r_iconst 25 hk dX11_isWord_24 rfl ci_0 ?_
    exact r_zret hk hR dX11_isWord_25 (by decide) h
  · have h := if_t c1 h
    refine r_aload_n 9 hk dX11_isWord_8 rfl 0 rfl rfl ?_
    refine r_get 12 hk dX11_isWord_9 rfl ff_RX11_93 (mk_11_0 (nx_11 hN (j := 0) (by decide))) (gv_11_14 _ _ _) ?_
    refine r_aload_n 13 hk dX11_isWord_12 rfl 1 rfl rfl ?_
    obtain ⟨r2, w3, ew3, h⟩ := ob_e h
    refine r_cSl 16 (As := [.ref ((kG K).2.2.1 s1)]) (rest := [.long (((w 11 0).2.2.2 14))]) hk (kX11_packed hN hs1 ew3) cf_RX11_109 ms_X11_packed dX11_isWord_13 rfl (Nat.le_of_ble_eq_true rfl) (Nat.le_of_ble_eq_true rfl) rfl rfl (Nat.le_of_ble_eq_true rfl) ?_
    refine r_lcmp 17 hk dX11_isWord_16 rfl ?_
    refine r_if_ne 24 20 hk dX11_isWord_17 rfl rfl (fun c4 => ?_) (fun c4 => ?_)
    · have h := if_f c4 h
      refine r_iconst 25 hk dX11_isWord_24 rfl ci_0 ?_
      exact r_zret hk hR dX11_isWord_25 (by decide) h
    · have h := if_t c4 h
      refine r_iconst 21 hk dX11_isWord_20 rfl ci_1 ?_
      refine r_goto 25 hk (x := 0) dX11_isWord_21 rfl ?_
      exact r_zret hk hR dX11_isWord_25 (by decide) h
def fX11_eatsSemicolon_13 (nd : Nat) (w : Wd) (t0 : Int32) : Option (Int32 × Wd) :=
    if (t0 : Int32) = 0 then
      ck (isb (t0)) <|
      some (t0, w)
    else
      ob (fX11_goesOn nd w ) fun _ w5 =>
      ck (isb (t0)) <|
      some (t0, w5)
def fX11_eatsSemicolon (nd : Nat) (w : Wd) : Option (Int32 × Wd) :=
  if (((w 11 0).1 9) : Int32) = 4 then
    fX11_eatsSemicolon_13 nd w (1)
  else
    fX11_eatsSemicolon_13 nd w (0)
set_option maxRecDepth 100000 in
set_option maxHeartbeats 4000000 in
theorem sX11_eatsSemicolon_13 {K : VC} {al : Al} {r : Int32} {wz : Wd}  (hk : VH K RX11 cX11_eatsSemicolon 2 43) (hR : VR K al (some (.boolean)) (some (.int r)) wz) (hn : kn K = 2) (hN : NX (kG K)) (w : Wd) (t0 : Int32) (h : fX11_eatsSemicolon_13 (gN (kG K) 10) w t0 = some (r, wz)) : V K al w 13 [(0, .ref (al 11 0 0))] [.int t0] := by
  rw [fX11_eatsSemicolon_13.eq_1] at h
  refine r_istore_n 14 [(1, .int t0), (0, .ref (al 11 0 0))] hk dX11_eatsSemicolon_13 rfl rfl hn (by decide) rfl rfl ?_
  refine r_iload_n 15 hk dX11_eatsSemicolon_14 rfl 0 rfl rfl ?_
  refine r_if_eq 22 18 hk dX11_eatsSemicolon_15 rfl rfl (fun c2 => ?_) (fun c2 => ?_)
  · have h := if_t c2 h
    refine r_iload_n 23 hk dX11_eatsSemicolon_22 rfl 0 rfl rfl ?_
    obtain ⟨b3, h⟩ := ck_e h
    exact r_zret hk hR dX11_eatsSemicolon_23 b3 h
  · have h := if_f c2 h
    refine r_aload_n 19 hk dX11_eatsSemicolon_18 rfl 1 rfl rfl ?_
    obtain ⟨r4, w5, ew5, h⟩ := ob_e h
    refine r_cVv 22 (As := []) (rest := []) hk (kX11_goesOn hN ew5) cf_RX11_113 mi_X11_goesOn ⟨TX11, 36, rfl⟩ dX11_eatsSemicolon_19 rfl (Nat.le_of_ble_eq_true rfl) (Nat.le_of_ble_eq_true rfl) (mk_11_0 (nx_11 hN (j := 0) (by decide))) rfl rfl (Nat.le_of_ble_eq_true rfl) ?_
    refine r_iload_n 23 hk dX11_eatsSemicolon_22 rfl 0 rfl rfl ?_
    obtain ⟨b6, h⟩ := ck_e h
    exact r_zret hk hR dX11_eatsSemicolon_23 b6 h
set_option maxRecDepth 100000 in
set_option maxHeartbeats 4000000 in
theorem kX11_eatsSemicolon {l : Launch} {G : Gx} {al : Al} {w : Wd} {r : Int32} {wz : Wd} (hN : NX G) (h : fX11_eatsSemicolon (gN G 10) w = some (r, wz)) : MC l G yX11_eatsSemicolon cX11_eatsSemicolon 2 (some (.boolean)) 2 43 al w [.ref (al 11 0 0)] (some (.int r)) wz := by
  refine mc_of [(0, .ref (al 11 0 0))] (by decide) (Nat.le_of_ble_eq_true rfl) rfl ?_
  intro K hk hR hn hl hG
  subst hl; subst hG
  have hk : VH K RX11 cX11_eatsSemicolon 2 43 := hk
  rw [fX11_eatsSemicolon.eq_1] at h
  refine r_aload_n 1 hk dX11_eatsSemicolon_0 rfl 0 rfl rfl ?_
  refine r_get 4 hk dX11_eatsSemicolon_1 rfl ff_RX11_77 (mk_11_0 (nx_11 hN (j := 0) (by decide))) (gv_11_9 _ _ _) ?_
  refine r_iconst 5 hk dX11_eatsSemicolon_4 rfl ci_4 ?_
  refine r_icmp_ne 12 8 hk dX11_eatsSemicolon_5 rfl rfl (fun c1 => ?_) (fun c1 => ?_)
  · have h := if_f c1 h
    refine r_iconst 13 hk dX11_eatsSemicolon_12 rfl ci_0 ?_
    exact sX11_eatsSemicolon_13 hk hR hn hN _ _ h
  · have h := if_t c1 h
    refine r_iconst 9 hk dX11_eatsSemicolon_8 rfl ci_1 ?_
    refine r_goto 13 hk (x := 0) dX11_eatsSemicolon_9 rfl ?_
    exact sX11_eatsSemicolon_13 hk hR hn hN _ _ h
def fX11_needs (nd : Nat) (s1 : Nat) (w : Wd) : Option (Unit × Wd) :=
  ob (fX11_isWord nd s1 w ) fun r1 w2 =>
  if (r1 : Int32) = 0 then
    ob (fX11_flaw nd w2 (1)) fun _ w7 =>
    ob (fX11_goesOn nd w7 ) fun _ w9 =>
    some ((), w9)
  else
    ob (fX11_goesOn nd w2 ) fun _ w5 =>
    some ((), w5)
set_option maxRecDepth 100000 in
set_option maxHeartbeats 4000000 in
theorem kX11_needs {l : Launch} {G : Gx} {al : Al} {s1 : Nat} {w : Wd} {r : Unit} {wz : Wd} (hN : NX G) (hs1 : s1 < 10) (h : fX11_needs (gN G 10) s1 w = some (r, wz)) : MC l G yX11_needs cX11_needs 2 none 6 144 al w [.ref (al 11 0 0), .ref (G.2.2.1 s1)] none wz := by
  refine mc_of [(0, .ref (al 11 0 0)), (1, .ref (G.2.2.1 s1))] (by decide) (Nat.le_of_ble_eq_true rfl) rfl ?_
  intro K hk hR hn hl hG
  subst hl; subst hG
  have hk : VH K RX11 cX11_needs 6 144 := hk
  rw [fX11_needs.eq_1] at h
  refine r_aload_n 1 hk dX11_needs_0 rfl 0 rfl rfl ?_
  refine r_aload_n 2 hk dX11_needs_1 rfl 1 rfl rfl ?_
  obtain ⟨r1, w2, ew2, h⟩ := ob_e h
  refine r_cVi 5 (As := [.ref ((kG K).2.2.1 s1)]) (rest := []) hk (kX11_isWord hN hs1 ew2) cf_RX11_116 mi_X11_isWord ⟨TX11, 36, rfl⟩ dX11_needs_2 rfl (Nat.le_of_ble_eq_true rfl) (Nat.le_of_ble_eq_true rfl) (mk_11_0 (nx_11 hN (j := 0) (by decide))) rfl rfl (Nat.le_of_ble_eq_true rfl) ?_
  refine r_if_ne 13 8 hk dX11_needs_5 rfl rfl (fun c3 => ?_) (fun c3 => ?_)
  · have h := if_f c3 h
    refine r_aload_n 14 hk dX11_needs_13 rfl 0 rfl rfl ?_
    obtain ⟨r4, w5, ew5, h⟩ := ob_e h
    refine r_cVv 17 (As := []) (rest := []) hk (kX11_goesOn hN ew5) cf_RX11_113 mi_X11_goesOn ⟨TX11, 36, rfl⟩ dX11_needs_14 rfl (Nat.le_of_ble_eq_true rfl) (Nat.le_of_ble_eq_true rfl) (mk_11_0 (nx_11 hN (j := 0) (by decide))) rfl rfl (Nat.le_of_ble_eq_true rfl) ?_
    exact r_vret hk hR dX11_needs_17 h
  · have h := if_t c3 h
    refine r_aload_n 9 hk dX11_needs_8 rfl 0 rfl rfl ?_
    refine r_iconst 10 hk dX11_needs_9 rfl ci_1 ?_
    obtain ⟨r6, w7, ew7, h⟩ := ob_e h
    refine r_cVv 13 (As := [.int 1]) (rest := []) hk (kX11_flaw hN ew7) cf_RX11_120 mi_X11_flaw ⟨TX11, 36, rfl⟩ dX11_needs_10 rfl (Nat.le_of_ble_eq_true rfl) (Nat.le_of_ble_eq_true rfl) (mk_11_0 (nx_11 hN (j := 0) (by decide))) rfl rfl (Nat.le_of_ble_eq_true rfl) ?_
    refine r_aload_n 14 hk dX11_needs_13 rfl 0 rfl rfl ?_
    obtain ⟨r8, w9, ew9, h⟩ := ob_e h
    refine r_cVv 17 (As := []) (rest := []) hk (kX11_goesOn hN ew9) cf_RX11_113 mi_X11_goesOn ⟨TX11, 36, rfl⟩ dX11_needs_14 rfl (Nat.le_of_ble_eq_true rfl) (Nat.le_of_ble_eq_true rfl) (mk_11_0 (nx_11 hN (j := 0) (by decide))) rfl rfl (Nat.le_of_ble_eq_true rfl) ?_
    exact r_vret hk hR dX11_needs_17 h
def fX11_wholeAt_33 (nd : Nat) (w : Wd) (x1 : Int32) : Option (Int32 × Wd) :=
    if (((w 11 0).1 9) : Int32) = 5 then
      some (x1, w)
    else
      some (((w 11 0).1 11), w)
def fX11_wholeAt (nd : Nat) (w : Wd) (x1 : Int32) (x2 : Int32) : Option (Int32 × Wd) :=
  if (((w 11 0).1 9) : Int32) = 3 then
    ob (fX11_in nd w (((w 11 0).1 11)) (x1) (x2)) fun r2 w3 =>
    if (r2 : Int32) = 0 then
      ob (fX11_flaw nd w3 (4)) fun _ w6 =>
      fX11_wholeAt_33 nd w6 (x1)
    else
      fX11_wholeAt_33 nd w3 (x1)
  else
    ob (fX11_flaw nd w (1)) fun _ w8 =>
    fX11_wholeAt_33 nd w8 (x1)
set_option maxRecDepth 100000 in
set_option maxHeartbeats 4000000 in
theorem sX11_wholeAt_33 {K : VC} {al : Al} {r : Int32} {wz : Wd}  (hk : VH K RX11 cX11_wholeAt 1 22) (hR : VR K al (some (.int)) (some (.int r)) wz) (hn : kn K = 3) (hN : NX (kG K)) (w : Wd) (x1 : Int32) (h : fX11_wholeAt_33 (gN (kG K) 10) w x1 = some (r, wz)) : V K al w 33 [(0, .ref (al 11 0 0)), (1, .int x1)] [] := by
  rw [fX11_wholeAt_33.eq_1] at h
  refine r_aload_n 34 hk dX11_wholeAt_33 rfl 0 rfl rfl ?_
  refine r_get 37 hk dX11_wholeAt_34 rfl ff_RX11_77 (mk_11_0 (nx_11 hN (j := 0) (by decide))) (gv_11_9 _ _ _) ?_
  refine r_iconst 38 hk dX11_wholeAt_37 rfl ci_5 ?_
  refine r_icmp_ne 45 41 hk dX11_wholeAt_38 rfl rfl (fun c9 => ?_) (fun c9 => ?_)
  · have h := if_f c9 h
    refine r_aload_n 46 hk dX11_wholeAt_45 rfl 0 rfl rfl ?_
    refine r_get 49 hk dX11_wholeAt_46 rfl ff_RX11_100 (mk_11_0 (nx_11 hN (j := 0) (by decide))) (gv_11_11 _ _ _) ?_
    exact r_iret hk hR dX11_wholeAt_49 h
  · have h := if_t c9 h
    refine r_iload_n 42 hk dX11_wholeAt_41 rfl 1 rfl rfl ?_
    refine r_goto 49 hk (x := 0) dX11_wholeAt_42 rfl ?_
    exact r_iret hk hR dX11_wholeAt_49 h
set_option maxRecDepth 100000 in
set_option maxHeartbeats 4000000 in
theorem kX11_wholeAt {l : Launch} {G : Gx} {al : Al} {w : Wd} {x1 : Int32} {x2 : Int32} {r : Int32} {wz : Wd} (hN : NX G) (h : fX11_wholeAt (gN G 10) w x1 x2 = some (r, wz)) : MC l G yX11_wholeAt cX11_wholeAt 3 (some (.int)) 1 22 al w [.ref (al 11 0 0), .int x1, .int x2] (some (.int r)) wz := by
  refine mc_of [(0, .ref (al 11 0 0)), (1, .int x1), (2, .int x2)] (by decide) (Nat.le_of_ble_eq_true rfl) rfl ?_
  intro K hk hR hn hl hG
  subst hl; subst hG
  have hk : VH K RX11 cX11_wholeAt 1 22 := hk
  rw [fX11_wholeAt.eq_1] at h
  refine r_aload_n 1 hk dX11_wholeAt_0 rfl 0 rfl rfl ?_
  refine r_get 4 hk dX11_wholeAt_1 rfl ff_RX11_77 (mk_11_0 (nx_11 hN (j := 0) (by decide))) (gv_11_9 _ _ _) ?_
  refine r_iconst 5 hk dX11_wholeAt_4 rfl ci_3 ?_
  refine r_icmp_eq 16 8 hk dX11_wholeAt_5 rfl rfl (fun c1 => ?_) (fun c1 => ?_)
  · have h := if_t c1 h
    refine r_aload_n 17 hk dX11_wholeAt_16 rfl 0 rfl rfl ?_
    refine r_get 20 hk dX11_wholeAt_17 rfl ff_RX11_100 (mk_11_0 (nx_11 hN (j := 0) (by decide))) (gv_11_11 _ _ _) ?_
    refine r_iload_n 21 hk dX11_wholeAt_20 rfl 1 rfl rfl ?_
    refine r_iload_n 22 hk dX11_wholeAt_21 rfl 2 rfl rfl ?_
    obtain ⟨r2, w3, ew3, h⟩ := ob_e h
    refine r_cSi 25 (As := [.int (((w 11 0).1 11)), .int x1, .int x2]) (rest := []) hk (kX11_in hN ew3) cf_RX11_124 ms_X11_in dX11_wholeAt_22 rfl (Nat.le_of_ble_eq_true rfl) (Nat.le_of_ble_eq_true rfl) rfl rfl (Nat.le_of_ble_eq_true rfl) ?_
    refine r_if_ne 33 28 hk dX11_wholeAt_25 rfl rfl (fun c4 => ?_) (fun c4 => ?_)
    · have h := if_f c4 h
      refine r_sub [0, 1] rfl ?_
      exact sX11_wholeAt_33 hk hR hn hN _ _ h
    · have h := if_t c4 h
      refine r_aload_n 29 hk dX11_wholeAt_28 rfl 0 rfl rfl ?_
      refine r_iconst 30 hk dX11_wholeAt_29 rfl ci_4 ?_
      obtain ⟨r5, w6, ew6, h⟩ := ob_e h
      refine r_cVv 33 (As := [.int 4]) (rest := []) hk (kX11_flaw hN ew6) cf_RX11_120 mi_X11_flaw ⟨TX11, 36, rfl⟩ dX11_wholeAt_30 rfl (Nat.le_of_ble_eq_true rfl) (Nat.le_of_ble_eq_true rfl) (mk_11_0 (nx_11 hN (j := 0) (by decide))) rfl rfl (Nat.le_of_ble_eq_true rfl) ?_
      refine r_sub [0, 1] rfl ?_
      exact sX11_wholeAt_33 hk hR hn hN _ _ h
  · have h := if_f c1 h
    refine r_aload_n 9 hk dX11_wholeAt_8 rfl 0 rfl rfl ?_
    refine r_iconst 10 hk dX11_wholeAt_9 rfl ci_1 ?_
    obtain ⟨r7, w8, ew8, h⟩ := ob_e h
    refine r_cVv 13 (As := [.int 1]) (rest := []) hk (kX11_flaw hN ew8) cf_RX11_120 mi_X11_flaw ⟨TX11, 36, rfl⟩ dX11_wholeAt_10 rfl (Nat.le_of_ble_eq_true rfl) (Nat.le_of_ble_eq_true rfl) (mk_11_0 (nx_11 hN (j := 0) (by decide))) rfl rfl (Nat.le_of_ble_eq_true rfl) ?_
    refine r_goto 33 hk (x := 0) dX11_wholeAt_13 rfl ?_
    refine r_sub [0, 1] rfl ?_
    exact sX11_wholeAt_33 hk hR hn hN _ _ h
def fX11_readWhole (nd : Nat) (w : Wd) (x1 : Int32) (x2 : Int32) : Option (Int32 × Wd) :=
  ob (fX11_wholeAt nd w (x1) (x2)) fun r1 w2 =>
  ob (fX11_goesOn nd w2 ) fun _ w4 =>
  some (r1, w4)
set_option maxRecDepth 100000 in
set_option maxHeartbeats 4000000 in
theorem kX11_readWhole {l : Launch} {G : Gx} {al : Al} {w : Wd} {x1 : Int32} {x2 : Int32} {r : Int32} {wz : Wd} (hN : NX G) (h : fX11_readWhole (gN G 10) w x1 x2 = some (r, wz)) : MC l G yX11_readWhole cX11_readWhole 4 (some (.int)) 2 44 al w [.ref (al 11 0 0), .int x1, .int x2] (some (.int r)) wz := by
  refine mc_of [(0, .ref (al 11 0 0)), (1, .int x1), (2, .int x2)] (by decide) (Nat.le_of_ble_eq_true rfl) rfl ?_
  intro K hk hR hn hl hG
  subst hl; subst hG
  have hk : VH K RX11 cX11_readWhole 2 44 := hk
  rw [fX11_readWhole.eq_1] at h
  refine r_aload_n 1 hk dX11_readWhole_0 rfl 0 rfl rfl ?_
  refine r_iload_n 2 hk dX11_readWhole_1 rfl 1 rfl rfl ?_
  refine r_iload_n 3 hk dX11_readWhole_2 rfl 2 rfl rfl ?_
  obtain ⟨r1, w2, ew2, h⟩ := ob_e h
  refine r_cVi 6 (As := [.int x1, .int x2]) (rest := []) hk (kX11_wholeAt hN ew2) cf_RX11_128 mi_X11_wholeAt ⟨TX11, 36, rfl⟩ dX11_readWhole_3 rfl (Nat.le_of_ble_eq_true rfl) (Nat.le_of_ble_eq_true rfl) (mk_11_0 (nx_11 hN (j := 0) (by decide))) rfl rfl (Nat.le_of_ble_eq_true rfl) ?_
  refine r_istore_n 7 [(3, .int r1), (0, .ref (al 11 0 0)), (1, .int x1), (2, .int x2)] hk dX11_readWhole_6 rfl rfl hn (by decide) rfl rfl ?_
  refine r_aload_n 8 hk dX11_readWhole_7 rfl 1 rfl rfl ?_
  obtain ⟨r3, w4, ew4, h⟩ := ob_e h
  refine r_cVv 11 (As := []) (rest := []) hk (kX11_goesOn hN ew4) cf_RX11_113 mi_X11_goesOn ⟨TX11, 36, rfl⟩ dX11_readWhole_8 rfl (Nat.le_of_ble_eq_true rfl) (Nat.le_of_ble_eq_true rfl) (mk_11_0 (nx_11 hN (j := 0) (by decide))) rfl rfl (Nat.le_of_ble_eq_true rfl) ?_
  refine r_iload_n 12 hk dX11_readWhole_11 rfl 0 rfl rfl ?_
  exact r_iret hk hR dX11_readWhole_12 h
def fX11_readPart (nd : Nat) (s1 : Nat) (w : Wd) (x2 : Int32) (x3 : Int32) : Option (Int32 × Wd) :=
  ob (fX11_needs nd s1 w ) fun _ w2 =>
  ob (fX11_readWhole nd w2 (x2) (x3)) fun r3 w4 =>
  some (r3, w4)
set_option maxRecDepth 100000 in
set_option maxHeartbeats 4000000 in
theorem kX11_readPart {l : Launch} {G : Gx} {al : Al} {s1 : Nat} {w : Wd} {x2 : Int32} {x3 : Int32} {r : Int32} {wz : Wd} (hN : NX G) (hs1 : s1 < 10) (h : fX11_readPart (gN G 10) s1 w x2 x3 = some (r, wz)) : MC l G yX11_readPart cX11_readPart 4 (some (.int)) 7 165 al w [.ref (al 11 0 0), .ref (G.2.2.1 s1), .int x2, .int x3] (some (.int r)) wz := by
  refine mc_of [(0, .ref (al 11 0 0)), (1, .ref (G.2.2.1 s1)), (2, .int x2), (3, .int x3)] (by decide) (Nat.le_of_ble_eq_true rfl) rfl ?_
  intro K hk hR hn hl hG
  subst hl; subst hG
  have hk : VH K RX11 cX11_readPart 7 165 := hk
  rw [fX11_readPart.eq_1] at h
  refine r_aload_n 1 hk dX11_readPart_0 rfl 0 rfl rfl ?_
  refine r_aload_n 2 hk dX11_readPart_1 rfl 1 rfl rfl ?_
  obtain ⟨r1, w2, ew2, h⟩ := ob_e h
  refine r_cVv 5 (As := [.ref ((kG K).2.2.1 s1)]) (rest := []) hk (kX11_needs hN hs1 ew2) cf_RX11_132 mi_X11_needs ⟨TX11, 36, rfl⟩ dX11_readPart_2 rfl (Nat.le_of_ble_eq_true rfl) (Nat.le_of_ble_eq_true rfl) (mk_11_0 (nx_11 hN (j := 0) (by decide))) rfl rfl (Nat.le_of_ble_eq_true rfl) ?_
  refine r_aload_n 6 hk dX11_readPart_5 rfl 0 rfl rfl ?_
  refine r_iload_n 7 hk dX11_readPart_6 rfl 2 rfl rfl ?_
  refine r_iload_n 8 hk dX11_readPart_7 rfl 3 rfl rfl ?_
  obtain ⟨r3, w4, ew4, h⟩ := ob_e h
  refine r_cVi 11 (As := [.int x2, .int x3]) (rest := []) hk (kX11_readWhole hN ew4) cf_RX11_136 mi_X11_readWhole ⟨TX11, 36, rfl⟩ dX11_readPart_8 rfl (Nat.le_of_ble_eq_true rfl) (Nat.le_of_ble_eq_true rfl) (mk_11_0 (nx_11 hN (j := 0) (by decide))) rfl rfl (Nat.le_of_ble_eq_true rfl) ?_
  exact r_iret hk hR dX11_readPart_11 h
def fX11_lineBegins_10 (nd : Nat) (w : Wd) : Option (Unit × Wd) :=
    ckp ((w 11 0).2.2.1 4) nd fun q4 =>
    if (((w 10 q4).1 0) : Int32) = 0 then
      ob (fX11_flaw nd w (6)) fun _ w9 =>
      ob (fX11_goesOn nd w9 ) fun _ w11 =>
      some ((), w11)
    else
      ob (fX11_goesOn nd w ) fun _ w7 =>
      some ((), w7)
def fX11_lineBegins (nd : Nat) (w : Wd) (x1 : Int32) (x2 : Int32) : Option (Unit × Wd) :=
  if (x1 : Int32) = x2 then
    ob (fX11_flaw nd w (5)) fun _ w3 =>
    fX11_lineBegins_10 nd w3 
  else
    fX11_lineBegins_10 nd w 
set_option maxRecDepth 100000 in
set_option maxHeartbeats 4000000 in
theorem sX11_lineBegins_10 {K : VC} {al : Al} {r : Unit} {wz : Wd}  (hk : VH K RX11 cX11_lineBegins 2 43) (hR : VR K al none none wz) (hn : kn K = 3) (hN : NX (kG K)) (w : Wd) (h : fX11_lineBegins_10 (gN (kG K) 10) w = some (r, wz)) : V K al w 10 [(0, .ref (al 11 0 0))] [] := by
  rw [fX11_lineBegins_10.eq_1] at h
  refine r_aload_n 11 hk dX11_lineBegins_10 rfl 0 rfl rfl ?_
  refine r_get 14 hk dX11_lineBegins_11 rfl ff_RX11_139 (mk_11_0 (nx_11 hN (j := 0) (by decide))) (gv_11_4 _ _ _) ?_
  obtain ⟨q4, eq4, lq4, h⟩ := ckp_e h
  refine r_pv1 eq4 ?_
  refine r_get 17 hk dX11_lineBegins_14 rfl ff_RX11_143 (mk_10_0 lq4) (gv_10_0 _ _ _) ?_
  refine r_if_ne 26 20 hk dX11_lineBegins_17 rfl rfl (fun c5 => ?_) (fun c5 => ?_)
  · have h := if_f c5 h
    refine r_aload_n 27 hk dX11_lineBegins_26 rfl 0 rfl rfl ?_
    obtain ⟨r6, w7, ew7, h⟩ := ob_e h
    refine r_cVv 30 (As := []) (rest := []) hk (kX11_goesOn hN ew7) cf_RX11_113 mi_X11_goesOn ⟨TX11, 36, rfl⟩ dX11_lineBegins_27 rfl (Nat.le_of_ble_eq_true rfl) (Nat.le_of_ble_eq_true rfl) (mk_11_0 (nx_11 hN (j := 0) (by decide))) rfl rfl (Nat.le_of_ble_eq_true rfl) ?_
    exact r_vret hk hR dX11_lineBegins_30 h
  · have h := if_t c5 h
    refine r_aload_n 21 hk dX11_lineBegins_20 rfl 0 rfl rfl ?_
    refine r_bipush 23 hk dX11_lineBegins_21 rfl cb_6 ?_
    obtain ⟨r8, w9, ew9, h⟩ := ob_e h
    refine r_cVv 26 (As := [.int 6]) (rest := []) hk (kX11_flaw hN ew9) cf_RX11_120 mi_X11_flaw ⟨TX11, 36, rfl⟩ dX11_lineBegins_23 rfl (Nat.le_of_ble_eq_true rfl) (Nat.le_of_ble_eq_true rfl) (mk_11_0 (nx_11 hN (j := 0) (by decide))) rfl rfl (Nat.le_of_ble_eq_true rfl) ?_
    refine r_aload_n 27 hk dX11_lineBegins_26 rfl 0 rfl rfl ?_
    obtain ⟨r10, w11, ew11, h⟩ := ob_e h
    refine r_cVv 30 (As := []) (rest := []) hk (kX11_goesOn hN ew11) cf_RX11_113 mi_X11_goesOn ⟨TX11, 36, rfl⟩ dX11_lineBegins_27 rfl (Nat.le_of_ble_eq_true rfl) (Nat.le_of_ble_eq_true rfl) (mk_11_0 (nx_11 hN (j := 0) (by decide))) rfl rfl (Nat.le_of_ble_eq_true rfl) ?_
    exact r_vret hk hR dX11_lineBegins_30 h
set_option maxRecDepth 100000 in
set_option maxHeartbeats 4000000 in
theorem kX11_lineBegins {l : Launch} {G : Gx} {al : Al} {w : Wd} {x1 : Int32} {x2 : Int32} {r : Unit} {wz : Wd} (hN : NX G) (h : fX11_lineBegins (gN G 10) w x1 x2 = some (r, wz)) : MC l G yX11_lineBegins cX11_lineBegins 3 none 2 43 al w [.ref (al 11 0 0), .int x1, .int x2] none wz := by
  refine mc_of [(0, .ref (al 11 0 0)), (1, .int x1), (2, .int x2)] (by decide) (Nat.le_of_ble_eq_true rfl) rfl ?_
  intro K hk hR hn hl hG
  subst hl; subst hG
  have hk : VH K RX11 cX11_lineBegins 2 43 := hk
  rw [fX11_lineBegins.eq_1] at h
  refine r_iload_n 1 hk dX11_lineBegins_0 rfl 1 rfl rfl ?_
  refine r_iload_n 2 hk dX11_lineBegins_1 rfl 2 rfl rfl ?_
  refine r_icmp_ne 10 5 hk dX11_lineBegins_2 rfl rfl (fun c1 => ?_) (fun c1 => ?_)
  · have h := if_f c1 h
    refine r_sub [0] rfl ?_
    exact sX11_lineBegins_10 hk hR hn hN _ h
  · have h := if_t c1 h
    refine r_aload_n 6 hk dX11_lineBegins_5 rfl 0 rfl rfl ?_
    refine r_iconst 7 hk dX11_lineBegins_6 rfl ci_5 ?_
    obtain ⟨r2, w3, ew3, h⟩ := ob_e h
    refine r_cVv 10 (As := [.int 5]) (rest := []) hk (kX11_flaw hN ew3) cf_RX11_120 mi_X11_flaw ⟨TX11, 36, rfl⟩ dX11_lineBegins_7 rfl (Nat.le_of_ble_eq_true rfl) (Nat.le_of_ble_eq_true rfl) (mk_11_0 (nx_11 hN (j := 0) (by decide))) rfl rfl (Nat.le_of_ble_eq_true rfl) ?_
    refine r_sub [0] rfl ?_
    exact sX11_lineBegins_10 hk hR hn hN _ h
def fX11_toldAt_29 (nd : Nat) (w : Wd) : Option (Int32 × Wd) :=
    if (((w 11 0).1 9) : Int32) = 5 then
      some (0, w)
    else
      some (((w 11 0).1 11), w)
def fX11_toldAt (nd : Nat) (w : Wd) (x1 : Int32) : Option (Int32 × Wd) :=
  if (((w 11 0).1 9) : Int32) = 3 then
    if (((w 11 0).1 11) : Int32) < x1 then
      fX11_toldAt_29 nd w 
    else
      ob (fX11_flaw nd w (2)) fun _ w4 =>
      fX11_toldAt_29 nd w4 
  else
    ob (fX11_flaw nd w (1)) fun _ w6 =>
    fX11_toldAt_29 nd w6 
set_option maxRecDepth 100000 in
set_option maxHeartbeats 4000000 in
theorem sX11_toldAt_29 {K : VC} {al : Al} {r : Int32} {wz : Wd}  (hk : VH K RX11 cX11_toldAt 1 21) (hR : VR K al (some (.int)) (some (.int r)) wz) (hn : kn K = 2) (hN : NX (kG K)) (w : Wd) (h : fX11_toldAt_29 (gN (kG K) 10) w = some (r, wz)) : V K al w 29 [(0, .ref (al 11 0 0))] [] := by
  rw [fX11_toldAt_29.eq_1] at h
  refine r_aload_n 30 hk dX11_toldAt_29 rfl 0 rfl rfl ?_
  refine r_get 33 hk dX11_toldAt_30 rfl ff_RX11_77 (mk_11_0 (nx_11 hN (j := 0) (by decide))) (gv_11_9 _ _ _) ?_
  refine r_iconst 34 hk dX11_toldAt_33 rfl ci_5 ?_
  refine r_icmp_ne 41 37 hk dX11_toldAt_34 rfl rfl (fun c7 => ?_) (fun c7 => ?_)
  · have h := if_f c7 h
    refine r_aload_n 42 hk dX11_toldAt_41 rfl 0 rfl rfl ?_
    refine r_get 45 hk dX11_toldAt_42 rfl ff_RX11_100 (mk_11_0 (nx_11 hN (j := 0) (by decide))) (gv_11_11 _ _ _) ?_
    exact r_iret hk hR dX11_toldAt_45 h
  · have h := if_t c7 h
    refine r_iconst 38 hk dX11_toldAt_37 rfl ci_0 ?_
    refine r_goto 45 hk (x := 0) dX11_toldAt_38 rfl ?_
    exact r_iret hk hR dX11_toldAt_45 h
set_option maxRecDepth 100000 in
set_option maxHeartbeats 4000000 in
theorem kX11_toldAt {l : Launch} {G : Gx} {al : Al} {w : Wd} {x1 : Int32} {r : Int32} {wz : Wd} (hN : NX G) (h : fX11_toldAt (gN G 10) w x1 = some (r, wz)) : MC l G yX11_toldAt cX11_toldAt 2 (some (.int)) 1 21 al w [.ref (al 11 0 0), .int x1] (some (.int r)) wz := by
  refine mc_of [(0, .ref (al 11 0 0)), (1, .int x1)] (by decide) (Nat.le_of_ble_eq_true rfl) rfl ?_
  intro K hk hR hn hl hG
  subst hl; subst hG
  have hk : VH K RX11 cX11_toldAt 1 21 := hk
  rw [fX11_toldAt.eq_1] at h
  refine r_aload_n 1 hk dX11_toldAt_0 rfl 0 rfl rfl ?_
  refine r_get 4 hk dX11_toldAt_1 rfl ff_RX11_77 (mk_11_0 (nx_11 hN (j := 0) (by decide))) (gv_11_9 _ _ _) ?_
  refine r_iconst 5 hk dX11_toldAt_4 rfl ci_3 ?_
  refine r_icmp_eq 16 8 hk dX11_toldAt_5 rfl rfl (fun c1 => ?_) (fun c1 => ?_)
  · have h := if_t c1 h
    refine r_aload_n 17 hk dX11_toldAt_16 rfl 0 rfl rfl ?_
    refine r_get 20 hk dX11_toldAt_17 rfl ff_RX11_100 (mk_11_0 (nx_11 hN (j := 0) (by decide))) (gv_11_11 _ _ _) ?_
    refine r_iload_n 21 hk dX11_toldAt_20 rfl 1 rfl rfl ?_
    refine r_icmp_lt 29 24 hk dX11_toldAt_21 rfl rfl (fun c2 => ?_) (fun c2 => ?_)
    · have h := if_t c2 h
      refine r_sub [0] rfl ?_
      exact sX11_toldAt_29 hk hR hn hN _ h
    · have h := if_f c2 h
      refine r_aload_n 25 hk dX11_toldAt_24 rfl 0 rfl rfl ?_
      refine r_iconst 26 hk dX11_toldAt_25 rfl ci_2 ?_
      obtain ⟨r3, w4, ew4, h⟩ := ob_e h
      refine r_cVv 29 (As := [.int 2]) (rest := []) hk (kX11_flaw hN ew4) cf_RX11_120 mi_X11_flaw ⟨TX11, 36, rfl⟩ dX11_toldAt_26 rfl (Nat.le_of_ble_eq_true rfl) (Nat.le_of_ble_eq_true rfl) (mk_11_0 (nx_11 hN (j := 0) (by decide))) rfl rfl (Nat.le_of_ble_eq_true rfl) ?_
      refine r_sub [0] rfl ?_
      exact sX11_toldAt_29 hk hR hn hN _ h
  · have h := if_f c1 h
    refine r_aload_n 9 hk dX11_toldAt_8 rfl 0 rfl rfl ?_
    refine r_iconst 10 hk dX11_toldAt_9 rfl ci_1 ?_
    obtain ⟨r5, w6, ew6, h⟩ := ob_e h
    refine r_cVv 13 (As := [.int 1]) (rest := []) hk (kX11_flaw hN ew6) cf_RX11_120 mi_X11_flaw ⟨TX11, 36, rfl⟩ dX11_toldAt_10 rfl (Nat.le_of_ble_eq_true rfl) (Nat.le_of_ble_eq_true rfl) (mk_11_0 (nx_11 hN (j := 0) (by decide))) rfl rfl (Nat.le_of_ble_eq_true rfl) ?_
    refine r_goto 29 hk (x := 0) dX11_toldAt_13 rfl ?_
    refine r_sub [0] rfl ?_
    exact sX11_toldAt_29 hk hR hn hN _ h
def fX11_readDisk_63 (nd : Nat) (w : Wd) (x1 : Int32) (x2 : Int32) (x3 : Int32) : Option (Unit × Wd) :=
    ob (fX11_goesOn nd w ) fun _ w20 =>
    if (((w20 11 0).1 9) : Int32) = 5 then
      some ((), w20)
    else
      ckp ((w20 11 0).2.2.1 4) nd fun q22 =>
      lw (sI w20 10 q22 0 (x1)) fun w23 =>
      ckp ((w23 11 0).2.2.1 4) nd fun q24 =>
      lw (sI w23 10 q24 1 (x2)) fun w25 =>
      ckp ((w25 11 0).2.2.1 4) nd fun q26 =>
      ck (isb (x3)) <|
      lw (sI w25 10 q26 8 (x3)) fun w27 =>
      some ((), w27)
def fX11_readDisk_15 (nd : Nat) (w : Wd) : Option (Unit × Wd) :=
    ob (fX11_goesOn nd w ) fun _ w6 =>
    ob (fX11_readPart nd 6 w6 (1) (3)) fun r7 w8 =>
    ob (fX11_readPart nd 7 w8 (2) (24)) fun r9 w10 =>
    ob (fX11_isWord nd 8 w10 ) fun r11 w12 =>
    if (r11 : Int32) = 0 then
      ob (fX11_isWord nd 9 w12 ) fun r14 w15 =>
      if (r14 : Int32) = 0 then
        ob (fX11_flaw nd w15 (1)) fun _ w18 =>
        fX11_readDisk_63 nd w18 (r7) (r9) (r11)
      else
        fX11_readDisk_63 nd w15 (r7) (r9) (r11)
    else
      fX11_readDisk_63 nd w12 (r7) (r9) (r11)
def fX11_readDisk (nd : Nat) (w : Wd) : Option (Unit × Wd) :=
  ckp ((w 11 0).2.2.1 4) nd fun q1 =>
  if (((w 10 q1).1 0) : Int32) ≤ 0 then
    fX11_readDisk_15 nd w 
  else
    ob (fX11_flaw nd w (3)) fun _ w4 =>
    fX11_readDisk_15 nd w4 
set_option maxRecDepth 100000 in
set_option maxHeartbeats 4000000 in
theorem sX11_readDisk_63 {K : VC} {al : Al} {r : Unit} {wz : Wd}  (hk : VH K RX11 cX11_readDisk 8 188) (hR : VR K al none none wz) (hn : kn K = 4) (hN : NX (kG K)) (w : Wd) (x1 : Int32) (x2 : Int32) (x3 : Int32) (h : fX11_readDisk_63 (gN (kG K) 10) w x1 x2 x3 = some (r, wz)) : V K al w 63 [(0, .ref (al 11 0 0)), (1, .int x1), (2, .int x2), (3, .int x3)] [] := by
  rw [fX11_readDisk_63.eq_1] at h
  refine r_aload_n 64 hk dX11_readDisk_63 rfl 0 rfl rfl ?_
  obtain ⟨r19, w20, ew20, h⟩ := ob_e h
  refine r_cVv 67 (As := []) (rest := []) hk (kX11_goesOn hN ew20) cf_RX11_113 mi_X11_goesOn ⟨TX11, 36, rfl⟩ dX11_readDisk_64 rfl (Nat.le_of_ble_eq_true rfl) (Nat.le_of_ble_eq_true rfl) (mk_11_0 (nx_11 hN (j := 0) (by decide))) rfl rfl (Nat.le_of_ble_eq_true rfl) ?_
  refine r_aload_n 68 hk dX11_readDisk_67 rfl 0 rfl rfl ?_
  refine r_get 71 hk dX11_readDisk_68 rfl ff_RX11_77 (mk_11_0 (nx_11 hN (j := 0) (by decide))) (gv_11_9 _ _ _) ?_
  refine r_iconst 72 hk dX11_readDisk_71 rfl ci_5 ?_
  refine r_icmp_ne 76 75 hk dX11_readDisk_72 rfl rfl (fun c21 => ?_) (fun c21 => ?_)
  · have h := if_f c21 h
    refine r_aload_n 77 hk dX11_readDisk_76 rfl 0 rfl rfl ?_
    refine r_get 80 hk dX11_readDisk_77 rfl ff_RX11_139 (mk_11_0 (nx_11 hN (j := 0) (by decide))) (gv_11_4 _ _ _) ?_
    obtain ⟨q22, eq22, lq22, h⟩ := ckp_e h
    refine r_pv1 eq22 ?_
    refine r_iload_n 81 hk dX11_readDisk_80 rfl 1 rfl rfl ?_
    obtain ⟨w23, ew23, h⟩ := lw_e h
    refine r_putI 84 w23 hk dX11_readDisk_81 rfl ff_RX11_143 fi_10_0 (mk_10_0 lq22) ew23 ?_
    refine r_aload_n 85 hk dX11_readDisk_84 rfl 0 rfl rfl ?_
    refine r_get 88 hk dX11_readDisk_85 rfl ff_RX11_139 (mk_11_0 (nx_11 hN (j := 0) (by decide))) (gv_11_4 _ _ _) ?_
    obtain ⟨q24, eq24, lq24, h⟩ := ckp_e h
    refine r_pv1 eq24 ?_
    refine r_iload_n 89 hk dX11_readDisk_88 rfl 2 rfl rfl ?_
    obtain ⟨w25, ew25, h⟩ := lw_e h
    refine r_putI 92 w25 hk dX11_readDisk_89 rfl ff_RX11_198 fi_10_1 (mk_10_0 lq24) ew25 ?_
    refine r_aload_n 93 hk dX11_readDisk_92 rfl 0 rfl rfl ?_
    refine r_get 96 hk dX11_readDisk_93 rfl ff_RX11_139 (mk_11_0 (nx_11 hN (j := 0) (by decide))) (gv_11_4 _ _ _) ?_
    obtain ⟨q26, eq26, lq26, h⟩ := ckp_e h
    refine r_pv1 eq26 ?_
    refine r_iload_n 97 hk dX11_readDisk_96 rfl 3 rfl rfl ?_
    obtain ⟨b28, h⟩ := ck_e h
    obtain ⟨w27, ew27, h⟩ := lw_e h
    refine r_putZ 100 w27 hk dX11_readDisk_97 rfl ff_RX11_200 fi_10_8 b28 (mk_10_0 lq26) ew27 ?_
    exact r_vret hk hR dX11_readDisk_100 h
  · have h := if_t c21 h
    exact r_vret hk hR dX11_readDisk_75 h
set_option maxRecDepth 100000 in
set_option maxHeartbeats 4000000 in
theorem sX11_readDisk_15 {K : VC} {al : Al} {r : Unit} {wz : Wd}  (hk : VH K RX11 cX11_readDisk 8 188) (hR : VR K al none none wz) (hn : kn K = 4) (hN : NX (kG K)) (w : Wd) (h : fX11_readDisk_15 (gN (kG K) 10) w = some (r, wz)) : V K al w 15 [(0, .ref (al 11 0 0))] [] := by
  rw [fX11_readDisk_15.eq_1] at h
  refine r_aload_n 16 hk dX11_readDisk_15 rfl 0 rfl rfl ?_
  obtain ⟨r5, w6, ew6, h⟩ := ob_e h
  refine r_cVv 19 (As := []) (rest := []) hk (kX11_goesOn hN ew6) cf_RX11_113 mi_X11_goesOn ⟨TX11, 36, rfl⟩ dX11_readDisk_16 rfl (Nat.le_of_ble_eq_true rfl) (Nat.le_of_ble_eq_true rfl) (mk_11_0 (nx_11 hN (j := 0) (by decide))) rfl rfl (Nat.le_of_ble_eq_true rfl) ?_
  refine r_aload_n 20 hk dX11_readDisk_19 rfl 0 rfl rfl ?_
  refine r_ldcS11 22 hk dX11_readDisk_20 rfl (i := 6) (by decide) rfl ?_
  refine r_iconst 23 hk dX11_readDisk_22 rfl ci_1 ?_
  refine r_iconst 24 hk dX11_readDisk_23 rfl ci_3 ?_
  obtain ⟨r7, w8, ew8, h⟩ := ob_e h
  refine r_cVi 27 (As := [.ref ((kG K).2.2.1 6), .int 1, .int 3]) (rest := []) hk (kX11_readPart hN (by decide) ew8) cf_RX11_188 mi_X11_readPart ⟨TX11, 36, rfl⟩ dX11_readDisk_24 rfl (Nat.le_of_ble_eq_true rfl) (Nat.le_of_ble_eq_true rfl) (mk_11_0 (nx_11 hN (j := 0) (by decide))) rfl rfl (Nat.le_of_ble_eq_true rfl) ?_
  refine r_istore_n 28 [(1, .int r7), (0, .ref (al 11 0 0))] hk dX11_readDisk_27 rfl rfl hn (by decide) rfl rfl ?_
  refine r_aload_n 29 hk dX11_readDisk_28 rfl 1 rfl rfl ?_
  refine r_ldcS11 31 hk dX11_readDisk_29 rfl (i := 7) (by decide) rfl ?_
  refine r_iconst 32 hk dX11_readDisk_31 rfl ci_2 ?_
  refine r_bipush 34 hk dX11_readDisk_32 rfl cb_24 ?_
  obtain ⟨r9, w10, ew10, h⟩ := ob_e h
  refine r_cVi 37 (As := [.ref ((kG K).2.2.1 7), .int 2, .int 24]) (rest := []) hk (kX11_readPart hN (by decide) ew10) cf_RX11_188 mi_X11_readPart ⟨TX11, 36, rfl⟩ dX11_readDisk_34 rfl (Nat.le_of_ble_eq_true rfl) (Nat.le_of_ble_eq_true rfl) (mk_11_0 (nx_11 hN (j := 0) (by decide))) rfl rfl (Nat.le_of_ble_eq_true rfl) ?_
  refine r_istore_n 38 [(2, .int r9), (1, .int r7), (0, .ref (al 11 0 0))] hk dX11_readDisk_37 rfl rfl hn (by decide) rfl rfl ?_
  refine r_aload_n 39 hk dX11_readDisk_38 rfl 2 rfl rfl ?_
  refine r_ldcS11 41 hk dX11_readDisk_39 rfl (i := 8) (by decide) rfl ?_
  obtain ⟨r11, w12, ew12, h⟩ := ob_e h
  refine r_cVi 44 (As := [.ref ((kG K).2.2.1 8)]) (rest := []) hk (kX11_isWord hN (by decide) ew12) cf_RX11_116 mi_X11_isWord ⟨TX11, 36, rfl⟩ dX11_readDisk_41 rfl (Nat.le_of_ble_eq_true rfl) (Nat.le_of_ble_eq_true rfl) (mk_11_0 (nx_11 hN (j := 0) (by decide))) rfl rfl (Nat.le_of_ble_eq_true rfl) ?_
  refine r_istore_n 45 [(3, .int r11), (2, .int r9), (1, .int r7), (0, .ref (al 11 0 0))] hk dX11_readDisk_44 rfl rfl hn (by decide) rfl rfl ?_
  refine r_iload_n 46 hk dX11_readDisk_45 rfl 0 rfl rfl ?_
  refine r_if_ne 63 49 hk dX11_readDisk_46 rfl rfl (fun c13 => ?_) (fun c13 => ?_)
  · have h := if_f c13 h
    refine r_sub [3, 2, 1, 0] rfl ?_
    exact sX11_readDisk_63 hk hR hn hN _ _ _ _ h
  · have h := if_t c13 h
    refine r_aload_n 50 hk dX11_readDisk_49 rfl 3 rfl rfl ?_
    refine r_ldcS11 52 hk dX11_readDisk_50 rfl (i := 9) (by decide) rfl ?_
    obtain ⟨r14, w15, ew15, h⟩ := ob_e h
    refine r_cVi 55 (As := [.ref ((kG K).2.2.1 9)]) (rest := []) hk (kX11_isWord hN (by decide) ew15) cf_RX11_116 mi_X11_isWord ⟨TX11, 36, rfl⟩ dX11_readDisk_52 rfl (Nat.le_of_ble_eq_true rfl) (Nat.le_of_ble_eq_true rfl) (mk_11_0 (nx_11 hN (j := 0) (by decide))) rfl rfl (Nat.le_of_ble_eq_true rfl) ?_
    refine r_if_ne 63 58 hk dX11_readDisk_55 rfl rfl (fun c16 => ?_) (fun c16 => ?_)
    · have h := if_f c16 h
      refine r_sub [3, 2, 1, 0] rfl ?_
      exact sX11_readDisk_63 hk hR hn hN _ _ _ _ h
    · have h := if_t c16 h
      refine r_aload_n 59 hk dX11_readDisk_58 rfl 3 rfl rfl ?_
      refine r_iconst 60 hk dX11_readDisk_59 rfl ci_1 ?_
      obtain ⟨r17, w18, ew18, h⟩ := ob_e h
      refine r_cVv 63 (As := [.int 1]) (rest := []) hk (kX11_flaw hN ew18) cf_RX11_120 mi_X11_flaw ⟨TX11, 36, rfl⟩ dX11_readDisk_60 rfl (Nat.le_of_ble_eq_true rfl) (Nat.le_of_ble_eq_true rfl) (mk_11_0 (nx_11 hN (j := 0) (by decide))) rfl rfl (Nat.le_of_ble_eq_true rfl) ?_
      refine r_sub [3, 2, 1, 0] rfl ?_
      exact sX11_readDisk_63 hk hR hn hN _ _ _ _ h
set_option maxRecDepth 100000 in
set_option maxHeartbeats 4000000 in
theorem kX11_readDisk {l : Launch} {G : Gx} {al : Al} {w : Wd} {r : Unit} {wz : Wd} (hN : NX G) (h : fX11_readDisk (gN G 10) w = some (r, wz)) : MC l G yX11_readDisk cX11_readDisk 4 none 8 188 al w [.ref (al 11 0 0)] none wz := by
  refine mc_of [(0, .ref (al 11 0 0))] (by decide) (Nat.le_of_ble_eq_true rfl) rfl ?_
  intro K hk hR hn hl hG
  subst hl; subst hG
  have hk : VH K RX11 cX11_readDisk 8 188 := hk
  rw [fX11_readDisk.eq_1] at h
  refine r_aload_n 1 hk dX11_readDisk_0 rfl 0 rfl rfl ?_
  refine r_get 4 hk dX11_readDisk_1 rfl ff_RX11_139 (mk_11_0 (nx_11 hN (j := 0) (by decide))) (gv_11_4 _ _ _) ?_
  obtain ⟨q1, eq1, lq1, h⟩ := ckp_e h
  refine r_pv1 eq1 ?_
  refine r_get 7 hk dX11_readDisk_4 rfl ff_RX11_143 (mk_10_0 lq1) (gv_10_0 _ _ _) ?_
  refine r_if_le 15 10 hk dX11_readDisk_7 rfl rfl (fun c2 => ?_) (fun c2 => ?_)
  · have h := if_t c2 h
    exact sX11_readDisk_15 hk hR hn hN _ h
  · have h := if_f c2 h
    refine r_aload_n 11 hk dX11_readDisk_10 rfl 0 rfl rfl ?_
    refine r_iconst 12 hk dX11_readDisk_11 rfl ci_3 ?_
    obtain ⟨r3, w4, ew4, h⟩ := ob_e h
    refine r_cVv 15 (As := [.int 3]) (rest := []) hk (kX11_flaw hN ew4) cf_RX11_120 mi_X11_flaw ⟨TX11, 36, rfl⟩ dX11_readDisk_12 rfl (Nat.le_of_ble_eq_true rfl) (Nat.le_of_ble_eq_true rfl) (mk_11_0 (nx_11 hN (j := 0) (by decide))) rfl rfl (Nat.le_of_ble_eq_true rfl) ?_
    exact sX11_readDisk_15 hk hR hn hN _ h
def fX11_readBand (nd : Nat) (w : Wd) : Option (Unit × Wd) :=
  ckp ((w 11 0).2.2.1 4) nd fun q1 =>
  ob (fX11_lineBegins nd w (((w 10 q1).1 2)) (6)) fun _ w3 =>
  ob (fX11_readWhole nd w3 (2) (8)) fun r4 w5 =>
  if (((w5 11 0).1 9) : Int32) = 5 then
    some ((), w5)
  else
    ckp ((w5 11 0).2.2.1 4) nd fun q7 =>
    ckp ((w5 11 0).2.2.1 4) nd fun q8 =>
    ck (inb (((w5 10 q8).1 2)) 6) <|
    lw (sA w5 10 q7 9 (((w5 10 q8).1 2) : Int32).toNatClampNeg (r4)) fun w10 =>
    ckp ((w10 11 0).2.2.1 4) nd fun q11 =>
    lw (sI w10 10 q11 2 ((((w10 10 q11).1 2) + 1))) fun w12 =>
    ckp ((w12 11 0).2.2.1 4) nd fun q13 =>
    lw (sI w12 10 q13 3 ((((w12 10 q13).1 3) + r4))) fun w14 =>
    some ((), w14)
set_option maxRecDepth 100000 in
set_option maxHeartbeats 4000000 in
theorem kX11_readBand {l : Launch} {G : Gx} {al : Al} {w : Wd} {r : Unit} {wz : Wd} (hN : NX G) (h : fX11_readBand (gN G 10) w = some (r, wz)) : MC l G yX11_readBand cX11_readBand 2 none 3 67 al w [.ref (al 11 0 0)] none wz := by
  refine mc_of [(0, .ref (al 11 0 0))] (by decide) (Nat.le_of_ble_eq_true rfl) rfl ?_
  intro K hk hR hn hl hG
  subst hl; subst hG
  have hk : VH K RX11 cX11_readBand 3 67 := hk
  rw [fX11_readBand.eq_1] at h
  refine r_aload_n 1 hk dX11_readBand_0 rfl 0 rfl rfl ?_
  refine r_aload_n 2 hk dX11_readBand_1 rfl 0 rfl rfl ?_
  refine r_get 5 hk dX11_readBand_2 rfl ff_RX11_139 (mk_11_0 (nx_11 hN (j := 0) (by decide))) (gv_11_4 _ _ _) ?_
  obtain ⟨q1, eq1, lq1, h⟩ := ckp_e h
  refine r_pv1 eq1 ?_
  refine r_get 8 hk dX11_readBand_5 rfl ff_RX11_155 (mk_10_0 lq1) (gv_10_2 _ _ _) ?_
  refine r_bipush 10 hk dX11_readBand_8 rfl cb_6 ?_
  obtain ⟨r2, w3, ew3, h⟩ := ob_e h
  refine r_cVv 13 (As := [.int (((w 10 q1).1 2)), .int 6]) (rest := []) hk (kX11_lineBegins hN ew3) cf_RX11_203 mi_X11_lineBegins ⟨TX11, 36, rfl⟩ dX11_readBand_10 rfl (Nat.le_of_ble_eq_true rfl) (Nat.le_of_ble_eq_true rfl) (mk_11_0 (nx_11 hN (j := 0) (by decide))) rfl rfl (Nat.le_of_ble_eq_true rfl) ?_
  refine r_aload_n 14 hk dX11_readBand_13 rfl 0 rfl rfl ?_
  refine r_iconst 15 hk dX11_readBand_14 rfl ci_2 ?_
  refine r_bipush 17 hk dX11_readBand_15 rfl cb_8 ?_
  obtain ⟨r4, w5, ew5, h⟩ := ob_e h
  refine r_cVi 20 (As := [.int 2, .int 8]) (rest := []) hk (kX11_readWhole hN ew5) cf_RX11_136 mi_X11_readWhole ⟨TX11, 36, rfl⟩ dX11_readBand_17 rfl (Nat.le_of_ble_eq_true rfl) (Nat.le_of_ble_eq_true rfl) (mk_11_0 (nx_11 hN (j := 0) (by decide))) rfl rfl (Nat.le_of_ble_eq_true rfl) ?_
  refine r_istore_n 21 [(1, .int r4), (0, .ref (al 11 0 0))] hk dX11_readBand_20 rfl rfl hn (by decide) rfl rfl ?_
  refine r_aload_n 22 hk dX11_readBand_21 rfl 1 rfl rfl ?_
  refine r_get 25 hk dX11_readBand_22 rfl ff_RX11_77 (mk_11_0 (nx_11 hN (j := 0) (by decide))) (gv_11_9 _ _ _) ?_
  refine r_iconst 26 hk dX11_readBand_25 rfl ci_5 ?_
  refine r_icmp_ne 30 29 hk dX11_readBand_26 rfl rfl (fun c6 => ?_) (fun c6 => ?_)
  · have h := if_f c6 h
    refine r_aload_n 31 hk dX11_readBand_30 rfl 1 rfl rfl ?_
    refine r_get 34 hk dX11_readBand_31 rfl ff_RX11_139 (mk_11_0 (nx_11 hN (j := 0) (by decide))) (gv_11_4 _ _ _) ?_
    obtain ⟨q7, eq7, lq7, h⟩ := ckp_e h
    refine r_pv1 eq7 ?_
    refine r_get 37 hk dX11_readBand_34 rfl ff_RX11_207 (mk_10_0 lq7) (gv_10_9 _ _ _) ?_
    refine r_aload_n 38 hk dX11_readBand_37 rfl 1 rfl rfl ?_
    refine r_get 41 hk dX11_readBand_38 rfl ff_RX11_139 (mk_11_0 (nx_11 hN (j := 0) (by decide))) (gv_11_4 _ _ _) ?_
    obtain ⟨q8, eq8, lq8, h⟩ := ckp_e h
    refine r_pv1 eq8 ?_
    refine r_get 44 hk dX11_readBand_41 rfl ff_RX11_155 (mk_10_0 lq8) (gv_10_2 _ _ _) ?_
    refine r_iload_n 45 hk dX11_readBand_44 rfl 0 rfl rfl ?_
    obtain ⟨b9, h⟩ := ck_e h
    obtain ⟨w10, ew10, h⟩ := lw_e h
    refine r_iast 46 w10 hk dX11_readBand_45 rfl rfl (mk_10_10 lq7) rfl b9 ew10 ?_
    refine r_aload_n 47 hk dX11_readBand_46 rfl 1 rfl rfl ?_
    refine r_get 50 hk dX11_readBand_47 rfl ff_RX11_139 (mk_11_0 (nx_11 hN (j := 0) (by decide))) (gv_11_4 _ _ _) ?_
    obtain ⟨q11, eq11, lq11, h⟩ := ckp_e h
    refine r_pv1 eq11 ?_
    refine r_dup 51 hk dX11_readBand_50 rfl rfl ?_
    refine r_get 54 hk dX11_readBand_51 rfl ff_RX11_155 (mk_10_0 lq11) (gv_10_2 _ _ _) ?_
    refine r_iconst 55 hk dX11_readBand_54 rfl ci_1 ?_
    refine r_iadd 56 hk dX11_readBand_55 rfl ?_
    obtain ⟨w12, ew12, h⟩ := lw_e h
    refine r_putI 59 w12 hk dX11_readBand_56 rfl ff_RX11_155 fi_10_2 (mk_10_0 lq11) ew12 ?_
    refine r_aload_n 60 hk dX11_readBand_59 rfl 1 rfl rfl ?_
    refine r_get 63 hk dX11_readBand_60 rfl ff_RX11_139 (mk_11_0 (nx_11 hN (j := 0) (by decide))) (gv_11_4 _ _ _) ?_
    obtain ⟨q13, eq13, lq13, h⟩ := ckp_e h
    refine r_pv1 eq13 ?_
    refine r_dup 64 hk dX11_readBand_63 rfl rfl ?_
    refine r_get 67 hk dX11_readBand_64 rfl ff_RX11_209 (mk_10_0 lq13) (gv_10_3 _ _ _) ?_
    refine r_iload_n 68 hk dX11_readBand_67 rfl 0 rfl rfl ?_
    refine r_iadd 69 hk dX11_readBand_68 rfl ?_
    obtain ⟨w14, ew14, h⟩ := lw_e h
    refine r_putI 72 w14 hk dX11_readBand_69 rfl ff_RX11_209 fi_10_3 (mk_10_0 lq13) ew14 ?_
    exact r_vret hk hR dX11_readBand_72 h
  · have h := if_t c6 h
    exact r_vret hk hR dX11_readBand_29 h
def fX11_readHas_50 (nd : Nat) (w : Wd) (x1 : Int32) : Option (Unit × Wd) :=
    ob (fX11_goesOn nd w ) fun _ w14 =>
    ob (fX11_readWhole nd w14 (0) (9999)) fun r15 w16 =>
    if (((w16 11 0).1 9) : Int32) = 5 then
      some ((), w16)
    else
      ckp ((w16 11 0).2.2.1 4) nd fun q18 =>
      ck (inb (x1) 48) <|
      lw (sA w16 10 q18 17 (x1 : Int32).toNatClampNeg (1)) fun w20 =>
      ckp ((w20 11 0).2.2.1 4) nd fun q21 =>
      ck (inb (x1) 48) <|
      lw (sA w20 10 q21 10 (x1 : Int32).toNatClampNeg (r15)) fun w23 =>
      ckp ((w23 11 0).2.2.1 4) nd fun q24 =>
      lw (sI w23 10 q24 4 ((((w23 10 q24).1 4) + 1))) fun w25 =>
      some ((), w25)
def fX11_readHas (nd : Nat) (w : Wd) : Option (Unit × Wd) :=
  ckp ((w 11 0).2.2.1 4) nd fun q1 =>
  ob (fX11_lineBegins nd w (((w 10 q1).1 4)) (12)) fun _ w3 =>
  ckp ((w3 11 0).2.2.1 4) nd fun q4 =>
  ob (fX11_toldAt nd w3 (((w3 10 q4).1 3))) fun r5 w6 =>
  if (((w6 11 0).1 9) : Int32) = 5 then
    fX11_readHas_50 nd w6 (r5)
  else
    ckp ((w6 11 0).2.2.1 4) nd fun q8 =>
    ck (inb (r5) 48) <|
    if (((w6 10 q8).2.1 17 (r5 : Int32).toNatClampNeg) : Int32) = 0 then
      fX11_readHas_50 nd w6 (r5)
    else
      ob (fX11_flaw nd w6 (3)) fun _ w12 =>
      fX11_readHas_50 nd w12 (r5)
set_option maxRecDepth 100000 in
set_option maxHeartbeats 4000000 in
theorem sX11_readHas_50 {K : VC} {al : Al} {r : Unit} {wz : Wd}  (hk : VH K RX11 cX11_readHas 3 67) (hR : VR K al none none wz) (hn : kn K = 3) (hN : NX (kG K)) (w : Wd) (x1 : Int32) (h : fX11_readHas_50 (gN (kG K) 10) w x1 = some (r, wz)) : V K al w 50 [(0, .ref (al 11 0 0)), (1, .int x1)] [] := by
  rw [fX11_readHas_50.eq_1] at h
  refine r_aload_n 51 hk dX11_readHas_50 rfl 0 rfl rfl ?_
  obtain ⟨r13, w14, ew14, h⟩ := ob_e h
  refine r_cVv 54 (As := []) (rest := []) hk (kX11_goesOn hN ew14) cf_RX11_113 mi_X11_goesOn ⟨TX11, 36, rfl⟩ dX11_readHas_51 rfl (Nat.le_of_ble_eq_true rfl) (Nat.le_of_ble_eq_true rfl) (mk_11_0 (nx_11 hN (j := 0) (by decide))) rfl rfl (Nat.le_of_ble_eq_true rfl) ?_
  refine r_aload_n 55 hk dX11_readHas_54 rfl 0 rfl rfl ?_
  refine r_iconst 56 hk dX11_readHas_55 rfl ci_0 ?_
  refine r_sipush 59 hk dX11_readHas_56 rfl cs_9999 ?_
  obtain ⟨r15, w16, ew16, h⟩ := ob_e h
  refine r_cVi 62 (As := [.int 0, .int 9999]) (rest := []) hk (kX11_readWhole hN ew16) cf_RX11_136 mi_X11_readWhole ⟨TX11, 36, rfl⟩ dX11_readHas_59 rfl (Nat.le_of_ble_eq_true rfl) (Nat.le_of_ble_eq_true rfl) (mk_11_0 (nx_11 hN (j := 0) (by decide))) rfl rfl (Nat.le_of_ble_eq_true rfl) ?_
  refine r_istore_n 63 [(2, .int r15), (0, .ref (al 11 0 0)), (1, .int x1)] hk dX11_readHas_62 rfl rfl hn (by decide) rfl rfl ?_
  refine r_aload_n 64 hk dX11_readHas_63 rfl 1 rfl rfl ?_
  refine r_get 67 hk dX11_readHas_64 rfl ff_RX11_77 (mk_11_0 (nx_11 hN (j := 0) (by decide))) (gv_11_9 _ _ _) ?_
  refine r_iconst 68 hk dX11_readHas_67 rfl ci_5 ?_
  refine r_icmp_ne 72 71 hk dX11_readHas_68 rfl rfl (fun c17 => ?_) (fun c17 => ?_)
  · have h := if_f c17 h
    refine r_aload_n 73 hk dX11_readHas_72 rfl 1 rfl rfl ?_
    refine r_get 76 hk dX11_readHas_73 rfl ff_RX11_139 (mk_11_0 (nx_11 hN (j := 0) (by decide))) (gv_11_4 _ _ _) ?_
    obtain ⟨q18, eq18, lq18, h⟩ := ckp_e h
    refine r_pv1 eq18 ?_
    refine r_get 79 hk dX11_readHas_76 rfl ff_RX11_218 (mk_10_0 lq18) (gv_10_17 _ _ _) ?_
    refine r_iload_n 80 hk dX11_readHas_79 rfl 2 rfl rfl ?_
    refine r_iconst 81 hk dX11_readHas_80 rfl ci_1 ?_
    obtain ⟨b19, h⟩ := ck_e h
    obtain ⟨w20, ew20, h⟩ := lw_e h
    refine r_zast 82 w20 hk dX11_readHas_81 rfl rfl (mk_10_18 lq18) rfl b19 (by decide) ew20 ?_
    refine r_aload_n 83 hk dX11_readHas_82 rfl 1 rfl rfl ?_
    refine r_get 86 hk dX11_readHas_83 rfl ff_RX11_139 (mk_11_0 (nx_11 hN (j := 0) (by decide))) (gv_11_4 _ _ _) ?_
    obtain ⟨q21, eq21, lq21, h⟩ := ckp_e h
    refine r_pv1 eq21 ?_
    refine r_get 89 hk dX11_readHas_86 rfl ff_RX11_221 (mk_10_0 lq21) (gv_10_10 _ _ _) ?_
    refine r_iload_n 90 hk dX11_readHas_89 rfl 2 rfl rfl ?_
    refine r_iload_n 91 hk dX11_readHas_90 rfl 0 rfl rfl ?_
    obtain ⟨b22, h⟩ := ck_e h
    obtain ⟨w23, ew23, h⟩ := lw_e h
    refine r_iast 92 w23 hk dX11_readHas_91 rfl rfl (mk_10_11 lq21) rfl b22 ew23 ?_
    refine r_aload_n 93 hk dX11_readHas_92 rfl 1 rfl rfl ?_
    refine r_get 96 hk dX11_readHas_93 rfl ff_RX11_139 (mk_11_0 (nx_11 hN (j := 0) (by decide))) (gv_11_4 _ _ _) ?_
    obtain ⟨q24, eq24, lq24, h⟩ := ckp_e h
    refine r_pv1 eq24 ?_
    refine r_dup 97 hk dX11_readHas_96 rfl rfl ?_
    refine r_get 100 hk dX11_readHas_97 rfl ff_RX11_212 (mk_10_0 lq24) (gv_10_4 _ _ _) ?_
    refine r_iconst 101 hk dX11_readHas_100 rfl ci_1 ?_
    refine r_iadd 102 hk dX11_readHas_101 rfl ?_
    obtain ⟨w25, ew25, h⟩ := lw_e h
    refine r_putI 105 w25 hk dX11_readHas_102 rfl ff_RX11_212 fi_10_4 (mk_10_0 lq24) ew25 ?_
    exact r_vret hk hR dX11_readHas_105 h
  · have h := if_t c17 h
    exact r_vret hk hR dX11_readHas_71 h
set_option maxRecDepth 100000 in
set_option maxHeartbeats 4000000 in
theorem kX11_readHas {l : Launch} {G : Gx} {al : Al} {w : Wd} {r : Unit} {wz : Wd} (hN : NX G) (h : fX11_readHas (gN G 10) w = some (r, wz)) : MC l G yX11_readHas cX11_readHas 3 none 3 67 al w [.ref (al 11 0 0)] none wz := by
  refine mc_of [(0, .ref (al 11 0 0))] (by decide) (Nat.le_of_ble_eq_true rfl) rfl ?_
  intro K hk hR hn hl hG
  subst hl; subst hG
  have hk : VH K RX11 cX11_readHas 3 67 := hk
  rw [fX11_readHas.eq_1] at h
  refine r_aload_n 1 hk dX11_readHas_0 rfl 0 rfl rfl ?_
  refine r_aload_n 2 hk dX11_readHas_1 rfl 0 rfl rfl ?_
  refine r_get 5 hk dX11_readHas_2 rfl ff_RX11_139 (mk_11_0 (nx_11 hN (j := 0) (by decide))) (gv_11_4 _ _ _) ?_
  obtain ⟨q1, eq1, lq1, h⟩ := ckp_e h
  refine r_pv1 eq1 ?_
  refine r_get 8 hk dX11_readHas_5 rfl ff_RX11_212 (mk_10_0 lq1) (gv_10_4 _ _ _) ?_
  refine r_bipush 10 hk dX11_readHas_8 rfl cb_12 ?_
  obtain ⟨r2, w3, ew3, h⟩ := ob_e h
  refine r_cVv 13 (As := [.int (((w 10 q1).1 4)), .int 12]) (rest := []) hk (kX11_lineBegins hN ew3) cf_RX11_203 mi_X11_lineBegins ⟨TX11, 36, rfl⟩ dX11_readHas_10 rfl (Nat.le_of_ble_eq_true rfl) (Nat.le_of_ble_eq_true rfl) (mk_11_0 (nx_11 hN (j := 0) (by decide))) rfl rfl (Nat.le_of_ble_eq_true rfl) ?_
  refine r_aload_n 14 hk dX11_readHas_13 rfl 0 rfl rfl ?_
  refine r_aload_n 15 hk dX11_readHas_14 rfl 0 rfl rfl ?_
  refine r_get 18 hk dX11_readHas_15 rfl ff_RX11_139 (mk_11_0 (nx_11 hN (j := 0) (by decide))) (gv_11_4 _ _ _) ?_
  obtain ⟨q4, eq4, lq4, h⟩ := ckp_e h
  refine r_pv1 eq4 ?_
  refine r_get 21 hk dX11_readHas_18 rfl ff_RX11_209 (mk_10_0 lq4) (gv_10_3 _ _ _) ?_
  obtain ⟨r5, w6, ew6, h⟩ := ob_e h
  refine r_cVi 24 (As := [.int (((w3 10 q4).1 3))]) (rest := []) hk (kX11_toldAt hN ew6) cf_RX11_215 mi_X11_toldAt ⟨TX11, 36, rfl⟩ dX11_readHas_21 rfl (Nat.le_of_ble_eq_true rfl) (Nat.le_of_ble_eq_true rfl) (mk_11_0 (nx_11 hN (j := 0) (by decide))) rfl rfl (Nat.le_of_ble_eq_true rfl) ?_
  refine r_istore_n 25 [(1, .int r5), (0, .ref (al 11 0 0))] hk dX11_readHas_24 rfl rfl hn (by decide) rfl rfl ?_
  refine r_aload_n 26 hk dX11_readHas_25 rfl 1 rfl rfl ?_
  refine r_get 29 hk dX11_readHas_26 rfl ff_RX11_77 (mk_11_0 (nx_11 hN (j := 0) (by decide))) (gv_11_9 _ _ _) ?_
  refine r_iconst 30 hk dX11_readHas_29 rfl ci_5 ?_
  refine r_icmp_eq 50 33 hk dX11_readHas_30 rfl rfl (fun c7 => ?_) (fun c7 => ?_)
  · have h := if_t c7 h
    refine r_sub [1, 0] rfl ?_
    exact sX11_readHas_50 hk hR hn hN _ _ h
  · have h := if_f c7 h
    refine r_aload_n 34 hk dX11_readHas_33 rfl 1 rfl rfl ?_
    refine r_get 37 hk dX11_readHas_34 rfl ff_RX11_139 (mk_11_0 (nx_11 hN (j := 0) (by decide))) (gv_11_4 _ _ _) ?_
    obtain ⟨q8, eq8, lq8, h⟩ := ckp_e h
    refine r_pv1 eq8 ?_
    refine r_get 40 hk dX11_readHas_37 rfl ff_RX11_218 (mk_10_0 lq8) (gv_10_17 _ _ _) ?_
    refine r_iload_n 41 hk dX11_readHas_40 rfl 0 rfl rfl ?_
    obtain ⟨b9, h⟩ := ck_e h
    refine r_zald 42 hk dX11_readHas_41 rfl rfl (mk_10_18 lq8) rfl b9 ?_
    refine r_if_eq 50 45 hk dX11_readHas_42 rfl rfl (fun c10 => ?_) (fun c10 => ?_)
    · have h := if_t c10 h
      refine r_sub [1, 0] rfl ?_
      exact sX11_readHas_50 hk hR hn hN _ _ h
    · have h := if_f c10 h
      refine r_aload_n 46 hk dX11_readHas_45 rfl 1 rfl rfl ?_
      refine r_iconst 47 hk dX11_readHas_46 rfl ci_3 ?_
      obtain ⟨r11, w12, ew12, h⟩ := ob_e h
      refine r_cVv 50 (As := [.int 3]) (rest := []) hk (kX11_flaw hN ew12) cf_RX11_120 mi_X11_flaw ⟨TX11, 36, rfl⟩ dX11_readHas_47 rfl (Nat.le_of_ble_eq_true rfl) (Nat.le_of_ble_eq_true rfl) (mk_11_0 (nx_11 hN (j := 0) (by decide))) rfl rfl (Nat.le_of_ble_eq_true rfl) ?_
      refine r_sub [1, 0] rfl ?_
      exact sX11_readHas_50 hk hR hn hN _ _ h
def fX11_readWrite (nd : Nat) (w : Wd) : Option (Unit × Wd) :=
  ckp ((w 11 0).2.2.1 4) nd fun q1 =>
  ob (fX11_lineBegins nd w (((w 10 q1).1 5)) (16)) fun _ w3 =>
  ckp ((w3 11 0).2.2.1 4) nd fun q4 =>
  ob (fX11_toldAt nd w3 (((w3 10 q4).1 3))) fun r5 w6 =>
  ob (fX11_goesOn nd w6 ) fun _ w8 =>
  ob (fX11_readWhole nd w8 (0) (9999)) fun r9 w10 =>
  if (((w10 11 0).1 9) : Int32) = 5 then
    some ((), w10)
  else
    ckp ((w10 11 0).2.2.1 4) nd fun q12 =>
    ckp ((w10 11 0).2.2.1 4) nd fun q13 =>
    ck (inb (((w10 10 q13).1 5)) 16) <|
    lw (sA w10 10 q12 11 (((w10 10 q13).1 5) : Int32).toNatClampNeg (r5)) fun w15 =>
    ckp ((w15 11 0).2.2.1 4) nd fun q16 =>
    ckp ((w15 11 0).2.2.1 4) nd fun q17 =>
    ck (inb (((w15 10 q17).1 5)) 16) <|
    lw (sA w15 10 q16 12 (((w15 10 q17).1 5) : Int32).toNatClampNeg (r9)) fun w19 =>
    ckp ((w19 11 0).2.2.1 4) nd fun q20 =>
    lw (sI w19 10 q20 5 ((((w19 10 q20).1 5) + 1))) fun w21 =>
    some ((), w21)
set_option maxRecDepth 100000 in
set_option maxHeartbeats 4000000 in
theorem kX11_readWrite {l : Launch} {G : Gx} {al : Al} {w : Wd} {r : Unit} {wz : Wd} (hN : NX G) (h : fX11_readWrite (gN G 10) w = some (r, wz)) : MC l G yX11_readWrite cX11_readWrite 3 none 3 67 al w [.ref (al 11 0 0)] none wz := by
  refine mc_of [(0, .ref (al 11 0 0))] (by decide) (Nat.le_of_ble_eq_true rfl) rfl ?_
  intro K hk hR hn hl hG
  subst hl; subst hG
  have hk : VH K RX11 cX11_readWrite 3 67 := hk
  rw [fX11_readWrite.eq_1] at h
  refine r_aload_n 1 hk dX11_readWrite_0 rfl 0 rfl rfl ?_
  refine r_aload_n 2 hk dX11_readWrite_1 rfl 0 rfl rfl ?_
  refine r_get 5 hk dX11_readWrite_2 rfl ff_RX11_139 (mk_11_0 (nx_11 hN (j := 0) (by decide))) (gv_11_4 _ _ _) ?_
  obtain ⟨q1, eq1, lq1, h⟩ := ckp_e h
  refine r_pv1 eq1 ?_
  refine r_get 8 hk dX11_readWrite_5 rfl ff_RX11_224 (mk_10_0 lq1) (gv_10_5 _ _ _) ?_
  refine r_bipush 10 hk dX11_readWrite_8 rfl cb_16 ?_
  obtain ⟨r2, w3, ew3, h⟩ := ob_e h
  refine r_cVv 13 (As := [.int (((w 10 q1).1 5)), .int 16]) (rest := []) hk (kX11_lineBegins hN ew3) cf_RX11_203 mi_X11_lineBegins ⟨TX11, 36, rfl⟩ dX11_readWrite_10 rfl (Nat.le_of_ble_eq_true rfl) (Nat.le_of_ble_eq_true rfl) (mk_11_0 (nx_11 hN (j := 0) (by decide))) rfl rfl (Nat.le_of_ble_eq_true rfl) ?_
  refine r_aload_n 14 hk dX11_readWrite_13 rfl 0 rfl rfl ?_
  refine r_aload_n 15 hk dX11_readWrite_14 rfl 0 rfl rfl ?_
  refine r_get 18 hk dX11_readWrite_15 rfl ff_RX11_139 (mk_11_0 (nx_11 hN (j := 0) (by decide))) (gv_11_4 _ _ _) ?_
  obtain ⟨q4, eq4, lq4, h⟩ := ckp_e h
  refine r_pv1 eq4 ?_
  refine r_get 21 hk dX11_readWrite_18 rfl ff_RX11_209 (mk_10_0 lq4) (gv_10_3 _ _ _) ?_
  obtain ⟨r5, w6, ew6, h⟩ := ob_e h
  refine r_cVi 24 (As := [.int (((w3 10 q4).1 3))]) (rest := []) hk (kX11_toldAt hN ew6) cf_RX11_215 mi_X11_toldAt ⟨TX11, 36, rfl⟩ dX11_readWrite_21 rfl (Nat.le_of_ble_eq_true rfl) (Nat.le_of_ble_eq_true rfl) (mk_11_0 (nx_11 hN (j := 0) (by decide))) rfl rfl (Nat.le_of_ble_eq_true rfl) ?_
  refine r_istore_n 25 [(1, .int r5), (0, .ref (al 11 0 0))] hk dX11_readWrite_24 rfl rfl hn (by decide) rfl rfl ?_
  refine r_aload_n 26 hk dX11_readWrite_25 rfl 1 rfl rfl ?_
  obtain ⟨r7, w8, ew8, h⟩ := ob_e h
  refine r_cVv 29 (As := []) (rest := []) hk (kX11_goesOn hN ew8) cf_RX11_113 mi_X11_goesOn ⟨TX11, 36, rfl⟩ dX11_readWrite_26 rfl (Nat.le_of_ble_eq_true rfl) (Nat.le_of_ble_eq_true rfl) (mk_11_0 (nx_11 hN (j := 0) (by decide))) rfl rfl (Nat.le_of_ble_eq_true rfl) ?_
  refine r_aload_n 30 hk dX11_readWrite_29 rfl 1 rfl rfl ?_
  refine r_iconst 31 hk dX11_readWrite_30 rfl ci_0 ?_
  refine r_sipush 34 hk dX11_readWrite_31 rfl cs_9999 ?_
  obtain ⟨r9, w10, ew10, h⟩ := ob_e h
  refine r_cVi 37 (As := [.int 0, .int 9999]) (rest := []) hk (kX11_readWhole hN ew10) cf_RX11_136 mi_X11_readWhole ⟨TX11, 36, rfl⟩ dX11_readWrite_34 rfl (Nat.le_of_ble_eq_true rfl) (Nat.le_of_ble_eq_true rfl) (mk_11_0 (nx_11 hN (j := 0) (by decide))) rfl rfl (Nat.le_of_ble_eq_true rfl) ?_
  refine r_istore_n 38 [(2, .int r9), (1, .int r5), (0, .ref (al 11 0 0))] hk dX11_readWrite_37 rfl rfl hn (by decide) rfl rfl ?_
  refine r_aload_n 39 hk dX11_readWrite_38 rfl 2 rfl rfl ?_
  refine r_get 42 hk dX11_readWrite_39 rfl ff_RX11_77 (mk_11_0 (nx_11 hN (j := 0) (by decide))) (gv_11_9 _ _ _) ?_
  refine r_iconst 43 hk dX11_readWrite_42 rfl ci_5 ?_
  refine r_icmp_ne 47 46 hk dX11_readWrite_43 rfl rfl (fun c11 => ?_) (fun c11 => ?_)
  · have h := if_f c11 h
    refine r_aload_n 48 hk dX11_readWrite_47 rfl 2 rfl rfl ?_
    refine r_get 51 hk dX11_readWrite_48 rfl ff_RX11_139 (mk_11_0 (nx_11 hN (j := 0) (by decide))) (gv_11_4 _ _ _) ?_
    obtain ⟨q12, eq12, lq12, h⟩ := ckp_e h
    refine r_pv1 eq12 ?_
    refine r_get 54 hk dX11_readWrite_51 rfl ff_RX11_227 (mk_10_0 lq12) (gv_10_11 _ _ _) ?_
    refine r_aload_n 55 hk dX11_readWrite_54 rfl 2 rfl rfl ?_
    refine r_get 58 hk dX11_readWrite_55 rfl ff_RX11_139 (mk_11_0 (nx_11 hN (j := 0) (by decide))) (gv_11_4 _ _ _) ?_
    obtain ⟨q13, eq13, lq13, h⟩ := ckp_e h
    refine r_pv1 eq13 ?_
    refine r_get 61 hk dX11_readWrite_58 rfl ff_RX11_224 (mk_10_0 lq13) (gv_10_5 _ _ _) ?_
    refine r_iload_n 62 hk dX11_readWrite_61 rfl 1 rfl rfl ?_
    obtain ⟨b14, h⟩ := ck_e h
    obtain ⟨w15, ew15, h⟩ := lw_e h
    refine r_iast 63 w15 hk dX11_readWrite_62 rfl rfl (mk_10_12 lq12) rfl b14 ew15 ?_
    refine r_aload_n 64 hk dX11_readWrite_63 rfl 2 rfl rfl ?_
    refine r_get 67 hk dX11_readWrite_64 rfl ff_RX11_139 (mk_11_0 (nx_11 hN (j := 0) (by decide))) (gv_11_4 _ _ _) ?_
    obtain ⟨q16, eq16, lq16, h⟩ := ckp_e h
    refine r_pv1 eq16 ?_
    refine r_get 70 hk dX11_readWrite_67 rfl ff_RX11_230 (mk_10_0 lq16) (gv_10_12 _ _ _) ?_
    refine r_aload_n 71 hk dX11_readWrite_70 rfl 2 rfl rfl ?_
    refine r_get 74 hk dX11_readWrite_71 rfl ff_RX11_139 (mk_11_0 (nx_11 hN (j := 0) (by decide))) (gv_11_4 _ _ _) ?_
    obtain ⟨q17, eq17, lq17, h⟩ := ckp_e h
    refine r_pv1 eq17 ?_
    refine r_get 77 hk dX11_readWrite_74 rfl ff_RX11_224 (mk_10_0 lq17) (gv_10_5 _ _ _) ?_
    refine r_iload_n 78 hk dX11_readWrite_77 rfl 0 rfl rfl ?_
    obtain ⟨b18, h⟩ := ck_e h
    obtain ⟨w19, ew19, h⟩ := lw_e h
    refine r_iast 79 w19 hk dX11_readWrite_78 rfl rfl (mk_10_13 lq16) rfl b18 ew19 ?_
    refine r_aload_n 80 hk dX11_readWrite_79 rfl 2 rfl rfl ?_
    refine r_get 83 hk dX11_readWrite_80 rfl ff_RX11_139 (mk_11_0 (nx_11 hN (j := 0) (by decide))) (gv_11_4 _ _ _) ?_
    obtain ⟨q20, eq20, lq20, h⟩ := ckp_e h
    refine r_pv1 eq20 ?_
    refine r_dup 84 hk dX11_readWrite_83 rfl rfl ?_
    refine r_get 87 hk dX11_readWrite_84 rfl ff_RX11_224 (mk_10_0 lq20) (gv_10_5 _ _ _) ?_
    refine r_iconst 88 hk dX11_readWrite_87 rfl ci_1 ?_
    refine r_iadd 89 hk dX11_readWrite_88 rfl ?_
    obtain ⟨w21, ew21, h⟩ := lw_e h
    refine r_putI 92 w21 hk dX11_readWrite_89 rfl ff_RX11_224 fi_10_5 (mk_10_0 lq20) ew21 ?_
    exact r_vret hk hR dX11_readWrite_92 h
  · have h := if_t c11 h
    exact r_vret hk hR dX11_readWrite_46 h
def fX11_readUnsure_58 (nd : Nat) (w : Wd) (x1 : Int32) : Option (Unit × Wd) :=
    ob (fX11_goesOn nd w ) fun _ w16 =>
    ob (fX11_readWhole nd w16 (0) (9999)) fun r17 w18 =>
    if (((w18 11 0).1 9) : Int32) = 5 then
      some ((), w18)
    else
      ckp ((w18 11 0).2.2.1 4) nd fun q20 =>
      ckp ((w18 11 0).2.2.1 4) nd fun q21 =>
      ck (inb (((w18 10 q21).1 6)) 4) <|
      lw (sA w18 10 q20 13 (((w18 10 q21).1 6) : Int32).toNatClampNeg (x1)) fun w23 =>
      ckp ((w23 11 0).2.2.1 4) nd fun q24 =>
      ckp ((w23 11 0).2.2.1 4) nd fun q25 =>
      ck (inb (((w23 10 q25).1 6)) 4) <|
      lw (sA w23 10 q24 14 (((w23 10 q25).1 6) : Int32).toNatClampNeg (r17)) fun w27 =>
      ckp ((w27 11 0).2.2.1 4) nd fun q28 =>
      lw (sI w27 10 q28 6 ((((w27 10 q28).1 6) + 1))) fun w29 =>
      some ((), w29)
def fX11_readUnsure (nd : Nat) (w : Wd) : Option (Unit × Wd) :=
  ckp ((w 11 0).2.2.1 4) nd fun q1 =>
  ob (fX11_lineBegins nd w (((w 10 q1).1 6)) (4)) fun _ w3 =>
  ckp ((w3 11 0).2.2.1 4) nd fun q4 =>
  ob (fX11_toldAt nd w3 (((w3 10 q4).1 5))) fun r5 w6 =>
  if (((w6 11 0).1 9) : Int32) = 5 then
    fX11_readUnsure_58 nd w6 (r5)
  else
    ckp ((w6 11 0).2.2.1 4) nd fun q8 =>
    ckp ((w6 11 0).2.2.1 4) nd fun q9 =>
    ob (fX10_stands nd 10 q8 13 w6 (((w6 10 q9).1 6)) (r5)) fun r10 w11 =>
    if (r10 : Int32) = 0 then
      fX11_readUnsure_58 nd w11 (r5)
    else
      ob (fX11_flaw nd w11 (3)) fun _ w14 =>
      fX11_readUnsure_58 nd w14 (r5)
set_option maxRecDepth 100000 in
set_option maxHeartbeats 4000000 in
theorem sX11_readUnsure_58 {K : VC} {al : Al} {r : Unit} {wz : Wd}  (hk : VH K RX11 cX11_readUnsure 3 67) (hR : VR K al none none wz) (hn : kn K = 3) (hN : NX (kG K)) (w : Wd) (x1 : Int32) (h : fX11_readUnsure_58 (gN (kG K) 10) w x1 = some (r, wz)) : V K al w 58 [(0, .ref (al 11 0 0)), (1, .int x1)] [] := by
  rw [fX11_readUnsure_58.eq_1] at h
  refine r_aload_n 59 hk dX11_readUnsure_58 rfl 0 rfl rfl ?_
  obtain ⟨r15, w16, ew16, h⟩ := ob_e h
  refine r_cVv 62 (As := []) (rest := []) hk (kX11_goesOn hN ew16) cf_RX11_113 mi_X11_goesOn ⟨TX11, 36, rfl⟩ dX11_readUnsure_59 rfl (Nat.le_of_ble_eq_true rfl) (Nat.le_of_ble_eq_true rfl) (mk_11_0 (nx_11 hN (j := 0) (by decide))) rfl rfl (Nat.le_of_ble_eq_true rfl) ?_
  refine r_aload_n 63 hk dX11_readUnsure_62 rfl 0 rfl rfl ?_
  refine r_iconst 64 hk dX11_readUnsure_63 rfl ci_0 ?_
  refine r_sipush 67 hk dX11_readUnsure_64 rfl cs_9999 ?_
  obtain ⟨r17, w18, ew18, h⟩ := ob_e h
  refine r_cVi 70 (As := [.int 0, .int 9999]) (rest := []) hk (kX11_readWhole hN ew18) cf_RX11_136 mi_X11_readWhole ⟨TX11, 36, rfl⟩ dX11_readUnsure_67 rfl (Nat.le_of_ble_eq_true rfl) (Nat.le_of_ble_eq_true rfl) (mk_11_0 (nx_11 hN (j := 0) (by decide))) rfl rfl (Nat.le_of_ble_eq_true rfl) ?_
  refine r_istore_n 71 [(2, .int r17), (0, .ref (al 11 0 0)), (1, .int x1)] hk dX11_readUnsure_70 rfl rfl hn (by decide) rfl rfl ?_
  refine r_aload_n 72 hk dX11_readUnsure_71 rfl 1 rfl rfl ?_
  refine r_get 75 hk dX11_readUnsure_72 rfl ff_RX11_77 (mk_11_0 (nx_11 hN (j := 0) (by decide))) (gv_11_9 _ _ _) ?_
  refine r_iconst 76 hk dX11_readUnsure_75 rfl ci_5 ?_
  refine r_icmp_ne 80 79 hk dX11_readUnsure_76 rfl rfl (fun c19 => ?_) (fun c19 => ?_)
  · have h := if_f c19 h
    refine r_aload_n 81 hk dX11_readUnsure_80 rfl 1 rfl rfl ?_
    refine r_get 84 hk dX11_readUnsure_81 rfl ff_RX11_139 (mk_11_0 (nx_11 hN (j := 0) (by decide))) (gv_11_4 _ _ _) ?_
    obtain ⟨q20, eq20, lq20, h⟩ := ckp_e h
    refine r_pv1 eq20 ?_
    refine r_get 87 hk dX11_readUnsure_84 rfl ff_RX11_236 (mk_10_0 lq20) (gv_10_13 _ _ _) ?_
    refine r_aload_n 88 hk dX11_readUnsure_87 rfl 1 rfl rfl ?_
    refine r_get 91 hk dX11_readUnsure_88 rfl ff_RX11_139 (mk_11_0 (nx_11 hN (j := 0) (by decide))) (gv_11_4 _ _ _) ?_
    obtain ⟨q21, eq21, lq21, h⟩ := ckp_e h
    refine r_pv1 eq21 ?_
    refine r_get 94 hk dX11_readUnsure_91 rfl ff_RX11_233 (mk_10_0 lq21) (gv_10_6 _ _ _) ?_
    refine r_iload_n 95 hk dX11_readUnsure_94 rfl 2 rfl rfl ?_
    obtain ⟨b22, h⟩ := ck_e h
    obtain ⟨w23, ew23, h⟩ := lw_e h
    refine r_iast 96 w23 hk dX11_readUnsure_95 rfl rfl (mk_10_14 lq20) rfl b22 ew23 ?_
    refine r_aload_n 97 hk dX11_readUnsure_96 rfl 1 rfl rfl ?_
    refine r_get 100 hk dX11_readUnsure_97 rfl ff_RX11_139 (mk_11_0 (nx_11 hN (j := 0) (by decide))) (gv_11_4 _ _ _) ?_
    obtain ⟨q24, eq24, lq24, h⟩ := ckp_e h
    refine r_pv1 eq24 ?_
    refine r_get 103 hk dX11_readUnsure_100 rfl ff_RX11_242 (mk_10_0 lq24) (gv_10_14 _ _ _) ?_
    refine r_aload_n 104 hk dX11_readUnsure_103 rfl 1 rfl rfl ?_
    refine r_get 107 hk dX11_readUnsure_104 rfl ff_RX11_139 (mk_11_0 (nx_11 hN (j := 0) (by decide))) (gv_11_4 _ _ _) ?_
    obtain ⟨q25, eq25, lq25, h⟩ := ckp_e h
    refine r_pv1 eq25 ?_
    refine r_get 110 hk dX11_readUnsure_107 rfl ff_RX11_233 (mk_10_0 lq25) (gv_10_6 _ _ _) ?_
    refine r_iload_n 111 hk dX11_readUnsure_110 rfl 0 rfl rfl ?_
    obtain ⟨b26, h⟩ := ck_e h
    obtain ⟨w27, ew27, h⟩ := lw_e h
    refine r_iast 112 w27 hk dX11_readUnsure_111 rfl rfl (mk_10_15 lq24) rfl b26 ew27 ?_
    refine r_aload_n 113 hk dX11_readUnsure_112 rfl 1 rfl rfl ?_
    refine r_get 116 hk dX11_readUnsure_113 rfl ff_RX11_139 (mk_11_0 (nx_11 hN (j := 0) (by decide))) (gv_11_4 _ _ _) ?_
    obtain ⟨q28, eq28, lq28, h⟩ := ckp_e h
    refine r_pv1 eq28 ?_
    refine r_dup 117 hk dX11_readUnsure_116 rfl rfl ?_
    refine r_get 120 hk dX11_readUnsure_117 rfl ff_RX11_233 (mk_10_0 lq28) (gv_10_6 _ _ _) ?_
    refine r_iconst 121 hk dX11_readUnsure_120 rfl ci_1 ?_
    refine r_iadd 122 hk dX11_readUnsure_121 rfl ?_
    obtain ⟨w29, ew29, h⟩ := lw_e h
    refine r_putI 125 w29 hk dX11_readUnsure_122 rfl ff_RX11_233 fi_10_6 (mk_10_0 lq28) ew29 ?_
    exact r_vret hk hR dX11_readUnsure_125 h
  · have h := if_t c19 h
    exact r_vret hk hR dX11_readUnsure_79 h
set_option maxRecDepth 100000 in
set_option maxHeartbeats 4000000 in
theorem kX11_readUnsure {l : Launch} {G : Gx} {al : Al} {w : Wd} {r : Unit} {wz : Wd} (hN : NX G) (h : fX11_readUnsure (gN G 10) w = some (r, wz)) : MC l G yX11_readUnsure cX11_readUnsure 3 none 3 67 al w [.ref (al 11 0 0)] none wz := by
  refine mc_of [(0, .ref (al 11 0 0))] (by decide) (Nat.le_of_ble_eq_true rfl) rfl ?_
  intro K hk hR hn hl hG
  subst hl; subst hG
  have hk : VH K RX11 cX11_readUnsure 3 67 := hk
  rw [fX11_readUnsure.eq_1] at h
  refine r_aload_n 1 hk dX11_readUnsure_0 rfl 0 rfl rfl ?_
  refine r_aload_n 2 hk dX11_readUnsure_1 rfl 0 rfl rfl ?_
  refine r_get 5 hk dX11_readUnsure_2 rfl ff_RX11_139 (mk_11_0 (nx_11 hN (j := 0) (by decide))) (gv_11_4 _ _ _) ?_
  obtain ⟨q1, eq1, lq1, h⟩ := ckp_e h
  refine r_pv1 eq1 ?_
  refine r_get 8 hk dX11_readUnsure_5 rfl ff_RX11_233 (mk_10_0 lq1) (gv_10_6 _ _ _) ?_
  refine r_iconst 9 hk dX11_readUnsure_8 rfl ci_4 ?_
  obtain ⟨r2, w3, ew3, h⟩ := ob_e h
  refine r_cVv 12 (As := [.int (((w 10 q1).1 6)), .int 4]) (rest := []) hk (kX11_lineBegins hN ew3) cf_RX11_203 mi_X11_lineBegins ⟨TX11, 36, rfl⟩ dX11_readUnsure_9 rfl (Nat.le_of_ble_eq_true rfl) (Nat.le_of_ble_eq_true rfl) (mk_11_0 (nx_11 hN (j := 0) (by decide))) rfl rfl (Nat.le_of_ble_eq_true rfl) ?_
  refine r_aload_n 13 hk dX11_readUnsure_12 rfl 0 rfl rfl ?_
  refine r_aload_n 14 hk dX11_readUnsure_13 rfl 0 rfl rfl ?_
  refine r_get 17 hk dX11_readUnsure_14 rfl ff_RX11_139 (mk_11_0 (nx_11 hN (j := 0) (by decide))) (gv_11_4 _ _ _) ?_
  obtain ⟨q4, eq4, lq4, h⟩ := ckp_e h
  refine r_pv1 eq4 ?_
  refine r_get 20 hk dX11_readUnsure_17 rfl ff_RX11_224 (mk_10_0 lq4) (gv_10_5 _ _ _) ?_
  obtain ⟨r5, w6, ew6, h⟩ := ob_e h
  refine r_cVi 23 (As := [.int (((w3 10 q4).1 5))]) (rest := []) hk (kX11_toldAt hN ew6) cf_RX11_215 mi_X11_toldAt ⟨TX11, 36, rfl⟩ dX11_readUnsure_20 rfl (Nat.le_of_ble_eq_true rfl) (Nat.le_of_ble_eq_true rfl) (mk_11_0 (nx_11 hN (j := 0) (by decide))) rfl rfl (Nat.le_of_ble_eq_true rfl) ?_
  refine r_istore_n 24 [(1, .int r5), (0, .ref (al 11 0 0))] hk dX11_readUnsure_23 rfl rfl hn (by decide) rfl rfl ?_
  refine r_aload_n 25 hk dX11_readUnsure_24 rfl 1 rfl rfl ?_
  refine r_get 28 hk dX11_readUnsure_25 rfl ff_RX11_77 (mk_11_0 (nx_11 hN (j := 0) (by decide))) (gv_11_9 _ _ _) ?_
  refine r_iconst 29 hk dX11_readUnsure_28 rfl ci_5 ?_
  refine r_icmp_eq 58 32 hk dX11_readUnsure_29 rfl rfl (fun c7 => ?_) (fun c7 => ?_)
  · have h := if_t c7 h
    refine r_sub [1, 0] rfl ?_
    exact sX11_readUnsure_58 hk hR hn hN _ _ h
  · have h := if_f c7 h
    refine r_aload_n 33 hk dX11_readUnsure_32 rfl 1 rfl rfl ?_
    refine r_get 36 hk dX11_readUnsure_33 rfl ff_RX11_139 (mk_11_0 (nx_11 hN (j := 0) (by decide))) (gv_11_4 _ _ _) ?_
    obtain ⟨q8, eq8, lq8, h⟩ := ckp_e h
    refine r_pv1 eq8 ?_
    refine r_get 39 hk dX11_readUnsure_36 rfl ff_RX11_236 (mk_10_0 lq8) (gv_10_13 _ _ _) ?_
    refine r_aload_n 40 hk dX11_readUnsure_39 rfl 1 rfl rfl ?_
    refine r_get 43 hk dX11_readUnsure_40 rfl ff_RX11_139 (mk_11_0 (nx_11 hN (j := 0) (by decide))) (gv_11_4 _ _ _) ?_
    obtain ⟨q9, eq9, lq9, h⟩ := ckp_e h
    refine r_pv1 eq9 ?_
    refine r_get 46 hk dX11_readUnsure_43 rfl ff_RX11_233 (mk_10_0 lq9) (gv_10_6 _ _ _) ?_
    refine r_iload_n 47 hk dX11_readUnsure_46 rfl 0 rfl rfl ?_
    obtain ⟨r10, w11, ew11, h⟩ := ob_e h
    refine r_cSi 50 (As := [.ref (al 10 q8 14), .int (((w6 10 q9).1 6)), .int r5]) (rest := []) hk (kX10_stands hN rfl (mk_10_14 lq8) ew11) cf_RX11_238 ms_X10_stands dX11_readUnsure_47 rfl (Nat.le_of_ble_eq_true rfl) (Nat.le_of_ble_eq_true rfl) rfl rfl (Nat.le_of_ble_eq_true rfl) ?_
    refine r_if_eq 58 53 hk dX11_readUnsure_50 rfl rfl (fun c12 => ?_) (fun c12 => ?_)
    · have h := if_t c12 h
      refine r_sub [1, 0] rfl ?_
      exact sX11_readUnsure_58 hk hR hn hN _ _ h
    · have h := if_f c12 h
      refine r_aload_n 54 hk dX11_readUnsure_53 rfl 1 rfl rfl ?_
      refine r_iconst 55 hk dX11_readUnsure_54 rfl ci_3 ?_
      obtain ⟨r13, w14, ew14, h⟩ := ob_e h
      refine r_cVv 58 (As := [.int 3]) (rest := []) hk (kX11_flaw hN ew14) cf_RX11_120 mi_X11_flaw ⟨TX11, 36, rfl⟩ dX11_readUnsure_55 rfl (Nat.le_of_ble_eq_true rfl) (Nat.le_of_ble_eq_true rfl) (mk_11_0 (nx_11 hN (j := 0) (by decide))) rfl rfl (Nat.le_of_ble_eq_true rfl) ?_
      refine r_sub [1, 0] rfl ?_
      exact sX11_readUnsure_58 hk hR hn hN _ _ h
def fX11_readRead_59 (nd : Nat) (w : Wd) (x1 : Int32) : Option (Unit × Wd) :=
    ob (fX11_goesOn nd w ) fun _ w16 =>
    ob (fX11_readWhole nd w16 (0) (9999)) fun r17 w18 =>
    if (((w18 11 0).1 9) : Int32) = 5 then
      some ((), w18)
    else
      ckp ((w18 11 0).2.2.1 4) nd fun q20 =>
      ckp ((w18 11 0).2.2.1 4) nd fun q21 =>
      ck (inb (((w18 10 q21).1 7)) 6) <|
      lw (sA w18 10 q20 15 (((w18 10 q21).1 7) : Int32).toNatClampNeg (x1)) fun w23 =>
      ckp ((w23 11 0).2.2.1 4) nd fun q24 =>
      ckp ((w23 11 0).2.2.1 4) nd fun q25 =>
      ck (inb (((w23 10 q25).1 7)) 6) <|
      lw (sA w23 10 q24 16 (((w23 10 q25).1 7) : Int32).toNatClampNeg (r17)) fun w27 =>
      ckp ((w27 11 0).2.2.1 4) nd fun q28 =>
      lw (sI w27 10 q28 7 ((((w27 10 q28).1 7) + 1))) fun w29 =>
      some ((), w29)
def fX11_readRead (nd : Nat) (w : Wd) : Option (Unit × Wd) :=
  ckp ((w 11 0).2.2.1 4) nd fun q1 =>
  ob (fX11_lineBegins nd w (((w 10 q1).1 7)) (6)) fun _ w3 =>
  ckp ((w3 11 0).2.2.1 4) nd fun q4 =>
  ob (fX11_toldAt nd w3 (((w3 10 q4).1 3))) fun r5 w6 =>
  if (((w6 11 0).1 9) : Int32) = 5 then
    fX11_readRead_59 nd w6 (r5)
  else
    ckp ((w6 11 0).2.2.1 4) nd fun q8 =>
    ckp ((w6 11 0).2.2.1 4) nd fun q9 =>
    ob (fX10_stands nd 10 q8 15 w6 (((w6 10 q9).1 7)) (r5)) fun r10 w11 =>
    if (r10 : Int32) = 0 then
      fX11_readRead_59 nd w11 (r5)
    else
      ob (fX11_flaw nd w11 (3)) fun _ w14 =>
      fX11_readRead_59 nd w14 (r5)
set_option maxRecDepth 100000 in
set_option maxHeartbeats 4000000 in
theorem sX11_readRead_59 {K : VC} {al : Al} {r : Unit} {wz : Wd}  (hk : VH K RX11 cX11_readRead 3 67) (hR : VR K al none none wz) (hn : kn K = 3) (hN : NX (kG K)) (w : Wd) (x1 : Int32) (h : fX11_readRead_59 (gN (kG K) 10) w x1 = some (r, wz)) : V K al w 59 [(0, .ref (al 11 0 0)), (1, .int x1)] [] := by
  rw [fX11_readRead_59.eq_1] at h
  refine r_aload_n 60 hk dX11_readRead_59 rfl 0 rfl rfl ?_
  obtain ⟨r15, w16, ew16, h⟩ := ob_e h
  refine r_cVv 63 (As := []) (rest := []) hk (kX11_goesOn hN ew16) cf_RX11_113 mi_X11_goesOn ⟨TX11, 36, rfl⟩ dX11_readRead_60 rfl (Nat.le_of_ble_eq_true rfl) (Nat.le_of_ble_eq_true rfl) (mk_11_0 (nx_11 hN (j := 0) (by decide))) rfl rfl (Nat.le_of_ble_eq_true rfl) ?_
  refine r_aload_n 64 hk dX11_readRead_63 rfl 0 rfl rfl ?_
  refine r_iconst 65 hk dX11_readRead_64 rfl ci_0 ?_
  refine r_sipush 68 hk dX11_readRead_65 rfl cs_9999 ?_
  obtain ⟨r17, w18, ew18, h⟩ := ob_e h
  refine r_cVi 71 (As := [.int 0, .int 9999]) (rest := []) hk (kX11_readWhole hN ew18) cf_RX11_136 mi_X11_readWhole ⟨TX11, 36, rfl⟩ dX11_readRead_68 rfl (Nat.le_of_ble_eq_true rfl) (Nat.le_of_ble_eq_true rfl) (mk_11_0 (nx_11 hN (j := 0) (by decide))) rfl rfl (Nat.le_of_ble_eq_true rfl) ?_
  refine r_istore_n 72 [(2, .int r17), (0, .ref (al 11 0 0)), (1, .int x1)] hk dX11_readRead_71 rfl rfl hn (by decide) rfl rfl ?_
  refine r_aload_n 73 hk dX11_readRead_72 rfl 1 rfl rfl ?_
  refine r_get 76 hk dX11_readRead_73 rfl ff_RX11_77 (mk_11_0 (nx_11 hN (j := 0) (by decide))) (gv_11_9 _ _ _) ?_
  refine r_iconst 77 hk dX11_readRead_76 rfl ci_5 ?_
  refine r_icmp_ne 81 80 hk dX11_readRead_77 rfl rfl (fun c19 => ?_) (fun c19 => ?_)
  · have h := if_f c19 h
    refine r_aload_n 82 hk dX11_readRead_81 rfl 1 rfl rfl ?_
    refine r_get 85 hk dX11_readRead_82 rfl ff_RX11_139 (mk_11_0 (nx_11 hN (j := 0) (by decide))) (gv_11_4 _ _ _) ?_
    obtain ⟨q20, eq20, lq20, h⟩ := ckp_e h
    refine r_pv1 eq20 ?_
    refine r_get 88 hk dX11_readRead_85 rfl ff_RX11_248 (mk_10_0 lq20) (gv_10_15 _ _ _) ?_
    refine r_aload_n 89 hk dX11_readRead_88 rfl 1 rfl rfl ?_
    refine r_get 92 hk dX11_readRead_89 rfl ff_RX11_139 (mk_11_0 (nx_11 hN (j := 0) (by decide))) (gv_11_4 _ _ _) ?_
    obtain ⟨q21, eq21, lq21, h⟩ := ckp_e h
    refine r_pv1 eq21 ?_
    refine r_get 95 hk dX11_readRead_92 rfl ff_RX11_245 (mk_10_0 lq21) (gv_10_7 _ _ _) ?_
    refine r_iload_n 96 hk dX11_readRead_95 rfl 2 rfl rfl ?_
    obtain ⟨b22, h⟩ := ck_e h
    obtain ⟨w23, ew23, h⟩ := lw_e h
    refine r_iast 97 w23 hk dX11_readRead_96 rfl rfl (mk_10_16 lq20) rfl b22 ew23 ?_
    refine r_aload_n 98 hk dX11_readRead_97 rfl 1 rfl rfl ?_
    refine r_get 101 hk dX11_readRead_98 rfl ff_RX11_139 (mk_11_0 (nx_11 hN (j := 0) (by decide))) (gv_11_4 _ _ _) ?_
    obtain ⟨q24, eq24, lq24, h⟩ := ckp_e h
    refine r_pv1 eq24 ?_
    refine r_get 104 hk dX11_readRead_101 rfl ff_RX11_250 (mk_10_0 lq24) (gv_10_16 _ _ _) ?_
    refine r_aload_n 105 hk dX11_readRead_104 rfl 1 rfl rfl ?_
    refine r_get 108 hk dX11_readRead_105 rfl ff_RX11_139 (mk_11_0 (nx_11 hN (j := 0) (by decide))) (gv_11_4 _ _ _) ?_
    obtain ⟨q25, eq25, lq25, h⟩ := ckp_e h
    refine r_pv1 eq25 ?_
    refine r_get 111 hk dX11_readRead_108 rfl ff_RX11_245 (mk_10_0 lq25) (gv_10_7 _ _ _) ?_
    refine r_iload_n 112 hk dX11_readRead_111 rfl 0 rfl rfl ?_
    obtain ⟨b26, h⟩ := ck_e h
    obtain ⟨w27, ew27, h⟩ := lw_e h
    refine r_iast 113 w27 hk dX11_readRead_112 rfl rfl (mk_10_17 lq24) rfl b26 ew27 ?_
    refine r_aload_n 114 hk dX11_readRead_113 rfl 1 rfl rfl ?_
    refine r_get 117 hk dX11_readRead_114 rfl ff_RX11_139 (mk_11_0 (nx_11 hN (j := 0) (by decide))) (gv_11_4 _ _ _) ?_
    obtain ⟨q28, eq28, lq28, h⟩ := ckp_e h
    refine r_pv1 eq28 ?_
    refine r_dup 118 hk dX11_readRead_117 rfl rfl ?_
    refine r_get 121 hk dX11_readRead_118 rfl ff_RX11_245 (mk_10_0 lq28) (gv_10_7 _ _ _) ?_
    refine r_iconst 122 hk dX11_readRead_121 rfl ci_1 ?_
    refine r_iadd 123 hk dX11_readRead_122 rfl ?_
    obtain ⟨w29, ew29, h⟩ := lw_e h
    refine r_putI 126 w29 hk dX11_readRead_123 rfl ff_RX11_245 fi_10_7 (mk_10_0 lq28) ew29 ?_
    exact r_vret hk hR dX11_readRead_126 h
  · have h := if_t c19 h
    exact r_vret hk hR dX11_readRead_80 h
set_option maxRecDepth 100000 in
set_option maxHeartbeats 4000000 in
theorem kX11_readRead {l : Launch} {G : Gx} {al : Al} {w : Wd} {r : Unit} {wz : Wd} (hN : NX G) (h : fX11_readRead (gN G 10) w = some (r, wz)) : MC l G yX11_readRead cX11_readRead 3 none 3 67 al w [.ref (al 11 0 0)] none wz := by
  refine mc_of [(0, .ref (al 11 0 0))] (by decide) (Nat.le_of_ble_eq_true rfl) rfl ?_
  intro K hk hR hn hl hG
  subst hl; subst hG
  have hk : VH K RX11 cX11_readRead 3 67 := hk
  rw [fX11_readRead.eq_1] at h
  refine r_aload_n 1 hk dX11_readRead_0 rfl 0 rfl rfl ?_
  refine r_aload_n 2 hk dX11_readRead_1 rfl 0 rfl rfl ?_
  refine r_get 5 hk dX11_readRead_2 rfl ff_RX11_139 (mk_11_0 (nx_11 hN (j := 0) (by decide))) (gv_11_4 _ _ _) ?_
  obtain ⟨q1, eq1, lq1, h⟩ := ckp_e h
  refine r_pv1 eq1 ?_
  refine r_get 8 hk dX11_readRead_5 rfl ff_RX11_245 (mk_10_0 lq1) (gv_10_7 _ _ _) ?_
  refine r_bipush 10 hk dX11_readRead_8 rfl cb_6 ?_
  obtain ⟨r2, w3, ew3, h⟩ := ob_e h
  refine r_cVv 13 (As := [.int (((w 10 q1).1 7)), .int 6]) (rest := []) hk (kX11_lineBegins hN ew3) cf_RX11_203 mi_X11_lineBegins ⟨TX11, 36, rfl⟩ dX11_readRead_10 rfl (Nat.le_of_ble_eq_true rfl) (Nat.le_of_ble_eq_true rfl) (mk_11_0 (nx_11 hN (j := 0) (by decide))) rfl rfl (Nat.le_of_ble_eq_true rfl) ?_
  refine r_aload_n 14 hk dX11_readRead_13 rfl 0 rfl rfl ?_
  refine r_aload_n 15 hk dX11_readRead_14 rfl 0 rfl rfl ?_
  refine r_get 18 hk dX11_readRead_15 rfl ff_RX11_139 (mk_11_0 (nx_11 hN (j := 0) (by decide))) (gv_11_4 _ _ _) ?_
  obtain ⟨q4, eq4, lq4, h⟩ := ckp_e h
  refine r_pv1 eq4 ?_
  refine r_get 21 hk dX11_readRead_18 rfl ff_RX11_209 (mk_10_0 lq4) (gv_10_3 _ _ _) ?_
  obtain ⟨r5, w6, ew6, h⟩ := ob_e h
  refine r_cVi 24 (As := [.int (((w3 10 q4).1 3))]) (rest := []) hk (kX11_toldAt hN ew6) cf_RX11_215 mi_X11_toldAt ⟨TX11, 36, rfl⟩ dX11_readRead_21 rfl (Nat.le_of_ble_eq_true rfl) (Nat.le_of_ble_eq_true rfl) (mk_11_0 (nx_11 hN (j := 0) (by decide))) rfl rfl (Nat.le_of_ble_eq_true rfl) ?_
  refine r_istore_n 25 [(1, .int r5), (0, .ref (al 11 0 0))] hk dX11_readRead_24 rfl rfl hn (by decide) rfl rfl ?_
  refine r_aload_n 26 hk dX11_readRead_25 rfl 1 rfl rfl ?_
  refine r_get 29 hk dX11_readRead_26 rfl ff_RX11_77 (mk_11_0 (nx_11 hN (j := 0) (by decide))) (gv_11_9 _ _ _) ?_
  refine r_iconst 30 hk dX11_readRead_29 rfl ci_5 ?_
  refine r_icmp_eq 59 33 hk dX11_readRead_30 rfl rfl (fun c7 => ?_) (fun c7 => ?_)
  · have h := if_t c7 h
    refine r_sub [1, 0] rfl ?_
    exact sX11_readRead_59 hk hR hn hN _ _ h
  · have h := if_f c7 h
    refine r_aload_n 34 hk dX11_readRead_33 rfl 1 rfl rfl ?_
    refine r_get 37 hk dX11_readRead_34 rfl ff_RX11_139 (mk_11_0 (nx_11 hN (j := 0) (by decide))) (gv_11_4 _ _ _) ?_
    obtain ⟨q8, eq8, lq8, h⟩ := ckp_e h
    refine r_pv1 eq8 ?_
    refine r_get 40 hk dX11_readRead_37 rfl ff_RX11_248 (mk_10_0 lq8) (gv_10_15 _ _ _) ?_
    refine r_aload_n 41 hk dX11_readRead_40 rfl 1 rfl rfl ?_
    refine r_get 44 hk dX11_readRead_41 rfl ff_RX11_139 (mk_11_0 (nx_11 hN (j := 0) (by decide))) (gv_11_4 _ _ _) ?_
    obtain ⟨q9, eq9, lq9, h⟩ := ckp_e h
    refine r_pv1 eq9 ?_
    refine r_get 47 hk dX11_readRead_44 rfl ff_RX11_245 (mk_10_0 lq9) (gv_10_7 _ _ _) ?_
    refine r_iload_n 48 hk dX11_readRead_47 rfl 0 rfl rfl ?_
    obtain ⟨r10, w11, ew11, h⟩ := ob_e h
    refine r_cSi 51 (As := [.ref (al 10 q8 16), .int (((w6 10 q9).1 7)), .int r5]) (rest := []) hk (kX10_stands hN rfl (mk_10_16 lq8) ew11) cf_RX11_238 ms_X10_stands dX11_readRead_48 rfl (Nat.le_of_ble_eq_true rfl) (Nat.le_of_ble_eq_true rfl) rfl rfl (Nat.le_of_ble_eq_true rfl) ?_
    refine r_if_eq 59 54 hk dX11_readRead_51 rfl rfl (fun c12 => ?_) (fun c12 => ?_)
    · have h := if_t c12 h
      refine r_sub [1, 0] rfl ?_
      exact sX11_readRead_59 hk hR hn hN _ _ h
    · have h := if_f c12 h
      refine r_aload_n 55 hk dX11_readRead_54 rfl 1 rfl rfl ?_
      refine r_iconst 56 hk dX11_readRead_55 rfl ci_3 ?_
      obtain ⟨r13, w14, ew14, h⟩ := ob_e h
      refine r_cVv 59 (As := [.int 3]) (rest := []) hk (kX11_flaw hN ew14) cf_RX11_120 mi_X11_flaw ⟨TX11, 36, rfl⟩ dX11_readRead_56 rfl (Nat.le_of_ble_eq_true rfl) (Nat.le_of_ble_eq_true rfl) (mk_11_0 (nx_11 hN (j := 0) (by decide))) rfl rfl (Nat.le_of_ble_eq_true rfl) ?_
      refine r_sub [1, 0] rfl ?_
      exact sX11_readRead_59 hk hR hn hN _ _ h
def fX11_readLine (nd : Nat) (w : Wd) : Option (Unit × Wd) :=
  ob (fX11_isWord nd 0 w ) fun r1 w2 =>
  if (r1 : Int32) = 0 then
    ob (fX11_isWord nd 1 w2 ) fun r4 w5 =>
    if (r4 : Int32) = 0 then
      ob (fX11_isWord nd 2 w5 ) fun r7 w8 =>
      if (r7 : Int32) = 0 then
        ob (fX11_isWord nd 3 w8 ) fun r10 w11 =>
        if (r10 : Int32) = 0 then
          ob (fX11_isWord nd 4 w11 ) fun r13 w14 =>
          if (r13 : Int32) = 0 then
            ob (fX11_isWord nd 5 w14 ) fun r16 w17 =>
            if (r16 : Int32) = 0 then
              ob (fX11_flaw nd w17 (1)) fun _ w20 =>
              some ((), w20)
            else
              ob (fX11_readRead nd w17 ) fun _ w22 =>
              some ((), w22)
          else
            ob (fX11_readUnsure nd w14 ) fun _ w24 =>
            some ((), w24)
        else
          ob (fX11_readWrite nd w11 ) fun _ w26 =>
          some ((), w26)
      else
        ob (fX11_readHas nd w8 ) fun _ w28 =>
        some ((), w28)
    else
      ob (fX11_readBand nd w5 ) fun _ w30 =>
      some ((), w30)
  else
    ob (fX11_readDisk nd w2 ) fun _ w32 =>
    some ((), w32)
set_option maxRecDepth 100000 in
set_option maxHeartbeats 4000000 in
theorem kX11_readLine {l : Launch} {G : Gx} {al : Al} {w : Wd} {r : Unit} {wz : Wd} (hN : NX G) (h : fX11_readLine (gN G 10) w = some (r, wz)) : MC l G yX11_readLine cX11_readLine 1 none 9 211 al w [.ref (al 11 0 0)] none wz := by
  refine mc_of [(0, .ref (al 11 0 0))] (by decide) (Nat.le_of_ble_eq_true rfl) rfl ?_
  intro K hk hR hn hl hG
  subst hl; subst hG
  have hk : VH K RX11 cX11_readLine 9 211 := hk
  rw [fX11_readLine.eq_1] at h
  refine r_aload_n 1 hk dX11_readLine_0 rfl 0 rfl rfl ?_
  refine r_ldcS11 3 hk dX11_readLine_1 rfl (i := 0) (by decide) rfl ?_
  obtain ⟨r1, w2, ew2, h⟩ := ob_e h
  refine r_cVi 6 (As := [.ref ((kG K).2.2.1 0)]) (rest := []) hk (kX11_isWord hN (by decide) ew2) cf_RX11_116 mi_X11_isWord ⟨TX11, 36, rfl⟩ dX11_readLine_3 rfl (Nat.le_of_ble_eq_true rfl) (Nat.le_of_ble_eq_true rfl) (mk_11_0 (nx_11 hN (j := 0) (by decide))) rfl rfl (Nat.le_of_ble_eq_true rfl) ?_
  refine r_if_eq 16 9 hk dX11_readLine_6 rfl rfl (fun c3 => ?_) (fun c3 => ?_)
  · have h := if_t c3 h
    refine r_aload_n 17 hk dX11_readLine_16 rfl 0 rfl rfl ?_
    refine r_ldcS11 19 hk dX11_readLine_17 rfl (i := 1) (by decide) rfl ?_
    obtain ⟨r4, w5, ew5, h⟩ := ob_e h
    refine r_cVi 22 (As := [.ref ((kG K).2.2.1 1)]) (rest := []) hk (kX11_isWord hN (by decide) ew5) cf_RX11_116 mi_X11_isWord ⟨TX11, 36, rfl⟩ dX11_readLine_19 rfl (Nat.le_of_ble_eq_true rfl) (Nat.le_of_ble_eq_true rfl) (mk_11_0 (nx_11 hN (j := 0) (by decide))) rfl rfl (Nat.le_of_ble_eq_true rfl) ?_
    refine r_if_eq 32 25 hk dX11_readLine_22 rfl rfl (fun c6 => ?_) (fun c6 => ?_)
    · have h := if_t c6 h
      refine r_aload_n 33 hk dX11_readLine_32 rfl 0 rfl rfl ?_
      refine r_ldcS11 35 hk dX11_readLine_33 rfl (i := 2) (by decide) rfl ?_
      obtain ⟨r7, w8, ew8, h⟩ := ob_e h
      refine r_cVi 38 (As := [.ref ((kG K).2.2.1 2)]) (rest := []) hk (kX11_isWord hN (by decide) ew8) cf_RX11_116 mi_X11_isWord ⟨TX11, 36, rfl⟩ dX11_readLine_35 rfl (Nat.le_of_ble_eq_true rfl) (Nat.le_of_ble_eq_true rfl) (mk_11_0 (nx_11 hN (j := 0) (by decide))) rfl rfl (Nat.le_of_ble_eq_true rfl) ?_
      refine r_if_eq 48 41 hk dX11_readLine_38 rfl rfl (fun c9 => ?_) (fun c9 => ?_)
      · have h := if_t c9 h
        refine r_aload_n 49 hk dX11_readLine_48 rfl 0 rfl rfl ?_
        refine r_ldcS11 51 hk dX11_readLine_49 rfl (i := 3) (by decide) rfl ?_
        obtain ⟨r10, w11, ew11, h⟩ := ob_e h
        refine r_cVi 54 (As := [.ref ((kG K).2.2.1 3)]) (rest := []) hk (kX11_isWord hN (by decide) ew11) cf_RX11_116 mi_X11_isWord ⟨TX11, 36, rfl⟩ dX11_readLine_51 rfl (Nat.le_of_ble_eq_true rfl) (Nat.le_of_ble_eq_true rfl) (mk_11_0 (nx_11 hN (j := 0) (by decide))) rfl rfl (Nat.le_of_ble_eq_true rfl) ?_
        refine r_if_eq 64 57 hk dX11_readLine_54 rfl rfl (fun c12 => ?_) (fun c12 => ?_)
        · have h := if_t c12 h
          refine r_aload_n 65 hk dX11_readLine_64 rfl 0 rfl rfl ?_
          refine r_ldcS11 67 hk dX11_readLine_65 rfl (i := 4) (by decide) rfl ?_
          obtain ⟨r13, w14, ew14, h⟩ := ob_e h
          refine r_cVi 70 (As := [.ref ((kG K).2.2.1 4)]) (rest := []) hk (kX11_isWord hN (by decide) ew14) cf_RX11_116 mi_X11_isWord ⟨TX11, 36, rfl⟩ dX11_readLine_67 rfl (Nat.le_of_ble_eq_true rfl) (Nat.le_of_ble_eq_true rfl) (mk_11_0 (nx_11 hN (j := 0) (by decide))) rfl rfl (Nat.le_of_ble_eq_true rfl) ?_
          refine r_if_eq 80 73 hk dX11_readLine_70 rfl rfl (fun c15 => ?_) (fun c15 => ?_)
          · have h := if_t c15 h
            refine r_aload_n 81 hk dX11_readLine_80 rfl 0 rfl rfl ?_
            refine r_ldcS11 83 hk dX11_readLine_81 rfl (i := 5) (by decide) rfl ?_
            obtain ⟨r16, w17, ew17, h⟩ := ob_e h
            refine r_cVi 86 (As := [.ref ((kG K).2.2.1 5)]) (rest := []) hk (kX11_isWord hN (by decide) ew17) cf_RX11_116 mi_X11_isWord ⟨TX11, 36, rfl⟩ dX11_readLine_83 rfl (Nat.le_of_ble_eq_true rfl) (Nat.le_of_ble_eq_true rfl) (mk_11_0 (nx_11 hN (j := 0) (by decide))) rfl rfl (Nat.le_of_ble_eq_true rfl) ?_
            refine r_if_eq 96 89 hk dX11_readLine_86 rfl rfl (fun c18 => ?_) (fun c18 => ?_)
            · have h := if_t c18 h
              refine r_aload_n 97 hk dX11_readLine_96 rfl 0 rfl rfl ?_
              refine r_iconst 98 hk dX11_readLine_97 rfl ci_1 ?_
              obtain ⟨r19, w20, ew20, h⟩ := ob_e h
              refine r_cVv 101 (As := [.int 1]) (rest := []) hk (kX11_flaw hN ew20) cf_RX11_120 mi_X11_flaw ⟨TX11, 36, rfl⟩ dX11_readLine_98 rfl (Nat.le_of_ble_eq_true rfl) (Nat.le_of_ble_eq_true rfl) (mk_11_0 (nx_11 hN (j := 0) (by decide))) rfl rfl (Nat.le_of_ble_eq_true rfl) ?_
              exact r_vret hk hR dX11_readLine_101 h
            · have h := if_f c18 h
              refine r_aload_n 90 hk dX11_readLine_89 rfl 0 rfl rfl ?_
              obtain ⟨r21, w22, ew22, h⟩ := ob_e h
              refine r_cVv 93 (As := []) (rest := []) hk (kX11_readRead hN ew22) cf_RX11_184 mi_X11_readRead ⟨TX11, 36, rfl⟩ dX11_readLine_90 rfl (Nat.le_of_ble_eq_true rfl) (Nat.le_of_ble_eq_true rfl) (mk_11_0 (nx_11 hN (j := 0) (by decide))) rfl rfl (Nat.le_of_ble_eq_true rfl) ?_
              refine r_goto 101 hk (x := 0) dX11_readLine_93 rfl ?_
              exact r_vret hk hR dX11_readLine_101 h
          · have h := if_f c15 h
            refine r_aload_n 74 hk dX11_readLine_73 rfl 0 rfl rfl ?_
            obtain ⟨r23, w24, ew24, h⟩ := ob_e h
            refine r_cVv 77 (As := []) (rest := []) hk (kX11_readUnsure hN ew24) cf_RX11_180 mi_X11_readUnsure ⟨TX11, 36, rfl⟩ dX11_readLine_74 rfl (Nat.le_of_ble_eq_true rfl) (Nat.le_of_ble_eq_true rfl) (mk_11_0 (nx_11 hN (j := 0) (by decide))) rfl rfl (Nat.le_of_ble_eq_true rfl) ?_
            refine r_goto 101 hk (x := 0) dX11_readLine_77 rfl ?_
            exact r_vret hk hR dX11_readLine_101 h
        · have h := if_f c12 h
          refine r_aload_n 58 hk dX11_readLine_57 rfl 0 rfl rfl ?_
          obtain ⟨r25, w26, ew26, h⟩ := ob_e h
          refine r_cVv 61 (As := []) (rest := []) hk (kX11_readWrite hN ew26) cf_RX11_175 mi_X11_readWrite ⟨TX11, 36, rfl⟩ dX11_readLine_58 rfl (Nat.le_of_ble_eq_true rfl) (Nat.le_of_ble_eq_true rfl) (mk_11_0 (nx_11 hN (j := 0) (by decide))) rfl rfl (Nat.le_of_ble_eq_true rfl) ?_
          refine r_goto 101 hk (x := 0) dX11_readLine_61 rfl ?_
          exact r_vret hk hR dX11_readLine_101 h
      · have h := if_f c9 h
        refine r_aload_n 42 hk dX11_readLine_41 rfl 0 rfl rfl ?_
        obtain ⟨r27, w28, ew28, h⟩ := ob_e h
        refine r_cVv 45 (As := []) (rest := []) hk (kX11_readHas hN ew28) cf_RX11_170 mi_X11_readHas ⟨TX11, 36, rfl⟩ dX11_readLine_42 rfl (Nat.le_of_ble_eq_true rfl) (Nat.le_of_ble_eq_true rfl) (mk_11_0 (nx_11 hN (j := 0) (by decide))) rfl rfl (Nat.le_of_ble_eq_true rfl) ?_
        refine r_goto 101 hk (x := 0) dX11_readLine_45 rfl ?_
        exact r_vret hk hR dX11_readLine_101 h
    · have h := if_f c6 h
      refine r_aload_n 26 hk dX11_readLine_25 rfl 0 rfl rfl ?_
      obtain ⟨r29, w30, ew30, h⟩ := ob_e h
      refine r_cVv 29 (As := []) (rest := []) hk (kX11_readBand hN ew30) cf_RX11_165 mi_X11_readBand ⟨TX11, 36, rfl⟩ dX11_readLine_26 rfl (Nat.le_of_ble_eq_true rfl) (Nat.le_of_ble_eq_true rfl) (mk_11_0 (nx_11 hN (j := 0) (by decide))) rfl rfl (Nat.le_of_ble_eq_true rfl) ?_
      refine r_goto 101 hk (x := 0) dX11_readLine_29 rfl ?_
      exact r_vret hk hR dX11_readLine_101 h
  · have h := if_f c3 h
    refine r_aload_n 10 hk dX11_readLine_9 rfl 0 rfl rfl ?_
    obtain ⟨r31, w32, ew32, h⟩ := ob_e h
    refine r_cVv 13 (As := []) (rest := []) hk (kX11_readDisk hN ew32) cf_RX11_160 mi_X11_readDisk ⟨TX11, 36, rfl⟩ dX11_readLine_10 rfl (Nat.le_of_ble_eq_true rfl) (Nat.le_of_ble_eq_true rfl) (mk_11_0 (nx_11 hN (j := 0) (by decide))) rfl rfl (Nat.le_of_ble_eq_true rfl) ?_
    refine r_goto 101 hk (x := 0) dX11_readLine_13 rfl ?_
    exact r_vret hk hR dX11_readLine_101 h
def fX11_readAll_31 (nd : Nat) (w : Wd) : Option (Unit × Wd) :=
    ckp ((w 11 0).2.2.1 4) nd fun q9 =>
    if (((w 10 q9).1 2) : Int32) = 0 then
      ob (fX11_flaw nd w (6)) fun _ w12 =>
      some ((), w12)
    else
      some ((), w)
def fX11_readAll_2 (nd : Nat) : Nat → Wd → Int32 → Option (Unit × Wd)
  | 0, _, _ => none
  | n + 1, w, x1 =>
    if (x1 : Int32) = 0 then
      if (((w 11 0).1 9) : Int32) = 1 then
        fX11_readAll_31 nd w 
      else
        ob (fX11_flaw nd w (1)) fun _ w4 =>
        fX11_readAll_31 nd w4 
    else
      ob (fX11_readLine nd w ) fun _ w6 =>
      ob (fX11_eatsSemicolon nd w6 ) fun r7 w8 =>
      fX11_readAll_2 nd n w8 (r7)
def fX11_readAll (nd : Nat) (w : Wd) : Option (Unit × Wd) :=
  fX11_readAll_2 nd fuel0 w (1)
set_option maxRecDepth 100000 in
set_option maxHeartbeats 4000000 in
theorem sX11_readAll_31 {K : VC} {al : Al} {r : Unit} {wz : Wd}  (hk : VH K RX11 cX11_readAll 10 231) (hR : VR K al none none wz) (hn : kn K = 2) (hN : NX (kG K)) (w : Wd) (h : fX11_readAll_31 (gN (kG K) 10) w = some (r, wz)) : V K al w 31 [(0, .ref (al 11 0 0))] [] := by
  rw [fX11_readAll_31.eq_1] at h
  refine r_aload_n 32 hk dX11_readAll_31 rfl 0 rfl rfl ?_
  refine r_get 35 hk dX11_readAll_32 rfl ff_RX11_139 (mk_11_0 (nx_11 hN (j := 0) (by decide))) (gv_11_4 _ _ _) ?_
  obtain ⟨q9, eq9, lq9, h⟩ := ckp_e h
  refine r_pv1 eq9 ?_
  refine r_get 38 hk dX11_readAll_35 rfl ff_RX11_155 (mk_10_0 lq9) (gv_10_2 _ _ _) ?_
  refine r_if_ne 47 41 hk dX11_readAll_38 rfl rfl (fun c10 => ?_) (fun c10 => ?_)
  · have h := if_f c10 h
    exact r_vret hk hR dX11_readAll_47 h
  · have h := if_t c10 h
    refine r_aload_n 42 hk dX11_readAll_41 rfl 0 rfl rfl ?_
    refine r_bipush 44 hk dX11_readAll_42 rfl cb_6 ?_
    obtain ⟨r11, w12, ew12, h⟩ := ob_e h
    refine r_cVv 47 (As := [.int 6]) (rest := []) hk (kX11_flaw hN ew12) cf_RX11_120 mi_X11_flaw ⟨TX11, 36, rfl⟩ dX11_readAll_44 rfl (Nat.le_of_ble_eq_true rfl) (Nat.le_of_ble_eq_true rfl) (mk_11_0 (nx_11 hN (j := 0) (by decide))) rfl rfl (Nat.le_of_ble_eq_true rfl) ?_
    exact r_vret hk hR dX11_readAll_47 h
set_option maxRecDepth 100000 in
set_option maxHeartbeats 4000000 in
theorem sX11_readAll_2 {K : VC} {al : Al} {r : Unit} {wz : Wd}  (hk : VH K RX11 cX11_readAll 10 231) (hR : VR K al none none wz) (hn : kn K = 2) (hN : NX (kG K)) : ∀ (n : Nat) (w : Wd) (x1 : Int32), fX11_readAll_2 (gN (kG K) 10) n w x1 = some (r, wz) → V K al w 2 [(0, .ref (al 11 0 0)), (1, .int x1)] [] := by
  intro n
  induction n with
  | zero => intro w x1 h; cases h
  | succ n ih =>
    intro w x1 h
    rw [fX11_readAll_2.eq_2] at h
    refine r_iload_n 3 hk dX11_readAll_2 rfl 1 rfl rfl ?_
    refine r_if_eq 18 6 hk dX11_readAll_3 rfl rfl (fun c1 => ?_) (fun c1 => ?_)
    · have h := if_t c1 h
      refine r_aload_n 19 hk dX11_readAll_18 rfl 0 rfl rfl ?_
      refine r_get 22 hk dX11_readAll_19 rfl ff_RX11_77 (mk_11_0 (nx_11 hN (j := 0) (by decide))) (gv_11_9 _ _ _) ?_
      refine r_iconst 23 hk dX11_readAll_22 rfl ci_1 ?_
      refine r_icmp_eq 31 26 hk dX11_readAll_23 rfl rfl (fun c2 => ?_) (fun c2 => ?_)
      · have h := if_t c2 h
        refine r_sub [0] rfl ?_
        exact sX11_readAll_31 hk hR hn hN _ h
      · have h := if_f c2 h
        refine r_aload_n 27 hk dX11_readAll_26 rfl 0 rfl rfl ?_
        refine r_iconst 28 hk dX11_readAll_27 rfl ci_1 ?_
        obtain ⟨r3, w4, ew4, h⟩ := ob_e h
        refine r_cVv 31 (As := [.int 1]) (rest := []) hk (kX11_flaw hN ew4) cf_RX11_120 mi_X11_flaw ⟨TX11, 36, rfl⟩ dX11_readAll_28 rfl (Nat.le_of_ble_eq_true rfl) (Nat.le_of_ble_eq_true rfl) (mk_11_0 (nx_11 hN (j := 0) (by decide))) rfl rfl (Nat.le_of_ble_eq_true rfl) ?_
        refine r_sub [0] rfl ?_
        exact sX11_readAll_31 hk hR hn hN _ h
    · have h := if_f c1 h
      refine r_aload_n 7 hk dX11_readAll_6 rfl 0 rfl rfl ?_
      obtain ⟨r5, w6, ew6, h⟩ := ob_e h
      refine r_cVv 10 (As := []) (rest := []) hk (kX11_readLine hN ew6) cf_RX11_148 mi_X11_readLine ⟨TX11, 36, rfl⟩ dX11_readAll_7 rfl (Nat.le_of_ble_eq_true rfl) (Nat.le_of_ble_eq_true rfl) (mk_11_0 (nx_11 hN (j := 0) (by decide))) rfl rfl (Nat.le_of_ble_eq_true rfl) ?_
      refine r_aload_n 11 hk dX11_readAll_10 rfl 0 rfl rfl ?_
      obtain ⟨r7, w8, ew8, h⟩ := ob_e h
      refine r_cVi 14 (As := []) (rest := []) hk (kX11_eatsSemicolon hN ew8) cf_RX11_151 mi_X11_eatsSemicolon ⟨TX11, 36, rfl⟩ dX11_readAll_11 rfl (Nat.le_of_ble_eq_true rfl) (Nat.le_of_ble_eq_true rfl) (mk_11_0 (nx_11 hN (j := 0) (by decide))) rfl rfl (Nat.le_of_ble_eq_true rfl) ?_
      refine r_istore_n 15 [(1, .int r7), (0, .ref (al 11 0 0))] hk dX11_readAll_14 rfl rfl hn (by decide) rfl rfl ?_
      refine r_goto 2 hk (x := 0) dX11_readAll_15 rfl ?_
      refine r_sub [1, 0] rfl ?_
      exact ih _ _ h
set_option maxRecDepth 100000 in
set_option maxHeartbeats 4000000 in
theorem kX11_readAll {l : Launch} {G : Gx} {al : Al} {w : Wd} {r : Unit} {wz : Wd} (hN : NX G) (h : fX11_readAll (gN G 10) w = some (r, wz)) : MC l G yX11_readAll cX11_readAll 2 none 10 231 al w [.ref (al 11 0 0)] none wz := by
  refine mc_of [(0, .ref (al 11 0 0))] (by decide) (Nat.le_of_ble_eq_true rfl) rfl ?_
  intro K hk hR hn hl hG
  subst hl; subst hG
  have hk : VH K RX11 cX11_readAll 10 231 := hk
  rw [fX11_readAll.eq_1] at h
  refine r_iconst 1 hk dX11_readAll_0 rfl ci_1 ?_
  refine r_istore_n 2 [(1, .int 1), (0, .ref (al 11 0 0))] hk dX11_readAll_1 rfl rfl hn (by decide) rfl rfl ?_
  refine r_sub [1, 0] rfl ?_
  exact sX11_readAll_2 hk hR hn hN _ _ _ h
def fX11_feed_76 (k23 : Wd → Int32 → Int32 → Int32 → Int32 → Int32 → Int32 → Option (Int32 × Wd)) (nd : Nat) (w : Wd) (x1 : Int32) (x2 : Int32) (x3 : Int32) (x4 : Int32) (x5 : Int32) (x6 : Int32) (t0 : Int32) : Option (Int32 × Wd) :=
    if (4 : Int32) = 0 then none else
    ck (inb (((w 11 0).1 6)) 700) <|
    lw (sA w 11 0 5 (((w 11 0).1 6) : Int32).toNatClampNeg (((((t0 >>> ((24 - (8 * (x6 - x6 / 4 * 4))) &&& 31)) : Int32).toInt8.toInt32) : Int32).toInt8.toInt32)) fun w10 =>
    lw (sI w10 11 0 6 ((((w10 11 0).1 6) + 1))) fun w11 =>
    lw (x6 + 1) fun x6_12 =>
    k23 w11 (x1) (x2) (x3) (x4) (x5) (x6_12)
def fX11_feed_23 (nd : Nat) : Nat → Wd → Int32 → Int32 → Int32 → Int32 → Int32 → Int32 → Option (Int32 × Wd)
  | 0, _, _, _, _, _, _, _ => none
  | n + 1, w, x1, x2, x3, x4, x5, x6 =>
    if (20 : Int32) ≤ x6 then
      some (((w 11 0).1 6), w)
    else
      if (4 : Int32) ≤ x6 then
        if (8 : Int32) ≤ x6 then
          if (12 : Int32) ≤ x6 then
            if (16 : Int32) ≤ x6 then
              fX11_feed_76 (fX11_feed_23 nd n) nd w (x1) (x2) (x3) (x4) (x5) (x6) (x5)
            else
              fX11_feed_76 (fX11_feed_23 nd n) nd w (x1) (x2) (x3) (x4) (x5) (x6) (x4)
          else
            fX11_feed_76 (fX11_feed_23 nd n) nd w (x1) (x2) (x3) (x4) (x5) (x6) (x3)
        else
          fX11_feed_76 (fX11_feed_23 nd n) nd w (x1) (x2) (x3) (x4) (x5) (x6) (x2)
      else
        fX11_feed_76 (fX11_feed_23 nd n) nd w (x1) (x2) (x3) (x4) (x5) (x6) (x1)
def fX11_feed (nd : Nat) (w : Wd) (x1 : Int32) (x2 : Int32) (x3 : Int32) (x4 : Int32) (x5 : Int32) : Option (Int32 × Wd) :=
  lw (sI w 11 0 0 (0)) fun w1 =>
  if ((((w1 11 0).1 6) + 20) : Int32) ≤ 700 then
    fX11_feed_23 nd fuel0 w1 (x1) (x2) (x3) (x4) (x5) (0)
  else
    some ((-1), w1)
set_option maxRecDepth 100000 in
set_option maxHeartbeats 4000000 in
theorem sX11_feed_76 {K : VC} {al : Al} {r : Int32} {wz : Wd} {k23 : Wd → Int32 → Int32 → Int32 → Int32 → Int32 → Int32 → Option (Int32 × Wd)} (hc23 : ∀ (w : Wd) (x1 : Int32) (x2 : Int32) (x3 : Int32) (x4 : Int32) (x5 : Int32) (x6 : Int32), k23 w x1 x2 x3 x4 x5 x6 = some (r, wz) → V K al w 23 [(0, .ref (al 11 0 0)), (1, .int x1), (2, .int x2), (3, .int x3), (4, .int x4), (5, .int x5), (6, .int x6)] []) (hk : VH K RX11 cX11_feed 0 0) (hR : VR K al (some (.int)) (some (.int r)) wz) (hn : kn K = 8) (hN : NX (kG K)) (w : Wd) (x1 : Int32) (x2 : Int32) (x3 : Int32) (x4 : Int32) (x5 : Int32) (x6 : Int32) (t0 : Int32) (h : fX11_feed_76 k23 (gN (kG K) 10) w x1 x2 x3 x4 x5 x6 t0 = some (r, wz)) : V K al w 76 [(0, .ref (al 11 0 0)), (1, .int x1), (2, .int x2), (3, .int x3), (4, .int x4), (5, .int x5), (6, .int x6)] [.int t0] := by
  rw [fX11_feed_76.eq_1] at h
  refine r_istore 78 [(7, .int t0), (0, .ref (al 11 0 0)), (1, .int x1), (2, .int x2), (3, .int x3), (4, .int x4), (5, .int x5), (6, .int x6)] hk dX11_feed_76 rfl hn (by decide) rfl rfl ?_
  refine r_aload_n 79 hk dX11_feed_78 rfl 1 rfl rfl ?_
  refine r_get 82 hk dX11_feed_79 rfl ff_RX11_13 (mk_11_0 (nx_11 hN (j := 0) (by decide))) (gv_11_5 _ _ _) ?_
  refine r_aload_n 83 hk dX11_feed_82 rfl 1 rfl rfl ?_
  refine r_get 86 hk dX11_feed_83 rfl ff_RX11_253 (mk_11_0 (nx_11 hN (j := 0) (by decide))) (gv_11_6 _ _ _) ?_
  refine r_iload 88 hk dX11_feed_86 rfl 0 rfl ?_
  refine r_bipush 90 hk dX11_feed_88 rfl cb_24 ?_
  refine r_bipush 92 hk dX11_feed_90 rfl cb_8 ?_
  refine r_iload 94 hk dX11_feed_92 rfl 7 rfl ?_
  refine r_iconst 95 hk dX11_feed_94 rfl ci_4 ?_
  by_cases z8 : (4 : Int32) = 0
  · have h := if_t z8 h; cases h
  have h := if_f z8 h
  refine r_irem 96 hk dX11_feed_95 rfl z8 ?_
  refine r_imul 97 hk dX11_feed_96 rfl ?_
  refine r_isub 98 hk dX11_feed_97 rfl ?_
  refine r_ishr 99 hk dX11_feed_98 rfl ?_
  refine r_i2b 100 hk dX11_feed_99 rfl ?_
  obtain ⟨b9, h⟩ := ck_e h
  obtain ⟨w10, ew10, h⟩ := lw_e h
  refine r_bast 101 w10 hk dX11_feed_100 rfl rfl (mk_11_6 (nx_11 hN (j := 0) (by decide))) rfl b9 ew10 ?_
  refine r_aload_n 102 hk dX11_feed_101 rfl 1 rfl rfl ?_
  refine r_dup 103 hk dX11_feed_102 rfl rfl ?_
  refine r_get 106 hk dX11_feed_103 rfl ff_RX11_253 (mk_11_0 (nx_11 hN (j := 0) (by decide))) (gv_11_6 _ _ _) ?_
  refine r_iconst 107 hk dX11_feed_106 rfl ci_1 ?_
  refine r_iadd 108 hk dX11_feed_107 rfl ?_
  obtain ⟨w11, ew11, h⟩ := lw_e h
  refine r_putI 111 w11 hk dX11_feed_108 rfl ff_RX11_253 fi_11_6 (mk_11_0 (nx_11 hN (j := 0) (by decide))) ew11 ?_
  obtain ⟨x6_12, ex6_12, h⟩ := lw_e h
  refine r_iinc 114 [(6, .int x6_12), (7, .int t0), (0, .ref (al 11 0 0)), (1, .int x1), (2, .int x2), (3, .int x3), (4, .int x4), (5, .int x5)] hk (j := 7) dX11_feed_111 rfl hn (by decide) rfl ex6_12 rfl ?_
  refine r_goto 23 hk (x := 0) dX11_feed_114 rfl ?_
  refine r_sub [2, 3, 4, 5, 6, 7, 0] rfl ?_
  exact hc23 _ _ _ _ _ _ _ h
set_option maxRecDepth 100000 in
set_option maxHeartbeats 4000000 in
theorem sX11_feed_23 {K : VC} {al : Al} {r : Int32} {wz : Wd}  (hk : VH K RX11 cX11_feed 0 0) (hR : VR K al (some (.int)) (some (.int r)) wz) (hn : kn K = 8) (hN : NX (kG K)) : ∀ (n : Nat) (w : Wd) (x1 : Int32) (x2 : Int32) (x3 : Int32) (x4 : Int32) (x5 : Int32) (x6 : Int32), fX11_feed_23 (gN (kG K) 10) n w x1 x2 x3 x4 x5 x6 = some (r, wz) → V K al w 23 [(0, .ref (al 11 0 0)), (1, .int x1), (2, .int x2), (3, .int x3), (4, .int x4), (5, .int x5), (6, .int x6)] [] := by
  intro n
  induction n with
  | zero => intro w x1 x2 x3 x4 x5 x6 h; cases h
  | succ n ih =>
    intro w x1 x2 x3 x4 x5 x6 h
    rw [fX11_feed_23.eq_2] at h
    refine r_iload 25 hk dX11_feed_23 rfl 6 rfl ?_
    refine r_bipush 27 hk dX11_feed_25 rfl cb_20 ?_
    refine r_icmp_ge 117 30 hk dX11_feed_27 rfl rfl (fun c3 => ?_) (fun c3 => ?_)
    · have h := if_t c3 h
      refine r_aload_n 118 hk dX11_feed_117 rfl 0 rfl rfl ?_
      refine r_get 121 hk dX11_feed_118 rfl ff_RX11_253 (mk_11_0 (nx_11 hN (j := 0) (by decide))) (gv_11_6 _ _ _) ?_
      exact r_iret hk hR dX11_feed_121 h
    · have h := if_f c3 h
      refine r_iload 32 hk dX11_feed_30 rfl 6 rfl ?_
      refine r_iconst 33 hk dX11_feed_32 rfl ci_4 ?_
      refine r_icmp_ge 40 36 hk dX11_feed_33 rfl rfl (fun c4 => ?_) (fun c4 => ?_)
      · have h := if_t c4 h
        refine r_iload 42 hk dX11_feed_40 rfl 6 rfl ?_
        refine r_bipush 44 hk dX11_feed_42 rfl cb_8 ?_
        refine r_icmp_ge 51 47 hk dX11_feed_44 rfl rfl (fun c5 => ?_) (fun c5 => ?_)
        · have h := if_t c5 h
          refine r_iload 53 hk dX11_feed_51 rfl 6 rfl ?_
          refine r_bipush 55 hk dX11_feed_53 rfl cb_12 ?_
          refine r_icmp_ge 62 58 hk dX11_feed_55 rfl rfl (fun c6 => ?_) (fun c6 => ?_)
          · have h := if_t c6 h
            refine r_iload 64 hk dX11_feed_62 rfl 6 rfl ?_
            refine r_bipush 66 hk dX11_feed_64 rfl cb_16 ?_
            refine r_icmp_ge 74 69 hk dX11_feed_66 rfl rfl (fun c7 => ?_) (fun c7 => ?_)
            · have h := if_t c7 h
              refine r_iload 76 hk dX11_feed_74 rfl 5 rfl ?_
              exact sX11_feed_76 (fun _ _ _ _ _ _ _ h => ih _ _ _ _ _ _ _ h) hk hR hn hN _ _ _ _ _ _ _ _ h
            · have h := if_f c7 h
              refine r_iload 71 hk dX11_feed_69 rfl 4 rfl ?_
              refine r_goto 76 hk (x := 0) dX11_feed_71 rfl ?_
              exact sX11_feed_76 (fun _ _ _ _ _ _ _ h => ih _ _ _ _ _ _ _ h) hk hR hn hN _ _ _ _ _ _ _ _ h
          · have h := if_f c6 h
            refine r_iload_n 59 hk dX11_feed_58 rfl 3 rfl rfl ?_
            refine r_goto 76 hk (x := 0) dX11_feed_59 rfl ?_
            exact sX11_feed_76 (fun _ _ _ _ _ _ _ h => ih _ _ _ _ _ _ _ h) hk hR hn hN _ _ _ _ _ _ _ _ h
        · have h := if_f c5 h
          refine r_iload_n 48 hk dX11_feed_47 rfl 2 rfl rfl ?_
          refine r_goto 76 hk (x := 0) dX11_feed_48 rfl ?_
          exact sX11_feed_76 (fun _ _ _ _ _ _ _ h => ih _ _ _ _ _ _ _ h) hk hR hn hN _ _ _ _ _ _ _ _ h
      · have h := if_f c4 h
        refine r_iload_n 37 hk dX11_feed_36 rfl 1 rfl rfl ?_
        refine r_goto 76 hk (x := 0) dX11_feed_37 rfl ?_
        exact sX11_feed_76 (fun _ _ _ _ _ _ _ h => ih _ _ _ _ _ _ _ h) hk hR hn hN _ _ _ _ _ _ _ _ h
set_option maxRecDepth 100000 in
set_option maxHeartbeats 4000000 in
theorem kX11_feed {l : Launch} {G : Gx} {al : Al} {w : Wd} {x1 : Int32} {x2 : Int32} {x3 : Int32} {x4 : Int32} {x5 : Int32} {r : Int32} {wz : Wd} (hN : NX G) (h : fX11_feed (gN G 10) w x1 x2 x3 x4 x5 = some (r, wz)) : MC l G yX11_feed cX11_feed 8 (some (.int)) 0 0 al w [.ref (al 11 0 0), .int x1, .int x2, .int x3, .int x4, .int x5] (some (.int r)) wz := by
  refine mc_of [(0, .ref (al 11 0 0)), (1, .int x1), (2, .int x2), (3, .int x3), (4, .int x4), (5, .int x5)] (by decide) (Nat.le_of_ble_eq_true rfl) rfl ?_
  intro K hk hR hn hl hG
  subst hl; subst hG
  have hk : VH K RX11 cX11_feed 0 0 := hk
  rw [fX11_feed.eq_1] at h
  refine r_aload_n 1 hk dX11_feed_0 rfl 0 rfl rfl ?_
  refine r_iconst 2 hk dX11_feed_1 rfl ci_0 ?_
  obtain ⟨w1, ew1, h⟩ := lw_e h
  refine r_putI 5 w1 hk dX11_feed_2 rfl ff_RX11_45 fi_11_0 (mk_11_0 (nx_11 hN (j := 0) (by decide))) ew1 ?_
  refine r_aload_n 6 hk dX11_feed_5 rfl 0 rfl rfl ?_
  refine r_get 9 hk dX11_feed_6 rfl ff_RX11_253 (mk_11_0 (nx_11 hN (j := 0) (by decide))) (gv_11_6 _ _ _) ?_
  refine r_bipush 11 hk dX11_feed_9 rfl cb_20 ?_
  refine r_iadd 12 hk dX11_feed_11 rfl ?_
  refine r_sipush 15 hk dX11_feed_12 rfl cs_700 ?_
  refine r_icmp_le 20 18 hk dX11_feed_15 rfl rfl (fun c2 => ?_) (fun c2 => ?_)
  · have h := if_t c2 h
    refine r_iconst 21 hk dX11_feed_20 rfl ci_0 ?_
    refine r_istore 23 [(6, .int 0), (0, .ref (al 11 0 0)), (1, .int x1), (2, .int x2), (3, .int x3), (4, .int x4), (5, .int x5)] hk dX11_feed_21 rfl hn (by decide) rfl rfl ?_
    refine r_sub [1, 2, 3, 4, 5, 6, 0] rfl ?_
    exact sX11_feed_23 hk hR hn hN _ _ _ _ _ _ _ _ h
  · have h := if_f c2 h
    refine r_iconst 19 hk dX11_feed_18 rfl ci_m1 ?_
    exact r_iret hk hR dX11_feed_19 h
