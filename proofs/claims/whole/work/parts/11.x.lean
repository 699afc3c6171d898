def fX4_behindRun_3  : Nat → Wd → Int32 → Int32 → Int32 → Option (Int32 × Wd)
  | 0, _, _, _, _ => none
  | n + 1, w, x2, x3, x4 =>
    if (((w 4 0).1 1) : Int32) ≤ x4 then
      some (x4, w)
    else
      ob (fX4_byteAt w (x4)) fun r2 w3 =>
      if (r2 : Int32) < x2 then
        some (x4, w3)
      else
        ob (fX4_byteAt w3 (x4)) fun r5 w6 =>
        if (x3 : Int32) < r5 then
          some (x4, w6)
        else
          lw (x4 + 1) fun x4_8 =>
          fX4_behindRun_3  n w6 (x2) (x3) (x4_8)
def fX4_behindRun (w : Wd) (x1 : Int32) (x2 : Int32) (x3 : Int32) : Option (Int32 × Wd) :=
  fX4_behindRun_3  fuel0 w (x2) (x3) (x1)
set_option maxRecDepth 100000 in
set_option maxHeartbeats 4000000 in
theorem sX4_behindRun_3 {K : VC} {al : Al} {r : Int32} {wz : Wd}  (hk : VH K RX4 cX4_behindRun 1 21) (hR : VR K al (some (.int)) (some (.int r)) wz) (hn : kn K = 5) (hN : NX (kG K)) : ∀ (n : Nat) (w : Wd) (x2 : Int32) (x3 : Int32) (x4 : Int32), fX4_behindRun_3  n w x2 x3 x4 = some (r, wz) → V K al w 3 [(0, .ref (al 4 0 0)), (2, .int x2), (3, .int x3), (4, .int x4)] [] := by
  intro n
  induction n with
  | zero => intro w x2 x3 x4 h; cases h
  | succ n ih =>
    intro w x2 x3 x4 h
    rw [fX4_behindRun_3.eq_2] at h
    refine r_iload 5 hk dX4_behindRun_3 rfl 3 rfl ?_
    refine r_aload_n 6 hk dX4_behindRun_5 rfl 0 rfl rfl ?_
    refine r_get 9 hk dX4_behindRun_6 rfl ff_RX4_25 (mk_4_0 (nx_4 hN (j := 0) (by decide))) (gv_4_1 _ _ _) ?_
    refine r_icmp_ge 38 12 hk dX4_behindRun_9 rfl rfl (fun c1 => ?_) (fun c1 => ?_)
    · have h := if_t c1 h
      refine r_iload 40 hk dX4_behindRun_38 rfl 3 rfl ?_
      exact r_iret hk hR dX4_behindRun_40 h
    · have h := if_f c1 h
      refine r_aload_n 13 hk dX4_behindRun_12 rfl 0 rfl rfl ?_
      refine r_iload 15 hk dX4_behindRun_13 rfl 3 rfl ?_
      obtain ⟨r2, w3, ew3, h⟩ := ob_e h
      refine r_cVi 18 (As := [.int x4]) (rest := []) hk (kX4_byteAt hN ew3) cf_RX4_165 mi_X4_byteAt ⟨TX4, 10, rfl⟩ dX4_behindRun_15 rfl (Nat.le_of_ble_eq_true rfl) (Nat.le_of_ble_eq_true rfl) (mk_4_0 (nx_4 hN (j := 0) (by decide))) rfl rfl (Nat.le_of_ble_eq_true rfl) ?_
      refine r_iload_n 19 hk dX4_behindRun_18 rfl 1 rfl rfl ?_
      refine r_icmp_lt 38 22 hk dX4_behindRun_19 rfl rfl (fun c4 => ?_) (fun c4 => ?_)
      · have h := if_t c4 h
        refine r_iload 40 hk dX4_behindRun_38 rfl 3 rfl ?_
        exact r_iret hk hR dX4_behindRun_40 h
      · have h := if_f c4 h
        refine r_aload_n 23 hk dX4_behindRun_22 rfl 0 rfl rfl ?_
        refine r_iload 25 hk dX4_behindRun_23 rfl 3 rfl ?_
        obtain ⟨r5, w6, ew6, h⟩ := ob_e h
        refine r_cVi 28 (As := [.int x4]) (rest := []) hk (kX4_byteAt hN ew6) cf_RX4_165 mi_X4_byteAt ⟨TX4, 10, rfl⟩ dX4_behindRun_25 rfl (Nat.le_of_ble_eq_true rfl) (Nat.le_of_ble_eq_true rfl) (mk_4_0 (nx_4 hN (j := 0) (by decide))) rfl rfl (Nat.le_of_ble_eq_true rfl) ?_
        refine r_iload_n 29 hk dX4_behindRun_28 rfl 2 rfl rfl ?_
        refine r_icmp_gt 38 32 hk dX4_behindRun_29 rfl rfl (fun c7 => ?_) (fun c7 => ?_)
        · have h := if_t c7 h
          refine r_iload 40 hk dX4_behindRun_38 rfl 3 rfl ?_
          exact r_iret hk hR dX4_behindRun_40 h
        · have h := if_f c7 h
          obtain ⟨x4_8, ex4_8, h⟩ := lw_e h
          refine r_iinc 35 [(4, .int x4_8), (0, .ref (al 4 0 0)), (2, .int x2), (3, .int x3)] hk (j := 3) dX4_behindRun_32 rfl hn (by decide) rfl ex4_8 rfl ?_
          refine r_goto 3 hk (x := 0) dX4_behindRun_35 rfl ?_
          refine r_sub [1, 2, 3, 0] rfl ?_
          exact ih _ _ _ _ h
set_option maxRecDepth 100000 in
set_option maxHeartbeats 4000000 in
theorem kX4_behindRun {l : Launch} {G : Gx} {al : Al} {w : Wd} {x1 : Int32} {x2 : Int32} {x3 : Int32} {r : Int32} {wz : Wd} (hN : NX G) (h : fX4_behindRun w x1 x2 x3 = some (r, wz)) : MC l G yX4_behindRun cX4_behindRun 5 (some (.int)) 1 21 al w [.ref (al 4 0 0), .int x1, .int x2, .int x3] (some (.int r)) wz := by
  refine mc_of [(0, .ref (al 4 0 0)), (1, .int x1), (2, .int x2), (3, .int x3)] (by decide) (Nat.le_of_ble_eq_true rfl) rfl ?_
  intro K hk hR hn hl hG
  subst hl; subst hG
  have hk : VH K RX4 cX4_behindRun 1 21 := hk
  rw [fX4_behindRun.eq_1] at h
  refine r_iload_n 1 hk dX4_behindRun_0 rfl 1 rfl rfl ?_
  refine r_istore 3 [(4, .int x1), (0, .ref (al 4 0 0)), (1, .int x1), (2, .int x2), (3, .int x3)] hk dX4_behindRun_1 rfl hn (by decide) rfl rfl ?_
  refine r_sub [1, 3, 4, 0] rfl ?_
  exact sX4_behindRun_3 hk hR hn hN _ _ _ _ _ h
def fX4_moveOn_183  (w : Wd) : Option (Unit × Wd) :=
    lw (sI w 4 0 4 (4)) fun w28 =>
    lw (sI w28 4 0 6 ((((w28 4 0).1 5) + 1))) fun w29 =>
    some ((), w29)
def fX4_moveOn_130  (w : Wd) (x1 : Int32) : Option (Unit × Wd) :=
    if (x1 : Int32) < 48 then
      fX4_moveOn_183  w 
    else
      if (57 : Int32) < x1 then
        fX4_moveOn_183  w 
      else
        ob (fX4_behindRun w (((w 4 0).1 5)) (48) (57)) fun r22 w23 =>
        lw (sI w23 4 0 6 (r22)) fun w24 =>
        if (4 : Int32) < (((w24 4 0).1 6) - ((w24 4 0).1 5)) then
          lw (sI w24 4 0 4 (4)) fun w26 =>
          some ((), w26)
        else
          lw (sI w24 4 0 4 (2)) fun w27 =>
          some ((), w27)
def fX4_moveOn (w : Wd) : Option (Unit × Wd) :=
  ob (fX4_behindRun w (((w 4 0).1 6)) (32) (32)) fun r1 w2 =>
  lw (sI w2 4 0 5 (r1)) fun w3 =>
  ob (fX4_byteAt w3 (((w3 4 0).1 5))) fun r4 w5 =>
  if (((w5 4 0).1 5) : Int32) < ((w5 4 0).1 1) then
    if (r4 : Int32) = 59 then
      lw (sI w5 4 0 4 (3)) fun w16 =>
      lw (sI w16 4 0 6 ((((w16 4 0).1 5) + 1))) fun w17 =>
      some ((), w17)
    else
      if (r4 : Int32) < 97 then
        fX4_moveOn_130  w5 (r4)
      else
        if (122 : Int32) < r4 then
          fX4_moveOn_130  w5 (r4)
        else
          ob (fX4_behindRun w5 (((w5 4 0).1 5)) (97) (122)) fun r10 w11 =>
          lw (sI w11 4 0 6 (r10)) fun w12 =>
          if (8 : Int32) < (((w12 4 0).1 6) - ((w12 4 0).1 5)) then
            lw (sI w12 4 0 4 (4)) fun w14 =>
            some ((), w14)
          else
            lw (sI w12 4 0 4 (1)) fun w15 =>
            some ((), w15)
  else
    lw (sI w5 4 0 4 (0)) fun w18 =>
    lw (sI w18 4 0 6 (((w18 4 0).1 1))) fun w19 =>
    some ((), w19)
set_option maxRecDepth 100000 in
set_option maxHeartbeats 4000000 in
theorem sX4_moveOn_183 {K : VC} {al : Al} {r : Unit} {wz : Wd}  (hk : VH K RX4 cX4_moveOn 2 45) (hR : VR K al none none wz) (hn : kn K = 2) (hN : NX (kG K)) (w : Wd) (h : fX4_moveOn_183  w = some (r, wz)) : V K al w 183 [(0, .ref (al 4 0 0))] [] := by
  rw [fX4_moveOn_183.eq_1] at h
  refine r_aload_n 184 hk dX4_moveOn_183 rfl 0 rfl rfl ?_
  refine r_iconst 185 hk dX4_moveOn_184 rfl ci_4 ?_
  obtain ⟨w28, ew28, h⟩ := lw_e h
  refine r_putI 188 w28 hk dX4_moveOn_185 rfl ff_RX4_119 fi_4_4 (mk_4_0 (nx_4 hN (j := 0) (by decide))) ew28 ?_
  refine r_aload_n 189 hk dX4_moveOn_188 rfl 0 rfl rfl ?_
  refine r_aload_n 190 hk dX4_moveOn_189 rfl 0 rfl rfl ?_
  refine r_get 193 hk dX4_moveOn_190 rfl ff_RX4_116 (mk_4_0 (nx_4 hN (j := 0) (by decide))) (gv_4_5 _ _ _) ?_
  refine r_iconst 194 hk dX4_moveOn_193 rfl ci_1 ?_
  refine r_iadd 195 hk dX4_moveOn_194 rfl ?_
  obtain ⟨w29, ew29, h⟩ := lw_e h
  refine r_putI 198 w29 hk dX4_moveOn_195 rfl ff_RX4_38 fi_4_6 (mk_4_0 (nx_4 hN (j := 0) (by decide))) ew29 ?_
  exact r_vret hk hR dX4_moveOn_198 h
set_option maxRecDepth 100000 in
set_option maxHeartbeats 4000000 in
theorem sX4_moveOn_130 {K : VC} {al : Al} {r : Unit} {wz : Wd}  (hk : VH K RX4 cX4_moveOn 2 45) (hR : VR K al none none wz) (hn : kn K = 2) (hN : NX (kG K)) (w : Wd) (x1 : Int32) (h : fX4_moveOn_130  w x1 = some (r, wz)) : V K al w 130 [(0, .ref (al 4 0 0)), (1, .int x1)] [] := by
  rw [fX4_moveOn_130.eq_1] at h
  refine r_iload_n 131 hk dX4_moveOn_130 rfl 1 rfl rfl ?_
  refine r_bipush 133 hk dX4_moveOn_131 rfl cb_48 ?_
  refine r_icmp_lt 183 136 hk dX4_moveOn_133 rfl rfl (fun c20 => ?_) (fun c20 => ?_)
  · have h := if_t c20 h
    refine r_sub [0] rfl ?_
    exact sX4_moveOn_183 hk hR hn hN _ h
  · have h := if_f c20 h
    refine r_iload_n 137 hk dX4_moveOn_136 rfl 1 rfl rfl ?_
    refine r_bipush 139 hk dX4_moveOn_137 rfl cb_57 ?_
    refine r_icmp_gt 183 142 hk dX4_moveOn_139 rfl rfl (fun c21 => ?_) (fun c21 => ?_)
    · have h := if_t c21 h
      refine r_sub [0] rfl ?_
      exact sX4_moveOn_183 hk hR hn hN _ h
    · have h := if_f c21 h
      refine r_aload_n 143 hk dX4_moveOn_142 rfl 0 rfl rfl ?_
      refine r_aload_n 144 hk dX4_moveOn_143 rfl 0 rfl rfl ?_
      refine r_aload_n 145 hk dX4_moveOn_144 rfl 0 rfl rfl ?_
      refine r_get 148 hk dX4_moveOn_145 rfl ff_RX4_116 (mk_4_0 (nx_4 hN (j := 0) (by decide))) (gv_4_5 _ _ _) ?_
      refine r_bipush 150 hk dX4_moveOn_148 rfl cb_48 ?_
      refine r_bipush 152 hk dX4_moveOn_150 rfl cb_57 ?_
      obtain ⟨r22, w23, ew23, h⟩ := ob_e h
      refine r_cVi 155 (As := [.int (((w 4 0).1 5)), .int 48, .int 57]) (rest := [.ref (al 4 0 0)]) hk (kX4_behindRun hN ew23) cf_RX4_179 mi_X4_behindRun ⟨TX4, 10, rfl⟩ dX4_moveOn_152 rfl (Nat.le_of_ble_eq_true rfl) (Nat.le_of_ble_eq_true rfl) (mk_4_0 (nx_4 hN (j := 0) (by decide))) rfl rfl (Nat.le_of_ble_eq_true rfl) ?_
      obtain ⟨w24, ew24, h⟩ := lw_e h
      refine r_putI 158 w24 hk dX4_moveOn_155 rfl ff_RX4_38 fi_4_6 (mk_4_0 (nx_4 hN (j := 0) (by decide))) ew24 ?_
      refine r_aload_n 159 hk dX4_moveOn_158 rfl 0 rfl rfl ?_
      refine r_aload_n 160 hk dX4_moveOn_159 rfl 0 rfl rfl ?_
      refine r_get 163 hk dX4_moveOn_160 rfl ff_RX4_38 (mk_4_0 (nx_4 hN (j := 0) (by decide))) (gv_4_6 _ _ _) ?_
      refine r_aload_n 164 hk dX4_moveOn_163 rfl 0 rfl rfl ?_
      refine r_get 167 hk dX4_moveOn_164 rfl ff_RX4_116 (mk_4_0 (nx_4 hN (j := 0) (by decide))) (gv_4_5 _ _ _) ?_
      refine r_isub 168 hk dX4_moveOn_167 rfl ?_
      refine r_iconst 169 hk dX4_moveOn_168 rfl ci_4 ?_
      refine r_icmp_gt 176 172 hk dX4_moveOn_169 rfl rfl (fun c25 => ?_) (fun c25 => ?_)
      · have h := if_t c25 h
        refine r_iconst 177 hk dX4_moveOn_176 rfl ci_4 ?_
        obtain ⟨w26, ew26, h⟩ := lw_e h
        refine r_putI 180 w26 hk dX4_moveOn_177 rfl ff_RX4_119 fi_4_4 (mk_4_0 (nx_4 hN (j := 0) (by decide))) ew26 ?_
        refine r_goto 198 hk (x := 0) dX4_moveOn_180 rfl ?_
        exact r_vret hk hR dX4_moveOn_198 h
      · have h := if_f c25 h
        refine r_iconst 173 hk dX4_moveOn_172 rfl ci_2 ?_
        refine r_goto 177 hk (x := 0) dX4_moveOn_173 rfl ?_
        obtain ⟨w27, ew27, h⟩ := lw_e h
        refine r_putI 180 w27 hk dX4_moveOn_177 rfl ff_RX4_119 fi_4_4 (mk_4_0 (nx_4 hN (j := 0) (by decide))) ew27 ?_
        refine r_goto 198 hk (x := 0) dX4_moveOn_180 rfl ?_
        exact r_vret hk hR dX4_moveOn_198 h
set_option maxRecDepth 100000 in
set_option maxHeartbeats 4000000 in
theorem kX4_moveOn {l : Launch} {G : Gx} {al : Al} {w : Wd} {r : Unit} {wz : Wd} (hN : NX G) (h : fX4_moveOn w = some (r, wz)) : MC l G yX4_moveOn cX4_moveOn 2 none 2 45 al w [.ref (al 4 0 0)] none wz := by
  refine mc_of [(0, .ref (al 4 0 0))] (by decide) (Nat.le_of_ble_eq_true rfl) rfl ?_
  intro K hk hR hn hl hG
  subst hl; subst hG
  have hk : VH K RX4 cX4_moveOn 2 45 := hk
  rw [fX4_moveOn.eq_1] at h
  refine r_aload_n 1 hk dX4_moveOn_0 rfl 0 rfl rfl ?_
  refine r_aload_n 2 hk dX4_moveOn_1 rfl 0 rfl rfl ?_
  refine r_aload_n 3 hk dX4_moveOn_2 rfl 0 rfl rfl ?_
  refine r_get 6 hk dX4_moveOn_3 rfl ff_RX4_38 (mk_4_0 (nx_4 hN (j := 0) (by decide))) (gv_4_6 _ _ _) ?_
  refine r_bipush 8 hk dX4_moveOn_6 rfl cb_32 ?_
  refine r_bipush 10 hk dX4_moveOn_8 rfl cb_32 ?_
  obtain ⟨r1, w2, ew2, h⟩ := ob_e h
  refine r_cVi 13 (As := [.int (((w 4 0).1 6)), .int 32, .int 32]) (rest := [.ref (al 4 0 0)]) hk (kX4_behindRun hN ew2) cf_RX4_179 mi_X4_behindRun ⟨TX4, 10, rfl⟩ dX4_moveOn_10 rfl (Nat.le_of_ble_eq_true rfl) (Nat.le_of_ble_eq_true rfl) (mk_4_0 (nx_4 hN (j := 0) (by decide))) rfl rfl (Nat.le_of_ble_eq_true rfl) ?_
  obtain ⟨w3, ew3, h⟩ := lw_e h
  refine r_putI 16 w3 hk dX4_moveOn_13 rfl ff_RX4_116 fi_4_5 (mk_4_0 (nx_4 hN (j := 0) (by decide))) ew3 ?_
  refine r_aload_n 17 hk dX4_moveOn_16 rfl 0 rfl rfl ?_
  refine r_aload_n 18 hk dX4_moveOn_17 rfl 0 rfl rfl ?_
  refine r_get 21 hk dX4_moveOn_18 rfl ff_RX4_116 (mk_4_0 (nx_4 hN (j := 0) (by decide))) (gv_4_5 _ _ _) ?_
  obtain ⟨r4, w5, ew5, h⟩ := ob_e h
  refine r_cVi 24 (As := [.int (((w3 4 0).1 5))]) (rest := []) hk (kX4_byteAt hN ew5) cf_RX4_165 mi_X4_byteAt ⟨TX4, 10, rfl⟩ dX4_moveOn_21 rfl (Nat.le_of_ble_eq_true rfl) (Nat.le_of_ble_eq_true rfl) (mk_4_0 (nx_4 hN (j := 0) (by decide))) rfl rfl (Nat.le_of_ble_eq_true rfl) ?_
  refine r_istore_n 25 [(1, .int r4), (0, .ref (al 4 0 0))] hk dX4_moveOn_24 rfl rfl hn (by decide) rfl rfl ?_
  refine r_aload_n 26 hk dX4_moveOn_25 rfl 1 rfl rfl ?_
  refine r_get 29 hk dX4_moveOn_26 rfl ff_RX4_116 (mk_4_0 (nx_4 hN (j := 0) (by decide))) (gv_4_5 _ _ _) ?_
  refine r_aload_n 30 hk dX4_moveOn_29 rfl 1 rfl rfl ?_
  refine r_get 33 hk dX4_moveOn_30 rfl ff_RX4_25 (mk_4_0 (nx_4 hN (j := 0) (by decide))) (gv_4_1 _ _ _) ?_
  refine r_icmp_lt 52 36 hk dX4_moveOn_33 rfl rfl (fun c6 => ?_) (fun c6 => ?_)
  · have h := if_t c6 h
    refine r_iload_n 53 hk dX4_moveOn_52 rfl 0 rfl rfl ?_
    refine r_bipush 55 hk dX4_moveOn_53 rfl cb_59 ?_
    refine r_icmp_ne 76 58 hk dX4_moveOn_55 rfl rfl (fun c7 => ?_) (fun c7 => ?_)
    · have h := if_f c7 h
      refine r_iload_n 77 hk dX4_moveOn_76 rfl 0 rfl rfl ?_
      refine r_bipush 79 hk dX4_moveOn_77 rfl cb_97 ?_
      refine r_icmp_lt 130 82 hk dX4_moveOn_79 rfl rfl (fun c8 => ?_) (fun c8 => ?_)
      · have h := if_t c8 h
        refine r_sub [1, 0] rfl ?_
        exact sX4_moveOn_130 hk hR hn hN _ _ h
      · have h := if_f c8 h
        refine r_iload_n 83 hk dX4_moveOn_82 rfl 0 rfl rfl ?_
        refine r_bipush 85 hk dX4_moveOn_83 rfl cb_122 ?_
        refine r_icmp_gt 130 88 hk dX4_moveOn_85 rfl rfl (fun c9 => ?_) (fun c9 => ?_)
        · have h := if_t c9 h
          refine r_sub [1, 0] rfl ?_
          exact sX4_moveOn_130 hk hR hn hN _ _ h
        · have h := if_f c9 h
          refine r_aload_n 89 hk dX4_moveOn_88 rfl 1 rfl rfl ?_
          refine r_aload_n 90 hk dX4_moveOn_89 rfl 1 rfl rfl ?_
          refine r_aload_n 91 hk dX4_moveOn_90 rfl 1 rfl rfl ?_
          refine r_get 94 hk dX4_moveOn_91 rfl ff_RX4_116 (mk_4_0 (nx_4 hN (j := 0) (by decide))) (gv_4_5 _ _ _) ?_
          refine r_bipush 96 hk dX4_moveOn_94 rfl cb_97 ?_
          refine r_bipush 98 hk dX4_moveOn_96 rfl cb_122 ?_
          obtain ⟨r10, w11, ew11, h⟩ := ob_e h
          refine r_cVi 101 (As := [.int (((w5 4 0).1 5)), .int 97, .int 122]) (rest := [.ref (al 4 0 0)]) hk (kX4_behindRun hN ew11) cf_RX4_179 mi_X4_behindRun ⟨TX4, 10, rfl⟩ dX4_moveOn_98 rfl (Nat.le_of_ble_eq_true rfl) (Nat.le_of_ble_eq_true rfl) (mk_4_0 (nx_4 hN (j := 0) (by decide))) rfl rfl (Nat.le_of_ble_eq_true rfl) ?_
          obtain ⟨w12, ew12, h⟩ := lw_e h
          refine r_putI 104 w12 hk dX4_moveOn_101 rfl ff_RX4_38 fi_4_6 (mk_4_0 (nx_4 hN (j := 0) (by decide))) ew12 ?_
          refine r_aload_n 105 hk dX4_moveOn_104 rfl 1 rfl rfl ?_
          refine r_aload_n 106 hk dX4_moveOn_105 rfl 1 rfl rfl ?_
          refine r_get 109 hk dX4_moveOn_106 rfl ff_RX4_38 (mk_4_0 (nx_4 hN (j := 0) (by decide))) (gv_4_6 _ _ _) ?_
          refine r_aload_n 110 hk dX4_moveOn_109 rfl 1 rfl rfl ?_
          refine r_get 113 hk dX4_moveOn_110 rfl ff_RX4_116 (mk_4_0 (nx_4 hN (j := 0) (by decide))) (gv_4_5 _ _ _) ?_
          refine r_isub 114 hk dX4_moveOn_113 rfl ?_
          refine r_bipush 116 hk dX4_moveOn_114 rfl cb_8 ?_
          refine r_icmp_gt 123 119 hk dX4_moveOn_116 rfl rfl (fun c13 => ?_) (fun c13 => ?_)
          · have h := if_t c13 h
            refine r_iconst 124 hk dX4_moveOn_123 rfl ci_4 ?_
            obtain ⟨w14, ew14, h⟩ := lw_e h
            refine r_putI 127 w14 hk dX4_moveOn_124 rfl ff_RX4_119 fi_4_4 (mk_4_0 (nx_4 hN (j := 0) (by decide))) ew14 ?_
            refine r_goto 198 hk (x := 0) dX4_moveOn_127 rfl ?_
            exact r_vret hk hR dX4_moveOn_198 h
          · have h := if_f c13 h
            refine r_iconst 120 hk dX4_moveOn_119 rfl ci_1 ?_
            refine r_goto 124 hk (x := 0) dX4_moveOn_120 rfl ?_
            obtain ⟨w15, ew15, h⟩ := lw_e h
            refine r_putI 127 w15 hk dX4_moveOn_124 rfl ff_RX4_119 fi_4_4 (mk_4_0 (nx_4 hN (j := 0) (by decide))) ew15 ?_
            refine r_goto 198 hk (x := 0) dX4_moveOn_127 rfl ?_
            exact r_vret hk hR dX4_moveOn_198 h
    · have h := if_t c7 h
      refine r_aload_n 59 hk dX4_moveOn_58 rfl 1 rfl rfl ?_
      refine r_iconst 60 hk dX4_moveOn_59 rfl ci_3 ?_
      obtain ⟨w16, ew16, h⟩ := lw_e h
      refine r_putI 63 w16 hk dX4_moveOn_60 rfl ff_RX4_119 fi_4_4 (mk_4_0 (nx_4 hN (j := 0) (by decide))) ew16 ?_
      refine r_aload_n 64 hk dX4_moveOn_63 rfl 1 rfl rfl ?_
      refine r_aload_n 65 hk dX4_moveOn_64 rfl 1 rfl rfl ?_
      refine r_get 68 hk dX4_moveOn_65 rfl ff_RX4_116 (mk_4_0 (nx_4 hN (j := 0) (by decide))) (gv_4_5 _ _ _) ?_
      refine r_iconst 69 hk dX4_moveOn_68 rfl ci_1 ?_
      refine r_iadd 70 hk dX4_moveOn_69 rfl ?_
      obtain ⟨w17, ew17, h⟩ := lw_e h
      refine r_putI 73 w17 hk dX4_moveOn_70 rfl ff_RX4_38 fi_4_6 (mk_4_0 (nx_4 hN (j := 0) (by decide))) ew17 ?_
      refine r_goto 198 hk (x := 0) dX4_moveOn_73 rfl ?_
      exact r_vret hk hR dX4_moveOn_198 h
  · have h := if_f c6 h
    refine r_aload_n 37 hk dX4_moveOn_36 rfl 1 rfl rfl ?_
    refine r_iconst 38 hk dX4_moveOn_37 rfl ci_0 ?_
    obtain ⟨w18, ew18, h⟩ := lw_e h
    refine r_putI 41 w18 hk dX4_moveOn_38 rfl ff_RX4_119 fi_4_4 (mk_4_0 (nx_4 hN (j := 0) (by decide))) ew18 ?_
    refine r_aload_n 42 hk dX4_moveOn_41 rfl 1 rfl rfl ?_
    refine r_aload_n 43 hk dX4_moveOn_42 rfl 1 rfl rfl ?_
    refine r_get 46 hk dX4_moveOn_43 rfl ff_RX4_25 (mk_4_0 (nx_4 hN (j := 0) (by decide))) (gv_4_1 _ _ _) ?_
    obtain ⟨w19, ew19, h⟩ := lw_e h
    refine r_putI 49 w19 hk dX4_moveOn_46 rfl ff_RX4_38 fi_4_6 (mk_4_0 (nx_4 hN (j := 0) (by decide))) ew19 ?_
    refine r_goto 198 hk (x := 0) dX4_moveOn_49 rfl ?_
    exact r_vret hk hR dX4_moveOn_198 h
def fX4_isWord_28 (s1 : Nat) : Nat → Wd → Int32 → Option (Int32 × Wd)
  | 0, _, _ => none
  | n + 1, w, x2 =>
    if ((nI (slen.getD s1 0)) : Int32) ≤ x2 then
      some (1, w)
    else
      ob (fX4_byteAt w ((((w 4 0).1 5) + x2))) fun r4 w5 =>
      ck (inb (x2) (slen.getD s1 0)) <|
      if (r4 : Int32) = ((sbyt.getD s1 []).getD (x2 : Int32).toNatClampNeg 0) then
        lw (x2 + 1) fun x2_8 =>
        fX4_isWord_28 s1 n w5 (x2_8)
      else
        some (0, w5)
def fX4_isWord (s1 : Nat) (w : Wd) : Option (Int32 × Wd) :=
  if (((w 4 0).1 4) : Int32) = 1 then
    if ((((w 4 0).1 6) - ((w 4 0).1 5)) : Int32) = (nI (slen.getD s1 0)) then
      fX4_isWord_28 s1 fuel0 w (0)
    else
      some (0, w)
  else
    some (0, w)
set_option maxRecDepth 100000 in
set_option maxHeartbeats 4000000 in
theorem sX4_isWord_28 {K : VC} {al : Al} {r : Int32} {wz : Wd} {s1 : Nat} (hk : VH K RX4 cX4_isWord 4 100) (hR : VR K al (some (.boolean)) (some (.int r)) wz) (hn : kn K = 3) (hN : NX (kG K)) (hs1 : s1 < 10) : ∀ (n : Nat) (w : Wd) (x2 : Int32), fX4_isWord_28 s1 n w x2 = some (r, wz) → V K al w 28 [(0, .ref (al 4 0 0)), (1, .ref ((kG K).2.2.1 s1)), (2, .int x2)] [] := by
  intro n
  induction n with
  | zero => intro w x2 h; cases h
  | succ n ih =>
    intro w x2 h
    rw [fX4_isWord_28.eq_2] at h
    refine r_iload_n 29 hk dX4_isWord_28 rfl 2 rfl rfl ?_
    refine r_aload_n 30 hk dX4_isWord_29 rfl 1 rfl rfl ?_
    refine r_slen 33 hk dX4_isWord_30 rfl hs1 cf_RX4_169 (Nat.le_of_ble_eq_true rfl) (Nat.le_of_ble_eq_true rfl) (Nat.le_of_ble_eq_true rfl) ?_
    refine r_icmp_ge 62 36 hk dX4_isWord_33 rfl rfl (fun c3 => ?_) (fun c3 => ?_)
    · have h := if_t c3 h
      refine r_iconst 63 hk dX4_isWord_62 rfl ci_1 ?_
      exact r_zret hk hR dX4_isWord_63 (by decide) h
    · have h := if_f c3 h
      refine r_aload_n 37 hk dX4_isWord_36 rfl 0 rfl rfl ?_
      refine r_aload_n 38 hk dX4_isWord_37 rfl 0 rfl rfl ?_
      refine r_get 41 hk dX4_isWord_38 rfl ff_RX4_116 (mk_4_0 (nx_4 hN (j := 0) (by decide))) (gv_4_5 _ _ _) ?_
      refine r_iload_n 42 hk dX4_isWord_41 rfl 2 rfl rfl ?_
      refine r_iadd 43 hk dX4_isWord_42 rfl ?_
      obtain ⟨r4, w5, ew5, h⟩ := ob_e h
      refine r_cVi 46 (As := [.int ((((w 4 0).1 5) + x2))]) (rest := []) hk (kX4_byteAt hN ew5) cf_RX4_165 mi_X4_byteAt ⟨TX4, 10, rfl⟩ dX4_isWord_43 rfl (Nat.le_of_ble_eq_true rfl) (Nat.le_of_ble_eq_true rfl) (mk_4_0 (nx_4 hN (j := 0) (by decide))) rfl rfl (Nat.le_of_ble_eq_true rfl) ?_
      refine r_aload_n 47 hk dX4_isWord_46 rfl 1 rfl rfl ?_
      refine r_iload_n 48 hk dX4_isWord_47 rfl 2 rfl rfl ?_
      obtain ⟨b6, h⟩ := ck_e h
      refine r_schar 51 hk dX4_isWord_48 rfl hs1 cf_RX4_175 b6 (Nat.le_of_ble_eq_true rfl) (Nat.le_of_ble_eq_true rfl) (Nat.le_of_ble_eq_true rfl) ?_
      refine r_icmp_eq 56 54 hk dX4_isWord_51 rfl rfl (fun c7 => ?_) (fun c7 => ?_)
      · have h := if_t c7 h
        obtain ⟨x2_8, ex2_8, h⟩ := lw_e h
        refine r_iinc 59 [(2, .int x2_8), (0, .ref (al 4 0 0)), (1, .ref ((kG K).2.2.1 s1))] hk (j := 2) dX4_isWord_56 rfl hn (by decide) rfl ex2_8 rfl ?_
        refine r_goto 28 hk (x := 0) dX4_isWord_59 rfl ?_
        refine r_sub [1, 2, 0] rfl ?_
        exact ih _ _ h
      · have h := if_f c7 h
        refine r_iconst 55 hk dX4_isWord_54 rfl ci_0 ?_
        exact r_zret hk hR dX4_isWord_55 (by decide) h
set_option maxRecDepth 100000 in
set_option maxHeartbeats 4000000 in
theorem kX4_isWord {l : Launch} {G : Gx} {al : Al} {s1 : Nat} {w : Wd} {r : Int32} {wz : Wd} (hN : NX G) (hs1 : s1 < 10) (h : fX4_isWord s1 w = some (r, wz)) : MC l G yX4_isWord cX4_isWord 3 (some (.boolean)) 4 100 al w [.ref (al 4 0 0), .ref (G.2.2.1 s1)] (some (.int r)) wz := by
  refine mc_of [(0, .ref (al 4 0 0)), (1, .ref (G.2.2.1 s1))] (by decide) (Nat.le_of_ble_eq_true rfl) rfl ?_
  intro K hk hR hn hl hG
  subst hl; subst hG
  have hk : VH K RX4 cX4_isWord 4 100 := hk
  rw [fX4_isWord.eq_1] at h
  refine r_aload_n 1 hk dX4_isWord_0 rfl 0 rfl rfl ?_
  refine r_get 4 hk dX4_isWord_1 rfl ff_RX4_119 (mk_4_0 (nx_4 hN (j := 0) (by decide))) (gv_4_4 _ _ _) ?_
  refine r_iconst 5 hk dX4_isWord_4 rfl ci_1 ?_
  refine r_icmp_ne 24 8 hk dX4_isWord_5 rfl rfl (fun c1 => ?_) (fun c1 => ?_)
  · have h := if_f c1 h
    refine r_iconst 25 hk dX4_isWord_24 rfl ci_0 ?_
    exact r_zret hk hR dX4_isWord_25 (by decide) h
  · have h := if_t c1 h
    refine r_aload_n 9 hk dX4_isWord_8 rfl 0 rfl rfl ?_
    refine r_get 12 hk dX4_isWord_9 rfl ff_RX4_38 (mk_4_0 (nx_4 hN (j := 0) (by decide))) (gv_4_6 _ _ _) ?_
    refine r_aload_n 13 hk dX4_isWord_12 rfl 0 rfl rfl ?_
    refine r_get 16 hk dX4_isWord_13 rfl ff_RX4_116 (mk_4_0 (nx_4 hN (j := 0) (by decide))) (gv_4_5 _ _ _) ?_
    refine r_isub 17 hk dX4_isWord_16 rfl ?_
    refine r_aload_n 18 hk dX4_isWord_17 rfl 1 rfl rfl ?_
    refine r_slen 21 hk dX4_isWord_18 rfl hs1 cf_RX4_169 (Nat.le_of_ble_eq_true rfl) (Nat.le_of_ble_eq_true rfl) (Nat.le_of_ble_eq_true rfl) ?_
    refine r_icmp_eq 26 24 hk dX4_isWord_21 rfl rfl (fun c2 => ?_) (fun c2 => ?_)
    · have h := if_t c2 h
      refine r_iconst 27 hk dX4_isWord_26 rfl ci_0 ?_
      refine r_istore_n 28 [(2, .int 0), (0, .ref (al 4 0 0)), (1, .ref ((kG K).2.2.1 s1))] hk dX4_isWord_27 rfl rfl hn (by decide) rfl rfl ?_
      refine r_sub [1, 2, 0] rfl ?_
      exact sX4_isWord_28 hk hR hn hN hs1 _ _ _ h
    · have h := if_f c2 h
      refine r_iconst 25 hk dX4_isWord_24 rfl ci_0 ?_
      exact r_zret hk hR dX4_isWord_25 (by decide) h
def fX4_stopAt (w : Wd) (x1 : Int32) (x2 : Int32) : Option (Int32 × Wd) :=
  lw (sI w 4 0 8 (x1)) fun w1 =>
  lw (sI w1 4 0 9 (x2)) fun w2 =>
  some (0, w2)
set_option maxRecDepth 100000 in
set_option maxHeartbeats 4000000 in
theorem kX4_stopAt {l : Launch} {G : Gx} {al : Al} {w : Wd} {x1 : Int32} {x2 : Int32} {r : Int32} {wz : Wd} (hN : NX G) (h : fX4_stopAt w x1 x2 = some (r, wz)) : MC l G yX4_stopAt cX4_stopAt 3 (some (.boolean)) 0 0 al w [.ref (al 4 0 0), .int x1, .int x2] (some (.int r)) wz := by
  refine mc_of [(0, .ref (al 4 0 0)), (1, .int x1), (2, .int x2)] (by decide) (Nat.le_of_ble_eq_true rfl) rfl ?_
  intro K hk hR hn hl hG
  subst hl; subst hG
  have hk : VH K RX4 cX4_stopAt 0 0 := hk
  rw [fX4_stopAt.eq_1] at h
  refine r_aload_n 1 hk dX4_stopAt_0 rfl 0 rfl rfl ?_
  refine r_iload_n 2 hk dX4_stopAt_1 rfl 1 rfl rfl ?_
  obtain ⟨w1, ew1, h⟩ := lw_e h
  refine r_putI 5 w1 hk dX4_stopAt_2 rfl ff_RX4_41 fi_4_8 (mk_4_0 (nx_4 hN (j := 0) (by decide))) ew1 ?_
  refine r_aload_n 6 hk dX4_stopAt_5 rfl 0 rfl rfl ?_
  refine r_iload_n 7 hk dX4_stopAt_6 rfl 2 rfl rfl ?_
  obtain ⟨w2, ew2, h⟩ := lw_e h
  refine r_putI 10 w2 hk dX4_stopAt_7 rfl ff_RX4_44 fi_4_9 (mk_4_0 (nx_4 hN (j := 0) (by decide))) ew2 ?_
  refine r_iconst 11 hk dX4_stopAt_10 rfl ci_0 ?_
  exact r_zret hk hR dX4_stopAt_11 (by decide) h
def fX4_takeWord (s1 : Nat) (w : Wd) : Option (Int32 × Wd) :=
  ob (fX4_isWord s1 w ) fun r1 w2 =>
  if (r1 : Int32) = 0 then
    ob (fX4_stopAt w2 (1) (((w2 4 0).1 5))) fun r6 w7 =>
    ck (isb (r6)) <|
    some (r6, w7)
  else
    ob (fX4_moveOn w2 ) fun _ w5 =>
    some (1, w5)
set_option maxRecDepth 100000 in
set_option maxHeartbeats 4000000 in
theorem kX4_takeWord {l : Launch} {G : Gx} {al : Al} {s1 : Nat} {w : Wd} {r : Int32} {wz : Wd} (hN : NX G) (hs1 : s1 < 10) (h : fX4_takeWord s1 w = some (r, wz)) : MC l G yX4_takeWord cX4_takeWord 2 (some (.boolean)) 5 122 al w [.ref (al 4 0 0), .ref (G.2.2.1 s1)] (some (.int r)) wz := by
  refine mc_of [(0, .ref (al 4 0 0)), (1, .ref (G.2.2.1 s1))] (by decide) (Nat.le_of_ble_eq_true rfl) rfl ?_
  intro K hk hR hn hl hG
  subst hl; subst hG
  have hk : VH K RX4 cX4_takeWord 5 122 := hk
  rw [fX4_takeWord.eq_1] at h
  refine r_aload_n 1 hk dX4_takeWord_0 rfl 0 rfl rfl ?_
  refine r_aload_n 2 hk dX4_takeWord_1 rfl 1 rfl rfl ?_
  obtain ⟨r1, w2, ew2, h⟩ := ob_e h
  refine r_cVi 5 (As := [.ref ((kG K).2.2.1 s1)]) (rest := []) hk (kX4_isWord hN hs1 ew2) cf_RX4_75 mi_X4_isWord ⟨TX4, 10, rfl⟩ dX4_takeWord_2 rfl (Nat.le_of_ble_eq_true rfl) (Nat.le_of_ble_eq_true rfl) (mk_4_0 (nx_4 hN (j := 0) (by decide))) rfl rfl (Nat.le_of_ble_eq_true rfl) ?_
  refine r_if_ne 18 8 hk dX4_takeWord_5 rfl rfl (fun c3 => ?_) (fun c3 => ?_)
  · have h := if_f c3 h
    refine r_aload_n 19 hk dX4_takeWord_18 rfl 0 rfl rfl ?_
    obtain ⟨r4, w5, ew5, h⟩ := ob_e h
    refine r_cVv 22 (As := []) (rest := []) hk (kX4_moveOn hN ew5) cf_RX4_47 mi_X4_moveOn ⟨TX4, 10, rfl⟩ dX4_takeWord_19 rfl (Nat.le_of_ble_eq_true rfl) (Nat.le_of_ble_eq_true rfl) (mk_4_0 (nx_4 hN (j := 0) (by decide))) rfl rfl (Nat.le_of_ble_eq_true rfl) ?_
    refine r_iconst 23 hk dX4_takeWord_22 rfl ci_1 ?_
    exact r_zret hk hR dX4_takeWord_23 (by decide) h
  · have h := if_t c3 h
    refine r_aload_n 9 hk dX4_takeWord_8 rfl 0 rfl rfl ?_
    refine r_iconst 10 hk dX4_takeWord_9 rfl ci_1 ?_
    refine r_aload_n 11 hk dX4_takeWord_10 rfl 0 rfl rfl ?_
    refine r_get 14 hk dX4_takeWord_11 rfl ff_RX4_116 (mk_4_0 (nx_4 hN (j := 0) (by decide))) (gv_4_5 _ _ _) ?_
    obtain ⟨r6, w7, ew7, h⟩ := ob_e h
    refine r_cVi 17 (As := [.int 1, .int (((w2 4 0).1 5))]) (rest := []) hk (kX4_stopAt hN ew7) cf_RX4_66 mi_X4_stopAt ⟨TX4, 10, rfl⟩ dX4_takeWord_14 rfl (Nat.le_of_ble_eq_true rfl) (Nat.le_of_ble_eq_true rfl) (mk_4_0 (nx_4 hN (j := 0) (by decide))) rfl rfl (Nat.le_of_ble_eq_true rfl) ?_
    obtain ⟨b8, h⟩ := ck_e h
    exact r_zret hk hR dX4_takeWord_17 b8 h
def fX4_takeWhole_70  (w : Wd) (x1 : Int32) (x2 : Int32) : Option (Int32 × Wd) :=
    if (((w 4 0).1 7) : Int32) < x1 then
      ob (fX4_stopAt w (4) (((w 4 0).1 5))) fun r14 w15 =>
      ck (isb (r14)) <|
      some (r14, w15)
    else
      if (((w 4 0).1 7) : Int32) ≤ x2 then
        ob (fX4_moveOn w ) fun _ w19 =>
        some (1, w19)
      else
        ob (fX4_stopAt w (4) (((w 4 0).1 5))) fun r20 w21 =>
        ck (isb (r20)) <|
        some (r20, w21)
def fX4_takeWhole_28  : Nat → Wd → Int32 → Int32 → Int32 → Option (Int32 × Wd)
  | 0, _, _, _, _ => none
  | n + 1, w, x1, x2, x3 =>
    if (((w 4 0).1 6) : Int32) ≤ x3 then
      fX4_takeWhole_70  w (x1) (x2)
    else
      if (((w 4 0).1 1) : Int32) ≤ x3 then
        fX4_takeWhole_70  w (x1) (x2)
      else
        ob (fX4_byteAt w (x3)) fun r9 w10 =>
        lw (sI w10 4 0 7 ((((10 * ((w 4 0).1 7)) + r9) - 48))) fun w11 =>
        lw (x3 + 1) fun x3_12 =>
        fX4_takeWhole_28  n w11 (x1) (x2) (x3_12)
def fX4_takeWhole (w : Wd) (x1 : Int32) (x2 : Int32) : Option (Int32 × Wd) :=
  if (((w 4 0).1 4) : Int32) = 2 then
    lw (sI w 4 0 7 (0)) fun w2 =>
    lw (((w2 4 0).1 5)) fun x3_3 =>
    fX4_takeWhole_28  fuel0 w2 (x1) (x2) (x3_3)
  else
    ob (fX4_stopAt w (1) (((w 4 0).1 5))) fun r4 w5 =>
    ck (isb (r4)) <|
    some (r4, w5)
set_option maxRecDepth 100000 in
set_option maxHeartbeats 4000000 in
theorem sX4_takeWhole_70 {K : VC} {al : Al} {r : Int32} {wz : Wd}  (hk : VH K RX4 cX4_takeWhole 3 66) (hR : VR K al (some (.boolean)) (some (.int r)) wz) (hn : kn K = 4) (hN : NX (kG K)) (w : Wd) (x1 : Int32) (x2 : Int32) (h : fX4_takeWhole_70  w x1 x2 = some (r, wz)) : V K al w 70 [(0, .ref (al 4 0 0)), (1, .int x1), (2, .int x2)] [] := by
  rw [fX4_takeWhole_70.eq_1] at h
  refine r_aload_n 71 hk dX4_takeWhole_70 rfl 0 rfl rfl ?_
  refine r_get 74 hk dX4_takeWhole_71 rfl ff_RX4_130 (mk_4_0 (nx_4 hN (j := 0) (by decide))) (gv_4_7 _ _ _) ?_
  refine r_iload_n 75 hk dX4_takeWhole_74 rfl 1 rfl rfl ?_
  refine r_icmp_lt 86 78 hk dX4_takeWhole_75 rfl rfl (fun c13 => ?_) (fun c13 => ?_)
  · have h := if_t c13 h
    refine r_aload_n 87 hk dX4_takeWhole_86 rfl 0 rfl rfl ?_
    refine r_iconst 88 hk dX4_takeWhole_87 rfl ci_4 ?_
    refine r_aload_n 89 hk dX4_takeWhole_88 rfl 0 rfl rfl ?_
    refine r_get 92 hk dX4_takeWhole_89 rfl ff_RX4_116 (mk_4_0 (nx_4 hN (j := 0) (by decide))) (gv_4_5 _ _ _) ?_
    obtain ⟨r14, w15, ew15, h⟩ := ob_e h
    refine r_cVi 95 (As := [.int 4, .int (((w 4 0).1 5))]) (rest := []) hk (kX4_stopAt hN ew15) cf_RX4_66 mi_X4_stopAt ⟨TX4, 10, rfl⟩ dX4_takeWhole_92 rfl (Nat.le_of_ble_eq_true rfl) (Nat.le_of_ble_eq_true rfl) (mk_4_0 (nx_4 hN (j := 0) (by decide))) rfl rfl (Nat.le_of_ble_eq_true rfl) ?_
    obtain ⟨b16, h⟩ := ck_e h
    exact r_zret hk hR dX4_takeWhole_95 b16 h
  · have h := if_f c13 h
    refine r_aload_n 79 hk dX4_takeWhole_78 rfl 0 rfl rfl ?_
    refine r_get 82 hk dX4_takeWhole_79 rfl ff_RX4_130 (mk_4_0 (nx_4 hN (j := 0) (by decide))) (gv_4_7 _ _ _) ?_
    refine r_iload_n 83 hk dX4_takeWhole_82 rfl 2 rfl rfl ?_
    refine r_icmp_le 96 86 hk dX4_takeWhole_83 rfl rfl (fun c17 => ?_) (fun c17 => ?_)
    · have h := if_t c17 h
      refine r_aload_n 97 hk dX4_takeWhole_96 rfl 0 rfl rfl ?_
      obtain ⟨r18, w19, ew19, h⟩ := ob_e h
      refine r_cVv 100 (As := []) (rest := []) hk (kX4_moveOn hN ew19) cf_RX4_47 mi_X4_moveOn ⟨TX4, 10, rfl⟩ dX4_takeWhole_97 rfl (Nat.le_of_ble_eq_true rfl) (Nat.le_of_ble_eq_true rfl) (mk_4_0 (nx_4 hN (j := 0) (by decide))) rfl rfl (Nat.le_of_ble_eq_true rfl) ?_
      refine r_iconst 101 hk dX4_takeWhole_100 rfl ci_1 ?_
      exact r_zret hk hR dX4_takeWhole_101 (by decide) h
    · have h := if_f c17 h
      refine r_aload_n 87 hk dX4_takeWhole_86 rfl 0 rfl rfl ?_
      refine r_iconst 88 hk dX4_takeWhole_87 rfl ci_4 ?_
      refine r_aload_n 89 hk dX4_takeWhole_88 rfl 0 rfl rfl ?_
      refine r_get 92 hk dX4_takeWhole_89 rfl ff_RX4_116 (mk_4_0 (nx_4 hN (j := 0) (by decide))) (gv_4_5 _ _ _) ?_
      obtain ⟨r20, w21, ew21, h⟩ := ob_e h
      refine r_cVi 95 (As := [.int 4, .int (((w 4 0).1 5))]) (rest := []) hk (kX4_stopAt hN ew21) cf_RX4_66 mi_X4_stopAt ⟨TX4, 10, rfl⟩ dX4_takeWhole_92 rfl (Nat.le_of_ble_eq_true rfl) (Nat.le_of_ble_eq_true rfl) (mk_4_0 (nx_4 hN (j := 0) (by decide))) rfl rfl (Nat.le_of_ble_eq_true rfl) ?_
      obtain ⟨b22, h⟩ := ck_e h
      exact r_zret hk hR dX4_takeWhole_95 b22 h
set_option maxRecDepth 100000 in
set_option maxHeartbeats 4000000 in
theorem sX4_takeWhole_28 {K : VC} {al : Al} {r : Int32} {wz : Wd}  (hk : VH K RX4 cX4_takeWhole 3 66) (hR : VR K al (some (.boolean)) (some (.int r)) wz) (hn : kn K = 4) (hN : NX (kG K)) : ∀ (n : Nat) (w : Wd) (x1 : Int32) (x2 : Int32) (x3 : Int32), fX4_takeWhole_28  n w x1 x2 x3 = some (r, wz) → V K al w 28 [(0, .ref (al 4 0 0)), (1, .int x1), (2, .int x2), (3, .int x3)] [] := by
  intro n
  induction n with
  | zero => intro w x1 x2 x3 h; cases h
  | succ n ih =>
    intro w x1 x2 x3 h
    rw [fX4_takeWhole_28.eq_2] at h
    refine r_iload_n 29 hk dX4_takeWhole_28 rfl 3 rfl rfl ?_
    refine r_aload_n 30 hk dX4_takeWhole_29 rfl 0 rfl rfl ?_
    refine r_get 33 hk dX4_takeWhole_30 rfl ff_RX4_38 (mk_4_0 (nx_4 hN (j := 0) (by decide))) (gv_4_6 _ _ _) ?_
    refine r_icmp_ge 70 36 hk dX4_takeWhole_33 rfl rfl (fun c7 => ?_) (fun c7 => ?_)
    · have h := if_t c7 h
      refine r_sub [0, 1, 2] rfl ?_
      exact sX4_takeWhole_70 hk hR hn hN _ _ _ h
    · have h := if_f c7 h
      refine r_iload_n 37 hk dX4_takeWhole_36 rfl 3 rfl rfl ?_
      refine r_aload_n 38 hk dX4_takeWhole_37 rfl 0 rfl rfl ?_
      refine r_get 41 hk dX4_takeWhole_38 rfl ff_RX4_25 (mk_4_0 (nx_4 hN (j := 0) (by decide))) (gv_4_1 _ _ _) ?_
      refine r_icmp_ge 70 44 hk dX4_takeWhole_41 rfl rfl (fun c8 => ?_) (fun c8 => ?_)
      · have h := if_t c8 h
        refine r_sub [0, 1, 2] rfl ?_
        exact sX4_takeWhole_70 hk hR hn hN _ _ _ h
      · have h := if_f c8 h
        refine r_aload_n 45 hk dX4_takeWhole_44 rfl 0 rfl rfl ?_
        refine r_bipush 47 hk dX4_takeWhole_45 rfl cb_10 ?_
        refine r_aload_n 48 hk dX4_takeWhole_47 rfl 0 rfl rfl ?_
        refine r_get 51 hk dX4_takeWhole_48 rfl ff_RX4_130 (mk_4_0 (nx_4 hN (j := 0) (by decide))) (gv_4_7 _ _ _) ?_
        refine r_imul 52 hk dX4_takeWhole_51 rfl ?_
        refine r_aload_n 53 hk dX4_takeWhole_52 rfl 0 rfl rfl ?_
        refine r_iload_n 54 hk dX4_takeWhole_53 rfl 3 rfl rfl ?_
        obtain ⟨r9, w10, ew10, h⟩ := ob_e h
        refine r_cVi 57 (As := [.int x3]) (rest := [.int ((10 * ((w 4 0).1 7))), .ref (al 4 0 0)]) hk (kX4_byteAt hN ew10) cf_RX4_165 mi_X4_byteAt ⟨TX4, 10, rfl⟩ dX4_takeWhole_54 rfl (Nat.le_of_ble_eq_true rfl) (Nat.le_of_ble_eq_true rfl) (mk_4_0 (nx_4 hN (j := 0) (by decide))) rfl rfl (Nat.le_of_ble_eq_true rfl) ?_
        refine r_iadd 58 hk dX4_takeWhole_57 rfl ?_
        refine r_bipush 60 hk dX4_takeWhole_58 rfl cb_48 ?_
        refine r_isub 61 hk dX4_takeWhole_60 rfl ?_
        obtain ⟨w11, ew11, h⟩ := lw_e h
        refine r_putI 64 w11 hk dX4_takeWhole_61 rfl ff_RX4_130 fi_4_7 (mk_4_0 (nx_4 hN (j := 0) (by decide))) ew11 ?_
        obtain ⟨x3_12, ex3_12, h⟩ := lw_e h
        refine r_iinc 67 [(3, .int x3_12), (0, .ref (al 4 0 0)), (1, .int x1), (2, .int x2)] hk (j := 3) dX4_takeWhole_64 rfl hn (by decide) rfl ex3_12 rfl ?_
        refine r_goto 28 hk (x := 0) dX4_takeWhole_67 rfl ?_
        refine r_sub [1, 2, 3, 0] rfl ?_
        exact ih _ _ _ _ h
set_option maxRecDepth 100000 in
set_option maxHeartbeats 4000000 in
theorem kX4_takeWhole {l : Launch} {G : Gx} {al : Al} {w : Wd} {x1 : Int32} {x2 : Int32} {r : Int32} {wz : Wd} (hN : NX G) (h : fX4_takeWhole w x1 x2 = some (r, wz)) : MC l G yX4_takeWhole cX4_takeWhole 4 (some (.boolean)) 3 66 al w [.ref (al 4 0 0), .int x1, .int x2] (some (.int r)) wz := by
  refine mc_of [(0, .ref (al 4 0 0)), (1, .int x1), (2, .int x2)] (by decide) (Nat.le_of_ble_eq_true rfl) rfl ?_
  intro K hk hR hn hl hG
  subst hl; subst hG
  have hk : VH K RX4 cX4_takeWhole 3 66 := hk
  rw [fX4_takeWhole.eq_1] at h
  refine r_aload_n 1 hk dX4_takeWhole_0 rfl 0 rfl rfl ?_
  refine r_get 4 hk dX4_takeWhole_1 rfl ff_RX4_119 (mk_4_0 (nx_4 hN (j := 0) (by decide))) (gv_4_4 _ _ _) ?_
  refine r_iconst 5 hk dX4_takeWhole_4 rfl ci_2 ?_
  refine r_icmp_eq 18 8 hk dX4_takeWhole_5 rfl rfl (fun c1 => ?_) (fun c1 => ?_)
  · have h := if_t c1 h
    refine r_aload_n 19 hk dX4_takeWhole_18 rfl 0 rfl rfl ?_
    refine r_iconst 20 hk dX4_takeWhole_19 rfl ci_0 ?_
    obtain ⟨w2, ew2, h⟩ := lw_e h
    refine r_putI 23 w2 hk dX4_takeWhole_20 rfl ff_RX4_130 fi_4_7 (mk_4_0 (nx_4 hN (j := 0) (by decide))) ew2 ?_
    refine r_aload_n 24 hk dX4_takeWhole_23 rfl 0 rfl rfl ?_
    refine r_get 27 hk dX4_takeWhole_24 rfl ff_RX4_116 (mk_4_0 (nx_4 hN (j := 0) (by decide))) (gv_4_5 _ _ _) ?_
    obtain ⟨x3_3, ex3_3, h⟩ := lw_e h
    refine r_istore_n 28 [(3, .int x3_3), (0, .ref (al 4 0 0)), (1, .int x1), (2, .int x2)] hk dX4_takeWhole_27 rfl rfl hn (by decide) ex3_3 rfl ?_
    refine r_sub [1, 2, 3, 0] rfl ?_
    exact sX4_takeWhole_28 hk hR hn hN _ _ _ _ _ h
  · have h := if_f c1 h
    refine r_aload_n 9 hk dX4_takeWhole_8 rfl 0 rfl rfl ?_
    refine r_iconst 10 hk dX4_takeWhole_9 rfl ci_1 ?_
    refine r_aload_n 11 hk dX4_takeWhole_10 rfl 0 rfl rfl ?_
    refine r_get 14 hk dX4_takeWhole_11 rfl ff_RX4_116 (mk_4_0 (nx_4 hN (j := 0) (by decide))) (gv_4_5 _ _ _) ?_
    obtain ⟨r4, w5, ew5, h⟩ := ob_e h
    refine r_cVi 17 (As := [.int 1, .int (((w 4 0).1 5))]) (rest := []) hk (kX4_stopAt hN ew5) cf_RX4_66 mi_X4_stopAt ⟨TX4, 10, rfl⟩ dX4_takeWhole_14 rfl (Nat.le_of_ble_eq_true rfl) (Nat.le_of_ble_eq_true rfl) (mk_4_0 (nx_4 hN (j := 0) (by decide))) rfl rfl (Nat.le_of_ble_eq_true rfl) ?_
    obtain ⟨b6, h⟩ := ck_e h
    exact r_zret hk hR dX4_takeWhole_17 b6 h
def fX4_takeDisk (w : Wd) : Option (Int32 × Wd) :=
  if (((w 4 0).1 3) : Int32) = 0 then
    lw (sI w 4 0 3 (1)) fun w2 =>
    ob (fX4_moveOn w2 ) fun _ w4 =>
    ob (fX4_takeWord 6 w4 ) fun r5 w6 =>
    if (r5 : Int32) = 0 then
      some (0, w6)
    else
      ob (fX4_takeWhole w6 (1) (3)) fun r8 w9 =>
      if (r8 : Int32) = 0 then
        some (0, w9)
      else
        ckp ((w9 4 0).2.2.1 2) 2 fun q11 =>
        lw (sI w9 5 q11 5 (((w9 4 0).1 7))) fun w12 =>
        ob (fX4_takeWord 7 w12 ) fun r13 w14 =>
        if (r13 : Int32) = 0 then
          some (0, w14)
        else
          ob (fX4_takeWhole w14 (2) (24)) fun r16 w17 =>
          if (r16 : Int32) = 0 then
            some (0, w17)
          else
            ckp ((w17 4 0).2.2.1 2) 2 fun q19 =>
            lw (sI w17 5 q19 6 (((w17 4 0).1 7))) fun w20 =>
            ckp ((w20 4 0).2.2.1 2) 2 fun q21 =>
            ob (fX4_isWord 8 w20 ) fun r22 w23 =>
            ck (isb (r22)) <|
            lw (sI w23 5 q21 7 (r22)) fun w24 =>
            ckp ((w24 4 0).2.2.1 2) 2 fun q26 =>
            if (((w24 5 q26).1 7) : Int32) = 0 then
              ob (fX4_takeWord 9 w24 ) fun r28 w29 =>
              ck (isb (r28)) <|
              some (r28, w29)
            else
              ob (fX4_takeWord 8 w24 ) fun r31 w32 =>
              ck (isb (r31)) <|
              some (r31, w32)
  else
    ob (fX4_stopAt w (3) (((w 4 0).1 5))) fun r34 w35 =>
    ck (isb (r34)) <|
    some (r34, w35)
set_option maxRecDepth 100000 in
set_option maxHeartbeats 4000000 in
theorem kX4_takeDisk {l : Launch} {G : Gx} {al : Al} {w : Wd} {r : Int32} {wz : Wd} (hN : NX G) (h : fX4_takeDisk w = some (r, wz)) : MC l G yX4_takeDisk cX4_takeDisk 1 (some (.boolean)) 6 143 al w [.ref (al 4 0 0)] (some (.int r)) wz := by
  refine mc_of [(0, .ref (al 4 0 0))] (by decide) (Nat.le_of_ble_eq_true rfl) rfl ?_
  intro K hk hR hn hl hG
  subst hl; subst hG
  have hk : VH K RX4 cX4_takeDisk 6 143 := hk
  rw [fX4_takeDisk.eq_1] at h
  refine r_aload_n 1 hk dX4_takeDisk_0 rfl 0 rfl rfl ?_
  refine r_get 4 hk dX4_takeDisk_1 rfl ff_RX4_34 (mk_4_0 (nx_4 hN (j := 0) (by decide))) (gv_4_3 _ _ _) ?_
  refine r_if_eq 17 7 hk dX4_takeDisk_4 rfl rfl (fun c1 => ?_) (fun c1 => ?_)
  · have h := if_t c1 h
    refine r_aload_n 18 hk dX4_takeDisk_17 rfl 0 rfl rfl ?_
    refine r_iconst 19 hk dX4_takeDisk_18 rfl ci_1 ?_
    obtain ⟨w2, ew2, h⟩ := lw_e h
    refine r_putZ 22 w2 hk dX4_takeDisk_19 rfl ff_RX4_34 fi_4_3 (by decide) (mk_4_0 (nx_4 hN (j := 0) (by decide))) ew2 ?_
    refine r_aload_n 23 hk dX4_takeDisk_22 rfl 0 rfl rfl ?_
    obtain ⟨r3, w4, ew4, h⟩ := ob_e h
    refine r_cVv 26 (As := []) (rest := []) hk (kX4_moveOn hN ew4) cf_RX4_47 mi_X4_moveOn ⟨TX4, 10, rfl⟩ dX4_takeDisk_23 rfl (Nat.le_of_ble_eq_true rfl) (Nat.le_of_ble_eq_true rfl) (mk_4_0 (nx_4 hN (j := 0) (by decide))) rfl rfl (Nat.le_of_ble_eq_true rfl) ?_
    refine r_aload_n 27 hk dX4_takeDisk_26 rfl 0 rfl rfl ?_
    refine r_ldcS4 29 hk dX4_takeDisk_27 rfl (i := 6) (by decide) rfl ?_
    obtain ⟨r5, w6, ew6, h⟩ := ob_e h
    refine r_cVi 32 (As := [.ref ((kG K).2.2.1 6)]) (rest := []) hk (kX4_takeWord hN (by decide) ew6) cf_RX4_124 mi_X4_takeWord ⟨TX4, 10, rfl⟩ dX4_takeDisk_29 rfl (Nat.le_of_ble_eq_true rfl) (Nat.le_of_ble_eq_true rfl) (mk_4_0 (nx_4 hN (j := 0) (by decide))) rfl rfl (Nat.le_of_ble_eq_true rfl) ?_
    refine r_if_eq 44 35 hk dX4_takeDisk_32 rfl rfl (fun c7 => ?_) (fun c7 => ?_)
    · have h := if_t c7 h
      refine r_iconst 45 hk dX4_takeDisk_44 rfl ci_0 ?_
      exact r_zret hk hR dX4_takeDisk_45 (by decide) h
    · have h := if_f c7 h
      refine r_aload_n 36 hk dX4_takeDisk_35 rfl 0 rfl rfl ?_
      refine r_iconst 37 hk dX4_takeDisk_36 rfl ci_1 ?_
      refine r_iconst 38 hk dX4_takeDisk_37 rfl ci_3 ?_
      obtain ⟨r8, w9, ew9, h⟩ := ob_e h
      refine r_cVi 41 (As := [.int 1, .int 3]) (rest := []) hk (kX4_takeWhole hN ew9) cf_RX4_127 mi_X4_takeWhole ⟨TX4, 10, rfl⟩ dX4_takeDisk_38 rfl (Nat.le_of_ble_eq_true rfl) (Nat.le_of_ble_eq_true rfl) (mk_4_0 (nx_4 hN (j := 0) (by decide))) rfl rfl (Nat.le_of_ble_eq_true rfl) ?_
      refine r_if_ne 46 44 hk dX4_takeDisk_41 rfl rfl (fun c10 => ?_) (fun c10 => ?_)
      · have h := if_f c10 h
        refine r_aload_n 47 hk dX4_takeDisk_46 rfl 0 rfl rfl ?_
        refine r_get 50 hk dX4_takeDisk_47 rfl ff_RX4_15 (mk_4_0 (nx_4 hN (j := 0) (by decide))) (gv_4_2 _ _ _) ?_
        obtain ⟨q11, eq11, lq11, h⟩ := ckp_e h
        refine r_pv1 eq11 ?_
        refine r_get 53 hk dX4_takeDisk_50 rfl ff_RX4_57 (mk_8_0 (nx_8 hN lq11)) (gv_8_0 _ _ _) ?_
        refine r_aload_n 54 hk dX4_takeDisk_53 rfl 0 rfl rfl ?_
        refine r_get 57 hk dX4_takeDisk_54 rfl ff_RX4_130 (mk_4_0 (nx_4 hN (j := 0) (by decide))) (gv_4_7 _ _ _) ?_
        obtain ⟨w12, ew12, h⟩ := lw_e h
        refine r_putI 60 w12 hk dX4_takeDisk_57 rfl ff_RX4_133 fi_5_5 (mk_5_0 (nx_sh hN (nx_8 hN lq11))) ew12 ?_
        refine r_aload_n 61 hk dX4_takeDisk_60 rfl 0 rfl rfl ?_
        refine r_ldcS4 63 hk dX4_takeDisk_61 rfl (i := 7) (by decide) rfl ?_
        obtain ⟨r13, w14, ew14, h⟩ := ob_e h
        refine r_cVi 66 (As := [.ref ((kG K).2.2.1 7)]) (rest := []) hk (kX4_takeWord hN (by decide) ew14) cf_RX4_124 mi_X4_takeWord ⟨TX4, 10, rfl⟩ dX4_takeDisk_63 rfl (Nat.le_of_ble_eq_true rfl) (Nat.le_of_ble_eq_true rfl) (mk_4_0 (nx_4 hN (j := 0) (by decide))) rfl rfl (Nat.le_of_ble_eq_true rfl) ?_
        refine r_if_eq 79 69 hk dX4_takeDisk_66 rfl rfl (fun c15 => ?_) (fun c15 => ?_)
        · have h := if_t c15 h
          refine r_iconst 80 hk dX4_takeDisk_79 rfl ci_0 ?_
          exact r_zret hk hR dX4_takeDisk_80 (by decide) h
        · have h := if_f c15 h
          refine r_aload_n 70 hk dX4_takeDisk_69 rfl 0 rfl rfl ?_
          refine r_iconst 71 hk dX4_takeDisk_70 rfl ci_2 ?_
          refine r_bipush 73 hk dX4_takeDisk_71 rfl cb_24 ?_
          obtain ⟨r16, w17, ew17, h⟩ := ob_e h
          refine r_cVi 76 (As := [.int 2, .int 24]) (rest := []) hk (kX4_takeWhole hN ew17) cf_RX4_127 mi_X4_takeWhole ⟨TX4, 10, rfl⟩ dX4_takeDisk_73 rfl (Nat.le_of_ble_eq_true rfl) (Nat.le_of_ble_eq_true rfl) (mk_4_0 (nx_4 hN (j := 0) (by decide))) rfl rfl (Nat.le_of_ble_eq_true rfl) ?_
          refine r_if_ne 81 79 hk dX4_takeDisk_76 rfl rfl (fun c18 => ?_) (fun c18 => ?_)
          · have h := if_f c18 h
            refine r_aload_n 82 hk dX4_takeDisk_81 rfl 0 rfl rfl ?_
            refine r_get 85 hk dX4_takeDisk_82 rfl ff_RX4_15 (mk_4_0 (nx_4 hN (j := 0) (by decide))) (gv_4_2 _ _ _) ?_
            obtain ⟨q19, eq19, lq19, h⟩ := ckp_e h
            refine r_pv1 eq19 ?_
            refine r_get 88 hk dX4_takeDisk_85 rfl ff_RX4_57 (mk_8_0 (nx_8 hN lq19)) (gv_8_0 _ _ _) ?_
            refine r_aload_n 89 hk dX4_takeDisk_88 rfl 0 rfl rfl ?_
            refine r_get 92 hk dX4_takeDisk_89 rfl ff_RX4_130 (mk_4_0 (nx_4 hN (j := 0) (by decide))) (gv_4_7 _ _ _) ?_
            obtain ⟨w20, ew20, h⟩ := lw_e h
            refine r_putI 95 w20 hk dX4_takeDisk_92 rfl ff_RX4_137 fi_5_6 (mk_5_0 (nx_sh hN (nx_8 hN lq19))) ew20 ?_
            refine r_aload_n 96 hk dX4_takeDisk_95 rfl 0 rfl rfl ?_
            refine r_get 99 hk dX4_takeDisk_96 rfl ff_RX4_15 (mk_4_0 (nx_4 hN (j := 0) (by decide))) (gv_4_2 _ _ _) ?_
            obtain ⟨q21, eq21, lq21, h⟩ := ckp_e h
            refine r_pv1 eq21 ?_
            refine r_get 102 hk dX4_takeDisk_99 rfl ff_RX4_57 (mk_8_0 (nx_8 hN lq21)) (gv_8_0 _ _ _) ?_
            refine r_aload_n 103 hk dX4_takeDisk_102 rfl 0 rfl rfl ?_
            refine r_ldcS4 105 hk dX4_takeDisk_103 rfl (i := 8) (by decide) rfl ?_
            obtain ⟨r22, w23, ew23, h⟩ := ob_e h
            refine r_cVi 108 (As := [.ref ((kG K).2.2.1 8)]) (rest := [.ref (al 5 q21 0)]) hk (kX4_isWord hN (by decide) ew23) cf_RX4_75 mi_X4_isWord ⟨TX4, 10, rfl⟩ dX4_takeDisk_105 rfl (Nat.le_of_ble_eq_true rfl) (Nat.le_of_ble_eq_true rfl) (mk_4_0 (nx_4 hN (j := 0) (by decide))) rfl rfl (Nat.le_of_ble_eq_true rfl) ?_
            obtain ⟨b25, h⟩ := ck_e h
            obtain ⟨w24, ew24, h⟩ := lw_e h
            refine r_putZ 111 w24 hk dX4_takeDisk_108 rfl ff_RX4_142 fi_5_7 b25 (mk_5_0 (nx_sh hN (nx_8 hN lq21))) ew24 ?_
            refine r_aload_n 112 hk dX4_takeDisk_111 rfl 0 rfl rfl ?_
            refine r_get 115 hk dX4_takeDisk_112 rfl ff_RX4_15 (mk_4_0 (nx_4 hN (j := 0) (by decide))) (gv_4_2 _ _ _) ?_
            obtain ⟨q26, eq26, lq26, h⟩ := ckp_e h
            refine r_pv1 eq26 ?_
            refine r_get 118 hk dX4_takeDisk_115 rfl ff_RX4_57 (mk_8_0 (nx_8 hN lq26)) (gv_8_0 _ _ _) ?_
            refine r_get 121 hk dX4_takeDisk_118 rfl ff_RX4_142 (mk_5_0 (nx_sh hN (nx_8 hN lq26))) (gv_5_7 _ _ _) ?_
            refine r_if_eq 133 124 hk dX4_takeDisk_121 rfl rfl (fun c27 => ?_) (fun c27 => ?_)
            · have h := if_t c27 h
              refine r_aload_n 134 hk dX4_takeDisk_133 rfl 0 rfl rfl ?_
              refine r_ldcS4 136 hk dX4_takeDisk_134 rfl (i := 9) (by decide) rfl ?_
              obtain ⟨r28, w29, ew29, h⟩ := ob_e h
              refine r_cVi 139 (As := [.ref ((kG K).2.2.1 9)]) (rest := []) hk (kX4_takeWord hN (by decide) ew29) cf_RX4_124 mi_X4_takeWord ⟨TX4, 10, rfl⟩ dX4_takeDisk_136 rfl (Nat.le_of_ble_eq_true rfl) (Nat.le_of_ble_eq_true rfl) (mk_4_0 (nx_4 hN (j := 0) (by decide))) rfl rfl (Nat.le_of_ble_eq_true rfl) ?_
              obtain ⟨b30, h⟩ := ck_e h
              exact r_zret hk hR dX4_takeDisk_139 b30 h
            · have h := if_f c27 h
              refine r_aload_n 125 hk dX4_takeDisk_124 rfl 0 rfl rfl ?_
              refine r_ldcS4 127 hk dX4_takeDisk_125 rfl (i := 8) (by decide) rfl ?_
              obtain ⟨r31, w32, ew32, h⟩ := ob_e h
              refine r_cVi 130 (As := [.ref ((kG K).2.2.1 8)]) (rest := []) hk (kX4_takeWord hN (by decide) ew32) cf_RX4_124 mi_X4_takeWord ⟨TX4, 10, rfl⟩ dX4_takeDisk_127 rfl (Nat.le_of_ble_eq_true rfl) (Nat.le_of_ble_eq_true rfl) (mk_4_0 (nx_4 hN (j := 0) (by decide))) rfl rfl (Nat.le_of_ble_eq_true rfl) ?_
              refine r_goto 139 hk (x := 0) dX4_takeDisk_130 rfl ?_
              obtain ⟨b33, h⟩ := ck_e h
              exact r_zret hk hR dX4_takeDisk_139 b33 h
          · have h := if_t c18 h
            refine r_iconst 80 hk dX4_takeDisk_79 rfl ci_0 ?_
            exact r_zret hk hR dX4_takeDisk_80 (by decide) h
      · have h := if_t c10 h
        refine r_iconst 45 hk dX4_takeDisk_44 rfl ci_0 ?_
        exact r_zret hk hR dX4_takeDisk_45 (by decide) h
  · have h := if_f c1 h
    refine r_aload_n 8 hk dX4_takeDisk_7 rfl 0 rfl rfl ?_
    refine r_iconst 9 hk dX4_takeDisk_8 rfl ci_3 ?_
    refine r_aload_n 10 hk dX4_takeDisk_9 rfl 0 rfl rfl ?_
    refine r_get 13 hk dX4_takeDisk_10 rfl ff_RX4_116 (mk_4_0 (nx_4 hN (j := 0) (by decide))) (gv_4_5 _ _ _) ?_
    obtain ⟨r34, w35, ew35, h⟩ := ob_e h
    refine r_cVi 16 (As := [.int 3, .int (((w 4 0).1 5))]) (rest := []) hk (kX4_stopAt hN ew35) cf_RX4_66 mi_X4_stopAt ⟨TX4, 10, rfl⟩ dX4_takeDisk_13 rfl (Nat.le_of_ble_eq_true rfl) (Nat.le_of_ble_eq_true rfl) (mk_4_0 (nx_4 hN (j := 0) (by decide))) rfl rfl (Nat.le_of_ble_eq_true rfl) ?_
    obtain ⟨b36, h⟩ := ck_e h
    exact r_zret hk hR dX4_takeDisk_16 b36 h
def fX4_takeFirstWord (w : Wd) (x1 : Int32) : Option (Int32 × Wd) :=
  if (((w 4 0).1 3) : Int32) = 0 then
    ob (fX4_stopAt w (6) (((w 4 0).1 5))) fun r8 w9 =>
    ck (isb (r8)) <|
    some (r8, w9)
  else
    if (x1 : Int32) = 0 then
      ob (fX4_stopAt w (5) (((w 4 0).1 5))) fun r5 w6 =>
      ck (isb (r5)) <|
      some (r5, w6)
    else
      ob (fX4_moveOn w ) fun _ w4 =>
      some (1, w4)
set_option maxRecDepth 100000 in
set_option maxHeartbeats 4000000 in
theorem kX4_takeFirstWord {l : Launch} {G : Gx} {al : Al} {w : Wd} {x1 : Int32} {r : Int32} {wz : Wd} (hN : NX G) (h : fX4_takeFirstWord w x1 = some (r, wz)) : MC l G yX4_takeFirstWord cX4_takeFirstWord 2 (some (.boolean)) 3 66 al w [.ref (al 4 0 0), .int x1] (some (.int r)) wz := by
  refine mc_of [(0, .ref (al 4 0 0)), (1, .int x1)] (by decide) (Nat.le_of_ble_eq_true rfl) rfl ?_
  intro K hk hR hn hl hG
  subst hl; subst hG
  have hk : VH K RX4 cX4_takeFirstWord 3 66 := hk
  rw [fX4_takeFirstWord.eq_1] at h
  refine r_aload_n 1 hk dX4_takeFirstWord_0 rfl 0 rfl rfl ?_
  refine r_get 4 hk dX4_takeFirstWord_1 rfl ff_RX4_34 (mk_4_0 (nx_4 hN (j := 0) (by decide))) (gv_4_3 _ _ _) ?_
  refine r_if_ne 18 7 hk dX4_takeFirstWord_4 rfl rfl (fun c1 => ?_) (fun c1 => ?_)
  · have h := if_f c1 h
    refine r_iload_n 19 hk dX4_takeFirstWord_18 rfl 1 rfl rfl ?_
    refine r_if_ne 32 22 hk dX4_takeFirstWord_19 rfl rfl (fun c2 => ?_) (fun c2 => ?_)
    · have h := if_f c2 h
      refine r_aload_n 33 hk dX4_takeFirstWord_32 rfl 0 rfl rfl ?_
      obtain ⟨r3, w4, ew4, h⟩ := ob_e h
      refine r_cVv 36 (As := []) (rest := []) hk (kX4_moveOn hN ew4) cf_RX4_47 mi_X4_moveOn ⟨TX4, 10, rfl⟩ dX4_takeFirstWord_33 rfl (Nat.le_of_ble_eq_true rfl) (Nat.le_of_ble_eq_true rfl) (mk_4_0 (nx_4 hN (j := 0) (by decide))) rfl rfl (Nat.le_of_ble_eq_true rfl) ?_
      refine r_iconst 37 hk dX4_takeFirstWord_36 rfl ci_1 ?_
      exact r_zret hk hR dX4_takeFirstWord_37 (by decide) h
    · have h := if_t c2 h
      refine r_aload_n 23 hk dX4_takeFirstWord_22 rfl 0 rfl rfl ?_
      refine r_iconst 24 hk dX4_takeFirstWord_23 rfl ci_5 ?_
      refine r_aload_n 25 hk dX4_takeFirstWord_24 rfl 0 rfl rfl ?_
      refine r_get 28 hk dX4_takeFirstWord_25 rfl ff_RX4_116 (mk_4_0 (nx_4 hN (j := 0) (by decide))) (gv_4_5 _ _ _) ?_
      obtain ⟨r5, w6, ew6, h⟩ := ob_e h
      refine r_cVi 31 (As := [.int 5, .int (((w 4 0).1 5))]) (rest := []) hk (kX4_stopAt hN ew6) cf_RX4_66 mi_X4_stopAt ⟨TX4, 10, rfl⟩ dX4_takeFirstWord_28 rfl (Nat.le_of_ble_eq_true rfl) (Nat.le_of_ble_eq_true rfl) (mk_4_0 (nx_4 hN (j := 0) (by decide))) rfl rfl (Nat.le_of_ble_eq_true rfl) ?_
      obtain ⟨b7, h⟩ := ck_e h
      exact r_zret hk hR dX4_takeFirstWord_31 b7 h
  · have h := if_t c1 h
    refine r_aload_n 8 hk dX4_takeFirstWord_7 rfl 0 rfl rfl ?_
    refine r_bipush 10 hk dX4_takeFirstWord_8 rfl cb_6 ?_
    refine r_aload_n 11 hk dX4_takeFirstWord_10 rfl 0 rfl rfl ?_
    refine r_get 14 hk dX4_takeFirstWord_11 rfl ff_RX4_116 (mk_4_0 (nx_4 hN (j := 0) (by decide))) (gv_4_5 _ _ _) ?_
    obtain ⟨r8, w9, ew9, h⟩ := ob_e h
    refine r_cVi 17 (As := [.int 6, .int (((w 4 0).1 5))]) (rest := []) hk (kX4_stopAt hN ew9) cf_RX4_66 mi_X4_stopAt ⟨TX4, 10, rfl⟩ dX4_takeFirstWord_14 rfl (Nat.le_of_ble_eq_true rfl) (Nat.le_of_ble_eq_true rfl) (mk_4_0 (nx_4 hN (j := 0) (by decide))) rfl rfl (Nat.le_of_ble_eq_true rfl) ?_
    obtain ⟨b10, h⟩ := ck_e h
    exact r_zret hk hR dX4_takeFirstWord_17 b10 h
def fX5_addBand_99 (j : Nat) (w : Wd) (x1 : Int32) : Option (Unit × Wd) :=
    lw (sI w 5 j 4 ((((w 5 j).1 4) + x1))) fun w15 =>
    lw (sI w15 5 j 3 ((((w15 5 j).1 3) + 1))) fun w16 =>
    some ((), w16)
def fX5_addBand_60 (j : Nat) : Nat → Wd → Int32 → Int32 → Option (Unit × Wd)
  | 0, _, _, _ => none
  | n + 1, w, x1, x2 =>
    if (x2 : Int32) < 0 then
      fX5_addBand_99 j w (x1)
    else
      if ((((w 5 j).1 4) + x1) : Int32) ≤ x2 then
        fX5_addBand_99 j w (x1)
      else
        if ((nI 48) : Int32) ≤ x2 then
          fX5_addBand_99 j w (x1)
        else
          ck (inb (x2) 48) <|
          lw (sA w 5 j 2 (x2 : Int32).toNatClampNeg (((w 5 j).1 3))) fun w13 =>
          lw (x2 + 1) fun x2_14 =>
          fX5_addBand_60 j n w13 (x1) (x2_14)
def fX5_addBand (j : Nat) (w : Wd) (x1 : Int32) : Option (Unit × Wd) :=
  if (((w 5 j).1 3) : Int32) < 0 then
    some ((), w)
  else
    if ((nI 24) : Int32) ≤ ((w 5 j).1 3) then
      some ((), w)
    else
      if (((w 5 j).1 3) : Int32) < (nI 24) then
        ck (inb (((w 5 j).1 3)) 24) <|
        lw (sA w 5 j 0 (((w 5 j).1 3) : Int32).toNatClampNeg (((w 5 j).1 4))) fun w5 =>
        ck (inb (((w5 5 j).1 3)) 24) <|
        lw (sA w5 5 j 1 (((w5 5 j).1 3) : Int32).toNatClampNeg (x1)) fun w7 =>
        lw (((w7 5 j).1 4)) fun x2_8 =>
        fX5_addBand_60 j fuel0 w7 (x1) (x2_8)
      else
        some ((), w)
set_option maxRecDepth 100000 in
set_option maxHeartbeats 4000000 in
theorem sX5_addBand_99 {K : VC} {al : Al} {r : Unit} {wz : Wd} {j : Nat} (hk : VH K RX5 cX5_addBand 0 0) (hR : VR K al none none wz) (hn : kn K = 3) (hN : NX (kG K)) (hj : j < gN (kG K) 5) (w : Wd) (x1 : Int32) (h : fX5_addBand_99 j w x1 = some (r, wz)) : V K al w 99 [(0, .ref (al 5 j 0)), (1, .int x1)] [] := by
  rw [fX5_addBand_99.eq_1] at h
  refine r_aload_n 100 hk dX5_addBand_99 rfl 0 rfl rfl ?_
  refine r_dup 101 hk dX5_addBand_100 rfl rfl ?_
  refine r_get 104 hk dX5_addBand_101 rfl ff_RX5_25 (mk_5_0 hj) (gv_5_4 _ _ _) ?_
  refine r_iload_n 105 hk dX5_addBand_104 rfl 1 rfl rfl ?_
  refine r_iadd 106 hk dX5_addBand_105 rfl ?_
  obtain ⟨w15, ew15, h⟩ := lw_e h
  refine r_putI 109 w15 hk dX5_addBand_106 rfl ff_RX5_25 fi_5_4 (mk_5_0 hj) ew15 ?_
  refine r_aload_n 110 hk dX5_addBand_109 rfl 0 rfl rfl ?_
  refine r_dup 111 hk dX5_addBand_110 rfl rfl ?_
  refine r_get 114 hk dX5_addBand_111 rfl ff_RX5_21 (mk_5_0 hj) (gv_5_3 _ _ _) ?_
  refine r_iconst 115 hk dX5_addBand_114 rfl ci_1 ?_
  refine r_iadd 116 hk dX5_addBand_115 rfl ?_
  obtain ⟨w16, ew16, h⟩ := lw_e h
  refine r_putI 119 w16 hk dX5_addBand_116 rfl ff_RX5_21 fi_5_3 (mk_5_0 hj) ew16 ?_
  exact r_vret hk hR dX5_addBand_119 h
set_option maxRecDepth 100000 in
set_option maxHeartbeats 4000000 in
theorem sX5_addBand_60 {K : VC} {al : Al} {r : Unit} {wz : Wd} {j : Nat} (hk : VH K RX5 cX5_addBand 0 0) (hR : VR K al none none wz) (hn : kn K = 3) (hN : NX (kG K)) (hj : j < gN (kG K) 5) : ∀ (n : Nat) (w : Wd) (x1 : Int32) (x2 : Int32), fX5_addBand_60 j n w x1 x2 = some (r, wz) → V K al w 60 [(0, .ref (al 5 j 0)), (1, .int x1), (2, .int x2)] [] := by
  intro n
  induction n with
  | zero => intro w x1 x2 h; cases h
  | succ n ih =>
    intro w x1 x2 h
    rw [fX5_addBand_60.eq_2] at h
    refine r_iload_n 61 hk dX5_addBand_60 rfl 2 rfl rfl ?_
    refine r_if_lt 99 64 hk dX5_addBand_61 rfl rfl (fun c9 => ?_) (fun c9 => ?_)
    · have h := if_t c9 h
      refine r_sub [0, 1] rfl ?_
      exact sX5_addBand_99 hk hR hn hN hj _ _ h
    · have h := if_f c9 h
      refine r_iload_n 65 hk dX5_addBand_64 rfl 2 rfl rfl ?_
      refine r_aload_n 66 hk dX5_addBand_65 rfl 0 rfl rfl ?_
      refine r_get 69 hk dX5_addBand_66 rfl ff_RX5_25 (mk_5_0 hj) (gv_5_4 _ _ _) ?_
      refine r_iload_n 70 hk dX5_addBand_69 rfl 1 rfl rfl ?_
      refine r_iadd 71 hk dX5_addBand_70 rfl ?_
      refine r_icmp_ge 99 74 hk dX5_addBand_71 rfl rfl (fun c10 => ?_) (fun c10 => ?_)
      · have h := if_t c10 h
        refine r_sub [0, 1] rfl ?_
        exact sX5_addBand_99 hk hR hn hN hj _ _ h
      · have h := if_f c10 h
        refine r_iload_n 75 hk dX5_addBand_74 rfl 2 rfl rfl ?_
        refine r_aload_n 76 hk dX5_addBand_75 rfl 0 rfl rfl ?_
        refine r_get 79 hk dX5_addBand_76 rfl ff_RX5_18 (mk_5_0 hj) (gv_5_2 _ _ _) ?_
        refine r_alen 80 hk dX5_addBand_79 rfl (mk_5_3 hj) rfl ?_
        refine r_icmp_ge 99 83 hk dX5_addBand_80 rfl rfl (fun c11 => ?_) (fun c11 => ?_)
        · have h := if_t c11 h
          refine r_sub [0, 1] rfl ?_
          exact sX5_addBand_99 hk hR hn hN hj _ _ h
        · have h := if_f c11 h
          refine r_aload_n 84 hk dX5_addBand_83 rfl 0 rfl rfl ?_
          refine r_get 87 hk dX5_addBand_84 rfl ff_RX5_18 (mk_5_0 hj) (gv_5_2 _ _ _) ?_
          refine r_iload_n 88 hk dX5_addBand_87 rfl 2 rfl rfl ?_
          refine r_aload_n 89 hk dX5_addBand_88 rfl 0 rfl rfl ?_
          refine r_get 92 hk dX5_addBand_89 rfl ff_RX5_21 (mk_5_0 hj) (gv_5_3 _ _ _) ?_
          obtain ⟨b12, h⟩ := ck_e h
          obtain ⟨w13, ew13, h⟩ := lw_e h
          refine r_iast 93 w13 hk dX5_addBand_92 rfl rfl (mk_5_3 hj) rfl b12 ew13 ?_
          obtain ⟨x2_14, ex2_14, h⟩ := lw_e h
          refine r_iinc 96 [(2, .int x2_14), (0, .ref (al 5 j 0)), (1, .int x1)] hk (j := 2) dX5_addBand_93 rfl hn (by decide) rfl ex2_14 rfl ?_
          refine r_goto 60 hk (x := 0) dX5_addBand_96 rfl ?_
          refine r_sub [1, 2, 0] rfl ?_
          exact ih _ _ _ h
set_option maxRecDepth 100000 in
set_option maxHeartbeats 4000000 in
theorem kX5_addBand {l : Launch} {G : Gx} {al : Al} {j : Nat} {w : Wd} {x1 : Int32} {r : Unit} {wz : Wd} (hN : NX G) (hj : j < gN G 5) (h : fX5_addBand j w x1 = some (r, wz)) : MC l G yX5_addBand cX5_addBand 3 none 0 0 al w [.ref (al 5 j 0), .int x1] none wz := by
  refine mc_of [(0, .ref (al 5 j 0)), (1, .int x1)] (by decide) (Nat.le_of_ble_eq_true rfl) rfl ?_
  intro K hk hR hn hl hG
  subst hl; subst hG
  have hk : VH K RX5 cX5_addBand 0 0 := hk
  rw [fX5_addBand.eq_1] at h
  refine r_aload_n 1 hk dX5_addBand_0 rfl 0 rfl rfl ?_
  refine r_get 4 hk dX5_addBand_1 rfl ff_RX5_21 (mk_5_0 hj) (gv_5_3 _ _ _) ?_
  refine r_if_lt 31 7 hk dX5_addBand_4 rfl rfl (fun c1 => ?_) (fun c1 => ?_)
  · have h := if_t c1 h
    exact r_vret hk hR dX5_addBand_31 h
  · have h := if_f c1 h
    refine r_aload_n 8 hk dX5_addBand_7 rfl 0 rfl rfl ?_
    refine r_get 11 hk dX5_addBand_8 rfl ff_RX5_21 (mk_5_0 hj) (gv_5_3 _ _ _) ?_
    refine r_aload_n 12 hk dX5_addBand_11 rfl 0 rfl rfl ?_
    refine r_get 15 hk dX5_addBand_12 rfl ff_RX5_9 (mk_5_0 hj) (gv_5_0 _ _ _) ?_
    refine r_alen 16 hk dX5_addBand_15 rfl (mk_5_1 hj) rfl ?_
    refine r_icmp_ge 31 19 hk dX5_addBand_16 rfl rfl (fun c2 => ?_) (fun c2 => ?_)
    · have h := if_t c2 h
      exact r_vret hk hR dX5_addBand_31 h
    · have h := if_f c2 h
      refine r_aload_n 20 hk dX5_addBand_19 rfl 0 rfl rfl ?_
      refine r_get 23 hk dX5_addBand_20 rfl ff_RX5_21 (mk_5_0 hj) (gv_5_3 _ _ _) ?_
      refine r_aload_n 24 hk dX5_addBand_23 rfl 0 rfl rfl ?_
      refine r_get 27 hk dX5_addBand_24 rfl ff_RX5_15 (mk_5_0 hj) (gv_5_1 _ _ _) ?_
      refine r_alen 28 hk dX5_addBand_27 rfl (mk_5_2 hj) rfl ?_
      refine r_icmp_lt 32 31 hk dX5_addBand_28 rfl rfl (fun c3 => ?_) (fun c3 => ?_)
      · have h := if_t c3 h
        refine r_aload_n 33 hk dX5_addBand_32 rfl 0 rfl rfl ?_
        refine r_get 36 hk dX5_addBand_33 rfl ff_RX5_9 (mk_5_0 hj) (gv_5_0 _ _ _) ?_
        refine r_aload_n 37 hk dX5_addBand_36 rfl 0 rfl rfl ?_
        refine r_get 40 hk dX5_addBand_37 rfl ff_RX5_21 (mk_5_0 hj) (gv_5_3 _ _ _) ?_
        refine r_aload_n 41 hk dX5_addBand_40 rfl 0 rfl rfl ?_
        refine r_get 44 hk dX5_addBand_41 rfl ff_RX5_25 (mk_5_0 hj) (gv_5_4 _ _ _) ?_
        obtain ⟨b4, h⟩ := ck_e h
        obtain ⟨w5, ew5, h⟩ := lw_e h
        refine r_iast 45 w5 hk dX5_addBand_44 rfl rfl (mk_5_1 hj) rfl b4 ew5 ?_
        refine r_aload_n 46 hk dX5_addBand_45 rfl 0 rfl rfl ?_
        refine r_get 49 hk dX5_addBand_46 rfl ff_RX5_15 (mk_5_0 hj) (gv_5_1 _ _ _) ?_
        refine r_aload_n 50 hk dX5_addBand_49 rfl 0 rfl rfl ?_
        refine r_get 53 hk dX5_addBand_50 rfl ff_RX5_21 (mk_5_0 hj) (gv_5_3 _ _ _) ?_
        refine r_iload_n 54 hk dX5_addBand_53 rfl 1 rfl rfl ?_
        obtain ⟨b6, h⟩ := ck_e h
        obtain ⟨w7, ew7, h⟩ := lw_e h
        refine r_iast 55 w7 hk dX5_addBand_54 rfl rfl (mk_5_2 hj) rfl b6 ew7 ?_
        refine r_aload_n 56 hk dX5_addBand_55 rfl 0 rfl rfl ?_
        refine r_get 59 hk dX5_addBand_56 rfl ff_RX5_25 (mk_5_0 hj) (gv_5_4 _ _ _) ?_
        obtain ⟨x2_8, ex2_8, h⟩ := lw_e h
        refine r_istore_n 60 [(2, .int x2_8), (0, .ref (al 5 j 0)), (1, .int x1)] hk dX5_addBand_59 rfl rfl hn (by decide) ex2_8 rfl ?_
        refine r_sub [1, 2, 0] rfl ?_
        exact sX5_addBand_60 hk hR hn hN hj _ _ _ _ h
      · have h := if_f c3 h
        exact r_vret hk hR dX5_addBand_31 h
def fX4_takeBand_21  (w : Wd) (t1 : Int32) : Option (Int32 × Wd) :=
    ob (fX4_takeFirstWord w (t1)) fun r3 w4 =>
    if (r3 : Int32) = 0 then
      some (0, w4)
    else
      ob (fX4_takeWhole w4 (2) (8)) fun r6 w7 =>
      if (r6 : Int32) = 0 then
        some (0, w7)
      else
        ckp ((w7 4 0).2.2.1 2) 2 fun q9 =>
        ob (fX5_addBand q9 w7 (((w7 4 0).1 7))) fun _ w11 =>
        some (1, w11)
def fX4_takeBand (w : Wd) : Option (Int32 × Wd) :=
  ckp ((w 4 0).2.2.1 2) 2 fun q1 =>
  if (6 : Int32) ≤ ((w 5 q1).1 3) then
    fX4_takeBand_21  w (0)
  else
    fX4_takeBand_21  w (1)
set_option maxRecDepth 100000 in
set_option maxHeartbeats 4000000 in
theorem sX4_takeBand_21 {K : VC} {al : Al} {r : Int32} {wz : Wd}  (hk : VH K RX4 cX4_takeBand 4 89) (hR : VR K al (some (.boolean)) (some (.int r)) wz) (hn : kn K = 1) (hN : NX (kG K)) (w : Wd) (t1 : Int32) (h : fX4_takeBand_21  w t1 = some (r, wz)) : V K al w 21 [(0, .ref (al 4 0 0))] [.int t1, .ref (al 4 0 0)] := by
  rw [fX4_takeBand_21.eq_1] at h
  obtain ⟨r3, w4, ew4, h⟩ := ob_e h
  refine r_cVi 24 (As := [.int t1]) (rest := []) hk (kX4_takeFirstWord hN ew4) cf_RX4_146 mi_X4_takeFirstWord ⟨TX4, 10, rfl⟩ dX4_takeBand_21 rfl (Nat.le_of_ble_eq_true rfl) (Nat.le_of_ble_eq_true rfl) (mk_4_0 (nx_4 hN (j := 0) (by decide))) rfl rfl (Nat.le_of_ble_eq_true rfl) ?_
  refine r_if_ne 29 27 hk dX4_takeBand_24 rfl rfl (fun c5 => ?_) (fun c5 => ?_)
  · have h := if_f c5 h
    refine r_aload_n 30 hk dX4_takeBand_29 rfl 0 rfl rfl ?_
    refine r_iconst 31 hk dX4_takeBand_30 rfl ci_2 ?_
    refine r_bipush 33 hk dX4_takeBand_31 rfl cb_8 ?_
    obtain ⟨r6, w7, ew7, h⟩ := ob_e h
    refine r_cVi 36 (As := [.int 2, .int 8]) (rest := []) hk (kX4_takeWhole hN ew7) cf_RX4_127 mi_X4_takeWhole ⟨TX4, 10, rfl⟩ dX4_takeBand_33 rfl (Nat.le_of_ble_eq_true rfl) (Nat.le_of_ble_eq_true rfl) (mk_4_0 (nx_4 hN (j := 0) (by decide))) rfl rfl (Nat.le_of_ble_eq_true rfl) ?_
    refine r_if_ne 41 39 hk dX4_takeBand_36 rfl rfl (fun c8 => ?_) (fun c8 => ?_)
    · have h := if_f c8 h
      refine r_aload_n 42 hk dX4_takeBand_41 rfl 0 rfl rfl ?_
      refine r_get 45 hk dX4_takeBand_42 rfl ff_RX4_15 (mk_4_0 (nx_4 hN (j := 0) (by decide))) (gv_4_2 _ _ _) ?_
      obtain ⟨q9, eq9, lq9, h⟩ := ckp_e h
      refine r_pv1 eq9 ?_
      refine r_get 48 hk dX4_takeBand_45 rfl ff_RX4_57 (mk_8_0 (nx_8 hN lq9)) (gv_8_0 _ _ _) ?_
      refine r_aload_n 49 hk dX4_takeBand_48 rfl 0 rfl rfl ?_
      refine r_get 52 hk dX4_takeBand_49 rfl ff_RX4_130 (mk_4_0 (nx_4 hN (j := 0) (by decide))) (gv_4_7 _ _ _) ?_
      obtain ⟨r10, w11, ew11, h⟩ := ob_e h
      refine r_cVv 55 (As := [.int (((w7 4 0).1 7))]) (rest := []) hk (kX5_addBand hN (nx_sh hN (nx_8 hN lq9)) ew11) cf_RX4_150 mi_X5_addBand ⟨TX5, 8, rfl⟩ dX4_takeBand_52 rfl (Nat.le_of_ble_eq_true rfl) (Nat.le_of_ble_eq_true rfl) (mk_5_0 (nx_sh hN (nx_8 hN lq9))) rfl rfl (Nat.le_of_ble_eq_true rfl) ?_
      refine r_iconst 56 hk dX4_takeBand_55 rfl ci_1 ?_
      exact r_zret hk hR dX4_takeBand_56 (by decide) h
    · have h := if_t c8 h
      refine r_iconst 40 hk dX4_takeBand_39 rfl ci_0 ?_
      exact r_zret hk hR dX4_takeBand_40 (by decide) h
  · have h := if_t c5 h
    refine r_iconst 28 hk dX4_takeBand_27 rfl ci_0 ?_
    exact r_zret hk hR dX4_takeBand_28 (by decide) h
set_option maxRecDepth 100000 in
set_option maxHeartbeats 4000000 in
theorem kX4_takeBand {l : Launch} {G : Gx} {al : Al} {w : Wd} {r : Int32} {wz : Wd} (hN : NX G) (h : fX4_takeBand w = some (r, wz)) : MC l G yX4_takeBand cX4_takeBand 1 (some (.boolean)) 4 89 al w [.ref (al 4 0 0)] (some (.int r)) wz := by
  refine mc_of [(0, .ref (al 4 0 0))] (by decide) (Nat.le_of_ble_eq_true rfl) rfl ?_
  intro K hk hR hn hl hG
  subst hl; subst hG
  have hk : VH K RX4 cX4_takeBand 4 89 := hk
  rw [fX4_takeBand.eq_1] at h
  refine r_aload_n 1 hk dX4_takeBand_0 rfl 0 rfl rfl ?_
  refine r_aload_n 2 hk dX4_takeBand_1 rfl 0 rfl rfl ?_
  refine r_get 5 hk dX4_takeBand_2 rfl ff_RX4_15 (mk_4_0 (nx_4 hN (j := 0) (by decide))) (gv_4_2 _ _ _) ?_
  obtain ⟨q1, eq1, lq1, h⟩ := ckp_e h
  refine r_pv1 eq1 ?_
  refine r_get 8 hk dX4_takeBand_5 rfl ff_RX4_57 (mk_8_0 (nx_8 hN lq1)) (gv_8_0 _ _ _) ?_
  refine r_get 11 hk dX4_takeBand_8 rfl ff_RX4_61 (mk_5_0 (nx_sh hN (nx_8 hN lq1))) (gv_5_3 _ _ _) ?_
  refine r_bipush 13 hk dX4_takeBand_11 rfl cb_6 ?_
  refine r_icmp_ge 20 16 hk dX4_takeBand_13 rfl rfl (fun c2 => ?_) (fun c2 => ?_)
  · have h := if_t c2 h
    refine r_iconst 21 hk dX4_takeBand_20 rfl ci_0 ?_
    exact sX4_takeBand_21 hk hR hn hN _ _ h
  · have h := if_f c2 h
    refine r_iconst 17 hk dX4_takeBand_16 rfl ci_1 ?_
    refine r_goto 21 hk (x := 0) dX4_takeBand_17 rfl ?_
    exact sX4_takeBand_21 hk hR hn hN _ _ h
def fX4_takePair_73 (o1 : Nat) (w : Wd) (x5 : Int32) : Option (Int32 × Wd) :=
    ob (fX4_takeWhole w (0) (9999)) fun r22 w23 =>
    if (r22 : Int32) = 0 then
      some (0, w23)
    else
      ob (fX3_addPair o1 w23 (x5) (((w23 4 0).1 7))) fun _ w26 =>
      some (1, w26)
def fX4_takePair (o1 : Nat) (w : Wd) (x2 : Int32) (x3 : Int32) : Option (Int32 × Wd) :=
  ob (fX3_hasRoom o1 w ) fun r1 w2 =>
  ob (fX4_takeFirstWord w2 (r1)) fun r3 w4 =>
  if (r3 : Int32) = 0 then
    some (0, w4)
  else
    lw (((w4 4 0).1 5)) fun x4_6 =>
    ob (fX4_takeWhole w4 (0) (9999)) fun r7 w8 =>
    if (r7 : Int32) = 0 then
      some (0, w8)
    else
      lw (((w8 4 0).1 7)) fun x5_10 =>
      if (x5_10 : Int32) < x2 then
        if (x3 : Int32) = 0 then
          fX4_takePair_73 o1 w8 (x5_10)
        else
          ob (fX3_hasFirst o1 w8 (x5_10)) fun r13 w14 =>
          if (r13 : Int32) = 0 then
            fX4_takePair_73 o1 w14 (x5_10)
          else
            ob (fX4_stopAt w14 (3) (x4_6)) fun r16 w17 =>
            ck (isb (r16)) <|
            some (r16, w17)
      else
        ob (fX4_stopAt w8 (2) (x4_6)) fun r19 w20 =>
        ck (isb (r19)) <|
        some (r19, w20)
set_option maxRecDepth 100000 in
set_option maxHeartbeats 4000000 in
theorem sX4_takePair_73 {K : VC} {al : Al} {r : Int32} {wz : Wd} {o1 : Nat} (hk : VH K RX4 cX4_takePair 4 89) (hR : VR K al (some (.boolean)) (some (.int r)) wz) (hn : kn K = 6) (hN : NX (kG K)) (ho1 : o1 < gN (kG K) 3) (w : Wd) (x5 : Int32) (h : fX4_takePair_73 o1 w x5 = some (r, wz)) : V K al w 73 [(0, .ref (al 4 0 0)), (1, .ref (al 3 o1 0)), (5, .int x5)] [] := by
  rw [fX4_takePair_73.eq_1] at h
  refine r_aload_n 74 hk dX4_takePair_73 rfl 0 rfl rfl ?_
  refine r_iconst 75 hk dX4_takePair_74 rfl ci_0 ?_
  refine r_sipush 78 hk dX4_takePair_75 rfl cs_9999 ?_
  obtain ⟨r22, w23, ew23, h⟩ := ob_e h
  refine r_cVi 81 (As := [.int 0, .int 9999]) (rest := []) hk (kX4_takeWhole hN ew23) cf_RX4_127 mi_X4_takeWhole ⟨TX4, 10, rfl⟩ dX4_takePair_78 rfl (Nat.le_of_ble_eq_true rfl) (Nat.le_of_ble_eq_true rfl) (mk_4_0 (nx_4 hN (j := 0) (by decide))) rfl rfl (Nat.le_of_ble_eq_true rfl) ?_
  refine r_if_ne 86 84 hk dX4_takePair_81 rfl rfl (fun c24 => ?_) (fun c24 => ?_)
  · have h := if_f c24 h
    refine r_aload_n 87 hk dX4_takePair_86 rfl 1 rfl rfl ?_
    refine r_iload 89 hk dX4_takePair_87 rfl 2 rfl ?_
    refine r_aload_n 90 hk dX4_takePair_89 rfl 0 rfl rfl ?_
    refine r_get 93 hk dX4_takePair_90 rfl ff_RX4_130 (mk_4_0 (nx_4 hN (j := 0) (by decide))) (gv_4_7 _ _ _) ?_
    obtain ⟨r25, w26, ew26, h⟩ := ob_e h
    refine r_cVv 96 (As := [.int x5, .int (((w23 4 0).1 7))]) (rest := []) hk (kX3_addPair hN ho1 ew26) cf_RX4_161 mi_X3_addPair ⟨TX3, 3, rfl⟩ dX4_takePair_93 rfl (Nat.le_of_ble_eq_true rfl) (Nat.le_of_ble_eq_true rfl) (mk_3_0 ho1) rfl rfl (Nat.le_of_ble_eq_true rfl) ?_
    refine r_iconst 97 hk dX4_takePair_96 rfl ci_1 ?_
    exact r_zret hk hR dX4_takePair_97 (by decide) h
  · have h := if_t c24 h
    refine r_iconst 85 hk dX4_takePair_84 rfl ci_0 ?_
    exact r_zret hk hR dX4_takePair_85 (by decide) h
set_option maxRecDepth 100000 in
set_option maxHeartbeats 4000000 in
theorem kX4_takePair {l : Launch} {G : Gx} {al : Al} {o1 : Nat} {w : Wd} {x2 : Int32} {x3 : Int32} {r : Int32} {wz : Wd} (hN : NX G) (ho1 : o1 < gN G 3) (h : fX4_takePair o1 w x2 x3 = some (r, wz)) : MC l G yX4_takePair cX4_takePair 6 (some (.boolean)) 4 89 al w [.ref (al 4 0 0), .ref (al 3 o1 0), .int x2, .int x3] (some (.int r)) wz := by
  refine mc_of [(0, .ref (al 4 0 0)), (1, .ref (al 3 o1 0)), (2, .int x2), (3, .int x3)] (by decide) (Nat.le_of_ble_eq_true rfl) rfl ?_
  intro K hk hR hn hl hG
  subst hl; subst hG
  have hk : VH K RX4 cX4_takePair 4 89 := hk
  rw [fX4_takePair.eq_1] at h
  refine r_aload_n 1 hk dX4_takePair_0 rfl 0 rfl rfl ?_
  refine r_aload_n 2 hk dX4_takePair_1 rfl 1 rfl rfl ?_
  obtain ⟨r1, w2, ew2, h⟩ := ob_e h
  refine r_cVi 5 (As := []) (rest := [.ref (al 4 0 0)]) hk (kX3_hasRoom hN ho1 ew2) cf_RX4_154 mi_X3_hasRoom ⟨TX3, 3, rfl⟩ dX4_takePair_2 rfl (Nat.le_of_ble_eq_true rfl) (Nat.le_of_ble_eq_true rfl) (mk_3_0 ho1) rfl rfl (Nat.le_of_ble_eq_true rfl) ?_
  obtain ⟨r3, w4, ew4, h⟩ := ob_e h
  refine r_cVi 8 (As := [.int r1]) (rest := []) hk (kX4_takeFirstWord hN ew4) cf_RX4_146 mi_X4_takeFirstWord ⟨TX4, 10, rfl⟩ dX4_takePair_5 rfl (Nat.le_of_ble_eq_true rfl) (Nat.le_of_ble_eq_true rfl) (mk_4_0 (nx_4 hN (j := 0) (by decide))) rfl rfl (Nat.le_of_ble_eq_true rfl) ?_
  refine r_if_ne 13 11 hk dX4_takePair_8 rfl rfl (fun c5 => ?_) (fun c5 => ?_)
  · have h := if_f c5 h
    refine r_aload_n 14 hk dX4_takePair_13 rfl 0 rfl rfl ?_
    refine r_get 17 hk dX4_takePair_14 rfl ff_RX4_116 (mk_4_0 (nx_4 hN (j := 0) (by decide))) (gv_4_5 _ _ _) ?_
    obtain ⟨x4_6, ex4_6, h⟩ := lw_e h
    refine r_istore 19 [(4, .int x4_6), (0, .ref (al 4 0 0)), (1, .ref (al 3 o1 0)), (2, .int x2), (3, .int x3)] hk dX4_takePair_17 rfl hn (by decide) ex4_6 rfl ?_
    refine r_aload_n 20 hk dX4_takePair_19 rfl 1 rfl rfl ?_
    refine r_iconst 21 hk dX4_takePair_20 rfl ci_0 ?_
    refine r_sipush 24 hk dX4_takePair_21 rfl cs_9999 ?_
    obtain ⟨r7, w8, ew8, h⟩ := ob_e h
    refine r_cVi 27 (As := [.int 0, .int 9999]) (rest := []) hk (kX4_takeWhole hN ew8) cf_RX4_127 mi_X4_takeWhole ⟨TX4, 10, rfl⟩ dX4_takePair_24 rfl (Nat.le_of_ble_eq_true rfl) (Nat.le_of_ble_eq_true rfl) (mk_4_0 (nx_4 hN (j := 0) (by decide))) rfl rfl (Nat.le_of_ble_eq_true rfl) ?_
    refine r_if_ne 32 30 hk dX4_takePair_27 rfl rfl (fun c9 => ?_) (fun c9 => ?_)
    · have h := if_f c9 h
      refine r_aload_n 33 hk dX4_takePair_32 rfl 1 rfl rfl ?_
      refine r_get 36 hk dX4_takePair_33 rfl ff_RX4_130 (mk_4_0 (nx_4 hN (j := 0) (by decide))) (gv_4_7 _ _ _) ?_
      obtain ⟨x5_10, ex5_10, h⟩ := lw_e h
      refine r_istore 38 [(5, .int x5_10), (4, .int x4_6), (0, .ref (al 4 0 0)), (1, .ref (al 3 o1 0)), (2, .int x2), (3, .int x3)] hk dX4_takePair_36 rfl hn (by decide) ex5_10 rfl ?_
      refine r_iload 40 hk dX4_takePair_38 rfl 0 rfl ?_
      refine r_iload_n 41 hk dX4_takePair_40 rfl 4 rfl rfl ?_
      refine r_icmp_lt 52 44 hk dX4_takePair_41 rfl rfl (fun c11 => ?_) (fun c11 => ?_)
      · have h := if_t c11 h
        refine r_iload_n 53 hk dX4_takePair_52 rfl 5 rfl rfl ?_
        refine r_if_eq 73 56 hk dX4_takePair_53 rfl rfl (fun c12 => ?_) (fun c12 => ?_)
        · have h := if_t c12 h
          refine r_sub [2, 3, 0] rfl ?_
          exact sX4_takePair_73 hk hR hn hN ho1 _ _ h
        · have h := if_f c12 h
          refine r_aload_n 57 hk dX4_takePair_56 rfl 3 rfl rfl ?_
          refine r_iload 59 hk dX4_takePair_57 rfl 0 rfl ?_
          obtain ⟨r13, w14, ew14, h⟩ := ob_e h
          refine r_cVi 62 (As := [.int x5_10]) (rest := []) hk (kX3_hasFirst hN ho1 ew14) cf_RX4_157 mi_X3_hasFirst ⟨TX3, 3, rfl⟩ dX4_takePair_59 rfl (Nat.le_of_ble_eq_true rfl) (Nat.le_of_ble_eq_true rfl) (mk_3_0 ho1) rfl rfl (Nat.le_of_ble_eq_true rfl) ?_
          refine r_if_eq 73 65 hk dX4_takePair_62 rfl rfl (fun c15 => ?_) (fun c15 => ?_)
          · have h := if_t c15 h
            refine r_sub [2, 3, 0] rfl ?_
            exact sX4_takePair_73 hk hR hn hN ho1 _ _ h
          · have h := if_f c15 h
            refine r_aload_n 66 hk dX4_takePair_65 rfl 2 rfl rfl ?_
            refine r_iconst 67 hk dX4_takePair_66 rfl ci_3 ?_
            refine r_iload 69 hk dX4_takePair_67 rfl 1 rfl ?_
            obtain ⟨r16, w17, ew17, h⟩ := ob_e h
            refine r_cVi 72 (As := [.int 3, .int x4_6]) (rest := []) hk (kX4_stopAt hN ew17) cf_RX4_66 mi_X4_stopAt ⟨TX4, 10, rfl⟩ dX4_takePair_69 rfl (Nat.le_of_ble_eq_true rfl) (Nat.le_of_ble_eq_true rfl) (mk_4_0 (nx_4 hN (j := 0) (by decide))) rfl rfl (Nat.le_of_ble_eq_true rfl) ?_
            obtain ⟨b18, h⟩ := ck_e h
            exact r_zret hk hR dX4_takePair_72 b18 h
      · have h := if_f c11 h
        refine r_aload_n 45 hk dX4_takePair_44 rfl 2 rfl rfl ?_
        refine r_iconst 46 hk dX4_takePair_45 rfl ci_2 ?_
        refine r_iload 48 hk dX4_takePair_46 rfl 1 rfl ?_
        obtain ⟨r19, w20, ew20, h⟩ := ob_e h
        refine r_cVi 51 (As := [.int 2, .int x4_6]) (rest := []) hk (kX4_stopAt hN ew20) cf_RX4_66 mi_X4_stopAt ⟨TX4, 10, rfl⟩ dX4_takePair_48 rfl (Nat.le_of_ble_eq_true rfl) (Nat.le_of_ble_eq_true rfl) (mk_4_0 (nx_4 hN (j := 0) (by decide))) rfl rfl (Nat.le_of_ble_eq_true rfl) ?_
        obtain ⟨b21, h⟩ := ck_e h
        exact r_zret hk hR dX4_takePair_51 b21 h
    · have h := if_t c9 h
      refine r_iconst 31 hk dX4_takePair_30 rfl ci_0 ?_
      exact r_zret hk hR dX4_takePair_31 (by decide) h
  · have h := if_t c5 h
    refine r_iconst 12 hk dX4_takePair_11 rfl ci_0 ?_
    exact r_zret hk hR dX4_takePair_12 (by decide) h
def fX4_takeLine (w : Wd) : Option (Int32 × Wd) :=
  ckp ((w 4 0).2.2.1 2) 2 fun q1 =>
  lw (((w 5 q1).1 4)) fun x1_2 =>
  ob (fX4_isWord 0 w ) fun r3 w4 =>
  if (r3 : Int32) = 0 then
    ob (fX4_isWord 1 w4 ) fun r6 w7 =>
    if (r6 : Int32) = 0 then
      ob (fX4_isWord 2 w7 ) fun r9 w10 =>
      if (r9 : Int32) = 0 then
        ob (fX4_isWord 3 w10 ) fun r12 w13 =>
        if (r12 : Int32) = 0 then
          ob (fX4_isWord 4 w13 ) fun r15 w16 =>
          if (r15 : Int32) = 0 then
            ob (fX4_isWord 5 w16 ) fun r18 w19 =>
            if (r18 : Int32) = 0 then
              ob (fX4_stopAt w19 (1) (((w19 4 0).1 5))) fun r21 w22 =>
              ck (isb (r21)) <|
              some (r21, w22)
            else
              ckp ((w19 4 0).2.2.1 2) 2 fun q24 =>
              ob (fX4_takePair (4 * q24 + 3) w19 (x1_2) (1)) fun r25 w26 =>
              ck (isb (r25)) <|
              some (r25, w26)
          else
            ckp ((w16 4 0).2.2.1 2) 2 fun q28 =>
            ckp ((w16 4 0).2.2.1 2) 2 fun q29 =>
            ob (fX4_takePair (4 * q28 + 2) w16 (((w16 3 (4 * q29 + 1)).1 2)) (1)) fun r30 w31 =>
            ck (isb (r30)) <|
            some (r30, w31)
        else
          ckp ((w13 4 0).2.2.1 2) 2 fun q33 =>
          ob (fX4_takePair (4 * q33 + 1) w13 (x1_2) (0)) fun r34 w35 =>
          ck (isb (r34)) <|
          some (r34, w35)
      else
        ckp ((w10 4 0).2.2.1 2) 2 fun q37 =>
        ob (fX4_takePair (4 * q37) w10 (x1_2) (1)) fun r38 w39 =>
        ck (isb (r38)) <|
        some (r38, w39)
    else
      ob (fX4_takeBand w7 ) fun r41 w42 =>
      ck (isb (r41)) <|
      some (r41, w42)
  else
    ob (fX4_takeDisk w4 ) fun r44 w45 =>
    ck (isb (r44)) <|
    some (r44, w45)
set_option maxRecDepth 100000 in
set_option maxHeartbeats 4000000 in
theorem kX4_takeLine {l : Launch} {G : Gx} {al : Al} {w : Wd} {r : Int32} {wz : Wd} (hN : NX G) (h : fX4_takeLine w = some (r, wz)) : MC l G yX4_takeLine cX4_takeLine 2 (some (.boolean)) 7 163 al w [.ref (al 4 0 0)] (some (.int r)) wz := by
  refine mc_of [(0, .ref (al 4 0 0))] (by decide) (Nat.le_of_ble_eq_true rfl) rfl ?_
  intro K hk hR hn hl hG
  subst hl; subst hG
  have hk : VH K RX4 cX4_takeLine 7 163 := hk
  rw [fX4_takeLine.eq_1] at h
  refine r_aload_n 1 hk dX4_takeLine_0 rfl 0 rfl rfl ?_
  refine r_get 4 hk dX4_takeLine_1 rfl ff_RX4_15 (mk_4_0 (nx_4 hN (j := 0) (by decide))) (gv_4_2 _ _ _) ?_
  obtain ⟨q1, eq1, lq1, h⟩ := ckp_e h
  refine r_pv1 eq1 ?_
  refine r_get 7 hk dX4_takeLine_4 rfl ff_RX4_57 (mk_8_0 (nx_8 hN lq1)) (gv_8_0 _ _ _) ?_
  refine r_get 10 hk dX4_takeLine_7 rfl ff_RX4_70 (mk_5_0 (nx_sh hN (nx_8 hN lq1))) (gv_5_4 _ _ _) ?_
  obtain ⟨x1_2, ex1_2, h⟩ := lw_e h
  refine r_istore_n 11 [(1, .int x1_2), (0, .ref (al 4 0 0))] hk dX4_takeLine_10 rfl rfl hn (by decide) ex1_2 rfl ?_
  refine r_aload_n 12 hk dX4_takeLine_11 rfl 1 rfl rfl ?_
  refine r_ldcS4 14 hk dX4_takeLine_12 rfl (i := 0) (by decide) rfl ?_
  obtain ⟨r3, w4, ew4, h⟩ := ob_e h
  refine r_cVi 17 (As := [.ref ((kG K).2.2.1 0)]) (rest := []) hk (kX4_isWord hN (by decide) ew4) cf_RX4_75 mi_X4_isWord ⟨TX4, 10, rfl⟩ dX4_takeLine_14 rfl (Nat.le_of_ble_eq_true rfl) (Nat.le_of_ble_eq_true rfl) (mk_4_0 (nx_4 hN (j := 0) (by decide))) rfl rfl (Nat.le_of_ble_eq_true rfl) ?_
  refine r_if_eq 25 20 hk dX4_takeLine_17 rfl rfl (fun c5 => ?_) (fun c5 => ?_)
  · have h := if_t c5 h
    refine r_aload_n 26 hk dX4_takeLine_25 rfl 1 rfl rfl ?_
    refine r_ldcS4 28 hk dX4_takeLine_26 rfl (i := 1) (by decide) rfl ?_
    obtain ⟨r6, w7, ew7, h⟩ := ob_e h
    refine r_cVi 31 (As := [.ref ((kG K).2.2.1 1)]) (rest := []) hk (kX4_isWord hN (by decide) ew7) cf_RX4_75 mi_X4_isWord ⟨TX4, 10, rfl⟩ dX4_takeLine_28 rfl (Nat.le_of_ble_eq_true rfl) (Nat.le_of_ble_eq_true rfl) (mk_4_0 (nx_4 hN (j := 0) (by decide))) rfl rfl (Nat.le_of_ble_eq_true rfl) ?_
    refine r_if_eq 39 34 hk dX4_takeLine_31 rfl rfl (fun c8 => ?_) (fun c8 => ?_)
    · have h := if_t c8 h
      refine r_aload_n 40 hk dX4_takeLine_39 rfl 1 rfl rfl ?_
      refine r_ldcS4 42 hk dX4_takeLine_40 rfl (i := 2) (by decide) rfl ?_
      obtain ⟨r9, w10, ew10, h⟩ := ob_e h
      refine r_cVi 45 (As := [.ref ((kG K).2.2.1 2)]) (rest := []) hk (kX4_isWord hN (by decide) ew10) cf_RX4_75 mi_X4_isWord ⟨TX4, 10, rfl⟩ dX4_takeLine_42 rfl (Nat.le_of_ble_eq_true rfl) (Nat.le_of_ble_eq_true rfl) (mk_4_0 (nx_4 hN (j := 0) (by decide))) rfl rfl (Nat.le_of_ble_eq_true rfl) ?_
      refine r_if_eq 62 48 hk dX4_takeLine_45 rfl rfl (fun c11 => ?_) (fun c11 => ?_)
      · have h := if_t c11 h
        refine r_aload_n 63 hk dX4_takeLine_62 rfl 1 rfl rfl ?_
        refine r_ldcS4 65 hk dX4_takeLine_63 rfl (i := 3) (by decide) rfl ?_
        obtain ⟨r12, w13, ew13, h⟩ := ob_e h
        refine r_cVi 68 (As := [.ref ((kG K).2.2.1 3)]) (rest := []) hk (kX4_isWord hN (by decide) ew13) cf_RX4_75 mi_X4_isWord ⟨TX4, 10, rfl⟩ dX4_takeLine_65 rfl (Nat.le_of_ble_eq_true rfl) (Nat.le_of_ble_eq_true rfl) (mk_4_0 (nx_4 hN (j := 0) (by decide))) rfl rfl (Nat.le_of_ble_eq_true rfl) ?_
        refine r_if_eq 85 71 hk dX4_takeLine_68 rfl rfl (fun c14 => ?_) (fun c14 => ?_)
        · have h := if_t c14 h
          refine r_aload_n 86 hk dX4_takeLine_85 rfl 1 rfl rfl ?_
          refine r_ldcS4 88 hk dX4_takeLine_86 rfl (i := 4) (by decide) rfl ?_
          obtain ⟨r15, w16, ew16, h⟩ := ob_e h
          refine r_cVi 91 (As := [.ref ((kG K).2.2.1 4)]) (rest := []) hk (kX4_isWord hN (by decide) ew16) cf_RX4_75 mi_X4_isWord ⟨TX4, 10, rfl⟩ dX4_takeLine_88 rfl (Nat.le_of_ble_eq_true rfl) (Nat.le_of_ble_eq_true rfl) (mk_4_0 (nx_4 hN (j := 0) (by decide))) rfl rfl (Nat.le_of_ble_eq_true rfl) ?_
          refine r_if_eq 117 94 hk dX4_takeLine_91 rfl rfl (fun c17 => ?_) (fun c17 => ?_)
          · have h := if_t c17 h
            refine r_aload_n 118 hk dX4_takeLine_117 rfl 1 rfl rfl ?_
            refine r_ldcS4 120 hk dX4_takeLine_118 rfl (i := 5) (by decide) rfl ?_
            obtain ⟨r18, w19, ew19, h⟩ := ob_e h
            refine r_cVi 123 (As := [.ref ((kG K).2.2.1 5)]) (rest := []) hk (kX4_isWord hN (by decide) ew19) cf_RX4_75 mi_X4_isWord ⟨TX4, 10, rfl⟩ dX4_takeLine_120 rfl (Nat.le_of_ble_eq_true rfl) (Nat.le_of_ble_eq_true rfl) (mk_4_0 (nx_4 hN (j := 0) (by decide))) rfl rfl (Nat.le_of_ble_eq_true rfl) ?_
            refine r_if_eq 140 126 hk dX4_takeLine_123 rfl rfl (fun c20 => ?_) (fun c20 => ?_)
            · have h := if_t c20 h
              refine r_aload_n 141 hk dX4_takeLine_140 rfl 1 rfl rfl ?_
              refine r_iconst 142 hk dX4_takeLine_141 rfl ci_1 ?_
              refine r_aload_n 143 hk dX4_takeLine_142 rfl 1 rfl rfl ?_
              refine r_get 146 hk dX4_takeLine_143 rfl ff_RX4_116 (mk_4_0 (nx_4 hN (j := 0) (by decide))) (gv_4_5 _ _ _) ?_
              obtain ⟨r21, w22, ew22, h⟩ := ob_e h
              refine r_cVi 149 (As := [.int 1, .int (((w19 4 0).1 5))]) (rest := []) hk (kX4_stopAt hN ew22) cf_RX4_66 mi_X4_stopAt ⟨TX4, 10, rfl⟩ dX4_takeLine_146 rfl (Nat.le_of_ble_eq_true rfl) (Nat.le_of_ble_eq_true rfl) (mk_4_0 (nx_4 hN (j := 0) (by decide))) rfl rfl (Nat.le_of_ble_eq_true rfl) ?_
              obtain ⟨b23, h⟩ := ck_e h
              exact r_zret hk hR dX4_takeLine_149 b23 h
            · have h := if_f c20 h
              refine r_aload_n 127 hk dX4_takeLine_126 rfl 1 rfl rfl ?_
              refine r_aload_n 128 hk dX4_takeLine_127 rfl 1 rfl rfl ?_
              refine r_get 131 hk dX4_takeLine_128 rfl ff_RX4_15 (mk_4_0 (nx_4 hN (j := 0) (by decide))) (gv_4_2 _ _ _) ?_
              obtain ⟨q24, eq24, lq24, h⟩ := ckp_e h
              refine r_pv1 eq24 ?_
              refine r_get 134 hk dX4_takeLine_131 rfl ff_RX4_113 (mk_8_0 (nx_8 hN lq24)) (gv_8_4 _ _ _) ?_
              refine r_iload_n 135 hk dX4_takeLine_134 rfl 0 rfl rfl ?_
              refine r_iconst 136 hk dX4_takeLine_135 rfl ci_1 ?_
              obtain ⟨r25, w26, ew26, h⟩ := ob_e h
              refine r_cVi 139 (As := [.ref (al 3 (4 * q24 + 3) 0), .int x1_2, .int 1]) (rest := []) hk (kX4_takePair hN (nx_pr3 hN (nx_8 hN lq24)) ew26) cf_RX4_93 mi_X4_takePair ⟨TX4, 10, rfl⟩ dX4_takeLine_136 rfl (Nat.le_of_ble_eq_true rfl) (Nat.le_of_ble_eq_true rfl) (mk_4_0 (nx_4 hN (j := 0) (by decide))) rfl rfl (Nat.le_of_ble_eq_true rfl) ?_
              obtain ⟨b27, h⟩ := ck_e h
              exact r_zret hk hR dX4_takeLine_139 b27 h
          · have h := if_f c17 h
            refine r_aload_n 95 hk dX4_takeLine_94 rfl 1 rfl rfl ?_
            refine r_aload_n 96 hk dX4_takeLine_95 rfl 1 rfl rfl ?_
            refine r_get 99 hk dX4_takeLine_96 rfl ff_RX4_15 (mk_4_0 (nx_4 hN (j := 0) (by decide))) (gv_4_2 _ _ _) ?_
            obtain ⟨q28, eq28, lq28, h⟩ := ckp_e h
            refine r_pv1 eq28 ?_
            refine r_get 102 hk dX4_takeLine_99 rfl ff_RX4_104 (mk_8_0 (nx_8 hN lq28)) (gv_8_3 _ _ _) ?_
            refine r_aload_n 103 hk dX4_takeLine_102 rfl 1 rfl rfl ?_
            refine r_get 106 hk dX4_takeLine_103 rfl ff_RX4_15 (mk_4_0 (nx_4 hN (j := 0) (by decide))) (gv_4_2 _ _ _) ?_
            obtain ⟨q29, eq29, lq29, h⟩ := ckp_e h
            refine r_pv1 eq29 ?_
            refine r_get 109 hk dX4_takeLine_106 rfl ff_RX4_99 (mk_8_0 (nx_8 hN lq29)) (gv_8_2 _ _ _) ?_
            refine r_get 112 hk dX4_takeLine_109 rfl ff_RX4_106 (mk_3_0 (nx_pr1 hN (nx_8 hN lq29))) (gv_3_2 _ _ _) ?_
            refine r_iconst 113 hk dX4_takeLine_112 rfl ci_1 ?_
            obtain ⟨r30, w31, ew31, h⟩ := ob_e h
            refine r_cVi 116 (As := [.ref (al 3 (4 * q28 + 2) 0), .int (((w16 3 (4 * q29 + 1)).1 2)), .int 1]) (rest := []) hk (kX4_takePair hN (nx_pr2 hN (nx_8 hN lq28)) ew31) cf_RX4_93 mi_X4_takePair ⟨TX4, 10, rfl⟩ dX4_takeLine_113 rfl (Nat.le_of_ble_eq_true rfl) (Nat.le_of_ble_eq_true rfl) (mk_4_0 (nx_4 hN (j := 0) (by decide))) rfl rfl (Nat.le_of_ble_eq_true rfl) ?_
            obtain ⟨b32, h⟩ := ck_e h
            exact r_zret hk hR dX4_takeLine_116 b32 h
        · have h := if_f c14 h
          refine r_aload_n 72 hk dX4_takeLine_71 rfl 1 rfl rfl ?_
          refine r_aload_n 73 hk dX4_takeLine_72 rfl 1 rfl rfl ?_
          refine r_get 76 hk dX4_takeLine_73 rfl ff_RX4_15 (mk_4_0 (nx_4 hN (j := 0) (by decide))) (gv_4_2 _ _ _) ?_
          obtain ⟨q33, eq33, lq33, h⟩ := ckp_e h
          refine r_pv1 eq33 ?_
          refine r_get 79 hk dX4_takeLine_76 rfl ff_RX4_99 (mk_8_0 (nx_8 hN lq33)) (gv_8_2 _ _ _) ?_
          refine r_iload_n 80 hk dX4_takeLine_79 rfl 0 rfl rfl ?_
          refine r_iconst 81 hk dX4_takeLine_80 rfl ci_0 ?_
          obtain ⟨r34, w35, ew35, h⟩ := ob_e h
          refine r_cVi 84 (As := [.ref (al 3 (4 * q33 + 1) 0), .int x1_2, .int 0]) (rest := []) hk (kX4_takePair hN (nx_pr1 hN (nx_8 hN lq33)) ew35) cf_RX4_93 mi_X4_takePair ⟨TX4, 10, rfl⟩ dX4_takeLine_81 rfl (Nat.le_of_ble_eq_true rfl) (Nat.le_of_ble_eq_true rfl) (mk_4_0 (nx_4 hN (j := 0) (by decide))) rfl rfl (Nat.le_of_ble_eq_true rfl) ?_
          obtain ⟨b36, h⟩ := ck_e h
          exact r_zret hk hR dX4_takeLine_84 b36 h
      · have h := if_f c11 h
        refine r_aload_n 49 hk dX4_takeLine_48 rfl 1 rfl rfl ?_
        refine r_aload_n 50 hk dX4_takeLine_49 rfl 1 rfl rfl ?_
        refine r_get 53 hk dX4_takeLine_50 rfl ff_RX4_15 (mk_4_0 (nx_4 hN (j := 0) (by decide))) (gv_4_2 _ _ _) ?_
        obtain ⟨q37, eq37, lq37, h⟩ := ckp_e h
        refine r_pv1 eq37 ?_
        refine r_get 56 hk dX4_takeLine_53 rfl ff_RX4_89 (mk_8_0 (nx_8 hN lq37)) (gv_8_1 _ _ _) ?_
        refine r_iload_n 57 hk dX4_takeLine_56 rfl 0 rfl rfl ?_
        refine r_iconst 58 hk dX4_takeLine_57 rfl ci_1 ?_
        obtain ⟨r38, w39, ew39, h⟩ := ob_e h
        refine r_cVi 61 (As := [.ref (al 3 (4 * q37) 0), .int x1_2, .int 1]) (rest := []) hk (kX4_takePair hN (nx_pr0 hN (nx_8 hN lq37)) ew39) cf_RX4_93 mi_X4_takePair ⟨TX4, 10, rfl⟩ dX4_takeLine_58 rfl (Nat.le_of_ble_eq_true rfl) (Nat.le_of_ble_eq_true rfl) (mk_4_0 (nx_4 hN (j := 0) (by decide))) rfl rfl (Nat.le_of_ble_eq_true rfl) ?_
        obtain ⟨b40, h⟩ := ck_e h
        exact r_zret hk hR dX4_takeLine_61 b40 h
    · have h := if_f c8 h
      refine r_aload_n 35 hk dX4_takeLine_34 rfl 1 rfl rfl ?_
      obtain ⟨r41, w42, ew42, h⟩ := ob_e h
      refine r_cVi 38 (As := []) (rest := []) hk (kX4_takeBand hN ew42) cf_RX4_84 mi_X4_takeBand ⟨TX4, 10, rfl⟩ dX4_takeLine_35 rfl (Nat.le_of_ble_eq_true rfl) (Nat.le_of_ble_eq_true rfl) (mk_4_0 (nx_4 hN (j := 0) (by decide))) rfl rfl (Nat.le_of_ble_eq_true rfl) ?_
      obtain ⟨b43, h⟩ := ck_e h
      exact r_zret hk hR dX4_takeLine_38 b43 h
  · have h := if_f c5 h
    refine r_aload_n 21 hk dX4_takeLine_20 rfl 1 rfl rfl ?_
    obtain ⟨r44, w45, ew45, h⟩ := ob_e h
    refine r_cVi 24 (As := []) (rest := []) hk (kX4_takeDisk hN ew45) cf_RX4_79 mi_X4_takeDisk ⟨TX4, 10, rfl⟩ dX4_takeLine_21 rfl (Nat.le_of_ble_eq_true rfl) (Nat.le_of_ble_eq_true rfl) (mk_4_0 (nx_4 hN (j := 0) (by decide))) rfl rfl (Nat.le_of_ble_eq_true rfl) ?_
    obtain ⟨b46, h⟩ := ck_e h
    exact r_zret hk hR dX4_takeLine_24 b46 h
def fX4_takeSemicolon (w : Wd) : Option (Int32 × Wd) :=
  if (((w 4 0).1 4) : Int32) = 0 then
    some (0, w)
  else
    if (((w 4 0).1 4) : Int32) = 3 then
      ob (fX4_moveOn w ) fun _ w4 =>
      some (1, w4)
    else
      ob (fX4_stopAt w (1) (((w 4 0).1 5))) fun r5 w6 =>
      ck (isb (r5)) <|
      some (r5, w6)
set_option maxRecDepth 100000 in
set_option maxHeartbeats 4000000 in
theorem kX4_takeSemicolon {l : Launch} {G : Gx} {al : Al} {w : Wd} {r : Int32} {wz : Wd} (hN : NX G) (h : fX4_takeSemicolon w = some (r, wz)) : MC l G yX4_takeSemicolon cX4_takeSemicolon 1 (some (.boolean)) 3 66 al w [.ref (al 4 0 0)] (some (.int r)) wz := by
  refine mc_of [(0, .ref (al 4 0 0))] (by decide) (Nat.le_of_ble_eq_true rfl) rfl ?_
  intro K hk hR hn hl hG
  subst hl; subst hG
  have hk : VH K RX4 cX4_takeSemicolon 3 66 := hk
  rw [fX4_takeSemicolon.eq_1] at h
  refine r_aload_n 1 hk dX4_takeSemicolon_0 rfl 0 rfl rfl ?_
  refine r_get 4 hk dX4_takeSemicolon_1 rfl ff_RX4_119 (mk_4_0 (nx_4 hN (j := 0) (by decide))) (gv_4_4 _ _ _) ?_
  refine r_if_ne 9 7 hk dX4_takeSemicolon_4 rfl rfl (fun c1 => ?_) (fun c1 => ?_)
  · have h := if_f c1 h
    refine r_aload_n 10 hk dX4_takeSemicolon_9 rfl 0 rfl rfl ?_
    refine r_get 13 hk dX4_takeSemicolon_10 rfl ff_RX4_119 (mk_4_0 (nx_4 hN (j := 0) (by decide))) (gv_4_4 _ _ _) ?_
    refine r_iconst 14 hk dX4_takeSemicolon_13 rfl ci_3 ?_
    refine r_icmp_eq 27 17 hk dX4_takeSemicolon_14 rfl rfl (fun c2 => ?_) (fun c2 => ?_)
    · have h := if_t c2 h
      refine r_aload_n 28 hk dX4_takeSemicolon_27 rfl 0 rfl rfl ?_
      obtain ⟨r3, w4, ew4, h⟩ := ob_e h
      refine r_cVv 31 (As := []) (rest := []) hk (kX4_moveOn hN ew4) cf_RX4_47 mi_X4_moveOn ⟨TX4, 10, rfl⟩ dX4_takeSemicolon_28 rfl (Nat.le_of_ble_eq_true rfl) (Nat.le_of_ble_eq_true rfl) (mk_4_0 (nx_4 hN (j := 0) (by decide))) rfl rfl (Nat.le_of_ble_eq_true rfl) ?_
      refine r_iconst 32 hk dX4_takeSemicolon_31 rfl ci_1 ?_
      exact r_zret hk hR dX4_takeSemicolon_32 (by decide) h
    · have h := if_f c2 h
      refine r_aload_n 18 hk dX4_takeSemicolon_17 rfl 0 rfl rfl ?_
      refine r_iconst 19 hk dX4_takeSemicolon_18 rfl ci_1 ?_
      refine r_aload_n 20 hk dX4_takeSemicolon_19 rfl 0 rfl rfl ?_
      refine r_get 23 hk dX4_takeSemicolon_20 rfl ff_RX4_116 (mk_4_0 (nx_4 hN (j := 0) (by decide))) (gv_4_5 _ _ _) ?_
      obtain ⟨r5, w6, ew6, h⟩ := ob_e h
      refine r_cVi 26 (As := [.int 1, .int (((w 4 0).1 5))]) (rest := []) hk (kX4_stopAt hN ew6) cf_RX4_66 mi_X4_stopAt ⟨TX4, 10, rfl⟩ dX4_takeSemicolon_23 rfl (Nat.le_of_ble_eq_true rfl) (Nat.le_of_ble_eq_true rfl) (mk_4_0 (nx_4 hN (j := 0) (by decide))) rfl rfl (Nat.le_of_ble_eq_true rfl) ?_
      obtain ⟨b7, h⟩ := ck_e h
      exact r_zret hk hR dX4_takeSemicolon_26 b7 h
  · have h := if_t c1 h
    refine r_iconst 8 hk dX4_takeSemicolon_7 rfl ci_0 ?_
    exact r_zret hk hR dX4_takeSemicolon_8 (by decide) h
def fX4_tellAll_93 (o2 : Nat) (w : Wd) : Option (Unit × Wd) :=
    if (((w 4 0).1 8) : Int32) = 0 then
      ckp ((w 4 0).2.2.1 2) 2 fun q24 =>
      if (((w 5 q24).1 3) : Int32) = 0 then
        ob (fX4_stopAt w (6) (((w 4 0).1 1))) fun r26 w27 =>
        some ((), w27)
      else
        some ((), w)
    else
      some ((), w)
def fX4_tellAll_54 (o2 : Nat) : Nat → Wd → Int32 → Int32 → Option (Unit × Wd)
  | 0, _, _, _ => none
  | n + 1, w, x3, x4 =>
    if (x3 : Int32) = 0 then
      fX4_tellAll_93 o2 w 
    else
      if (((w 4 0).1 1) : Int32) < x4 then
        fX4_tellAll_93 o2 w 
      else
        ob (fX4_takeLine w ) fun r14 w15 =>
        if (r14 : Int32) = 0 then
          lw (x4 + 1) fun x4_17 =>
          fX4_tellAll_54 o2 n w15 (0) (x4_17)
        else
          ob (fX4_takeSemicolon w15 ) fun r18 w19 =>
          if (r18 : Int32) = 0 then
            lw (x4 + 1) fun x4_21 =>
            fX4_tellAll_54 o2 n w19 (0) (x4_21)
          else
            lw (x4 + 1) fun x4_22 =>
            fX4_tellAll_54 o2 n w19 (1) (x4_22)
def fX4_tellAll (o2 : Nat) (w : Wd) (x1 : Int32) : Option (Unit × Wd) :=
  lw (sI w 4 0 1 ((if ((nI 700) : Int32) < x1 then (nI 700) else x1))) fun w1 =>
  lw (sP w1 4 0 2 (o2 + 1)) fun w2 =>
  ckp ((w2 4 0).2.2.1 2) 2 fun q3 =>
  ob (fX8_empty q3 w2 ) fun _ w5 =>
  lw (sI w5 4 0 3 (0)) fun w6 =>
  lw (sI w6 4 0 6 (0)) fun w7 =>
  lw (sI w7 4 0 8 (0)) fun w8 =>
  lw (sI w8 4 0 9 (0)) fun w9 =>
  ob (fX4_moveOn w9 ) fun _ w11 =>
  fX4_tellAll_54 o2 fuel0 w11 (1) (0)
set_option maxRecDepth 100000 in
set_option maxHeartbeats 4000000 in
theorem sX4_tellAll_93 {K : VC} {al : Al} {r : Unit} {wz : Wd} {o2 : Nat} (hk : VH K RX4 cX4_tellAll 8 184) (hR : VR K al none none wz) (hn : kn K = 5) (hN : NX (kG K)) (ho2 : o2 < gN (kG K) 8) (w : Wd) (h : fX4_tellAll_93 o2 w = some (r, wz)) : V K al w 93 [(0, .ref (al 4 0 0))] [] := by
  rw [fX4_tellAll_93.eq_1] at h
  refine r_aload_n 94 hk dX4_tellAll_93 rfl 0 rfl rfl ?_
  refine r_get 97 hk dX4_tellAll_94 rfl ff_RX4_41 (mk_4_0 (nx_4 hN (j := 0) (by decide))) (gv_4_8 _ _ _) ?_
  refine r_if_ne 124 100 hk dX4_tellAll_97 rfl rfl (fun c23 => ?_) (fun c23 => ?_)
  · have h := if_f c23 h
    exact r_vret hk hR dX4_tellAll_124 h
  · have h := if_t c23 h
    refine r_aload_n 101 hk dX4_tellAll_100 rfl 0 rfl rfl ?_
    refine r_get 104 hk dX4_tellAll_101 rfl ff_RX4_15 (mk_4_0 (nx_4 hN (j := 0) (by decide))) (gv_4_2 _ _ _) ?_
    obtain ⟨q24, eq24, lq24, h⟩ := ckp_e h
    refine r_pv1 eq24 ?_
    refine r_get 107 hk dX4_tellAll_104 rfl ff_RX4_57 (mk_8_0 (nx_8 hN lq24)) (gv_8_0 _ _ _) ?_
    refine r_get 110 hk dX4_tellAll_107 rfl ff_RX4_61 (mk_5_0 (nx_sh hN (nx_8 hN lq24))) (gv_5_3 _ _ _) ?_
    refine r_if_ne 124 113 hk dX4_tellAll_110 rfl rfl (fun c25 => ?_) (fun c25 => ?_)
    · have h := if_f c25 h
      exact r_vret hk hR dX4_tellAll_124 h
    · have h := if_t c25 h
      refine r_aload_n 114 hk dX4_tellAll_113 rfl 0 rfl rfl ?_
      refine r_bipush 116 hk dX4_tellAll_114 rfl cb_6 ?_
      refine r_aload_n 117 hk dX4_tellAll_116 rfl 0 rfl rfl ?_
      refine r_get 120 hk dX4_tellAll_117 rfl ff_RX4_25 (mk_4_0 (nx_4 hN (j := 0) (by decide))) (gv_4_1 _ _ _) ?_
      obtain ⟨r26, w27, ew27, h⟩ := ob_e h
      refine r_cVi 123 (As := [.int 6, .int (((w 4 0).1 1))]) (rest := []) hk (kX4_stopAt hN ew27) cf_RX4_66 mi_X4_stopAt ⟨TX4, 10, rfl⟩ dX4_tellAll_120 rfl (Nat.le_of_ble_eq_true rfl) (Nat.le_of_ble_eq_true rfl) (mk_4_0 (nx_4 hN (j := 0) (by decide))) rfl rfl (Nat.le_of_ble_eq_true rfl) ?_
      refine r_pop 124 hk dX4_tellAll_123 rfl rfl ?_
      exact r_vret hk hR dX4_tellAll_124 h
set_option maxRecDepth 100000 in
set_option maxHeartbeats 4000000 in
theorem sX4_tellAll_54 {K : VC} {al : Al} {r : Unit} {wz : Wd} {o2 : Nat} (hk : VH K RX4 cX4_tellAll 8 184) (hR : VR K al none none wz) (hn : kn K = 5) (hN : NX (kG K)) (ho2 : o2 < gN (kG K) 8) : ∀ (n : Nat) (w : Wd) (x3 : Int32) (x4 : Int32), fX4_tellAll_54 o2 n w x3 x4 = some (r, wz) → V K al w 54 [(0, .ref (al 4 0 0)), (3, .int x3), (4, .int x4)] [] := by
  intro n
  induction n with
  | zero => intro w x3 x4 h; cases h
  | succ n ih =>
    intro w x3 x4 h
    rw [fX4_tellAll_54.eq_2] at h
    refine r_iload_n 55 hk dX4_tellAll_54 rfl 1 rfl rfl ?_
    refine r_if_eq 93 58 hk dX4_tellAll_55 rfl rfl (fun c12 => ?_) (fun c12 => ?_)
    · have h := if_t c12 h
      refine r_sub [0] rfl ?_
      exact sX4_tellAll_93 hk hR hn hN ho2 _ h
    · have h := if_f c12 h
      refine r_iload 60 hk dX4_tellAll_58 rfl 2 rfl ?_
      refine r_aload_n 61 hk dX4_tellAll_60 rfl 0 rfl rfl ?_
      refine r_get 64 hk dX4_tellAll_61 rfl ff_RX4_25 (mk_4_0 (nx_4 hN (j := 0) (by decide))) (gv_4_1 _ _ _) ?_
      refine r_icmp_gt 93 67 hk dX4_tellAll_64 rfl rfl (fun c13 => ?_) (fun c13 => ?_)
      · have h := if_t c13 h
        refine r_sub [0] rfl ?_
        exact sX4_tellAll_93 hk hR hn hN ho2 _ h
      · have h := if_f c13 h
        refine r_aload_n 68 hk dX4_tellAll_67 rfl 0 rfl rfl ?_
        obtain ⟨r14, w15, ew15, h⟩ := ob_e h
        refine r_cVi 71 (As := []) (rest := []) hk (kX4_takeLine hN ew15) cf_RX4_50 mi_X4_takeLine ⟨TX4, 10, rfl⟩ dX4_tellAll_68 rfl (Nat.le_of_ble_eq_true rfl) (Nat.le_of_ble_eq_true rfl) (mk_4_0 (nx_4 hN (j := 0) (by decide))) rfl rfl (Nat.le_of_ble_eq_true rfl) ?_
        refine r_if_eq 85 74 hk dX4_tellAll_71 rfl rfl (fun c16 => ?_) (fun c16 => ?_)
        · have h := if_t c16 h
          refine r_iconst 86 hk dX4_tellAll_85 rfl ci_0 ?_
          refine r_istore_n 87 [(3, .int 0), (0, .ref (al 4 0 0)), (4, .int x4)] hk dX4_tellAll_86 rfl rfl hn (by decide) rfl rfl ?_
          obtain ⟨x4_17, ex4_17, h⟩ := lw_e h
          refine r_iinc 90 [(4, .int x4_17), (3, .int 0), (0, .ref (al 4 0 0))] hk (j := 2) dX4_tellAll_87 rfl hn (by decide) rfl ex4_17 rfl ?_
          refine r_goto 54 hk (x := 0) dX4_tellAll_90 rfl ?_
          refine r_sub [2, 1, 0] rfl ?_
          exact ih _ _ _ h
        · have h := if_f c16 h
          refine r_aload_n 75 hk dX4_tellAll_74 rfl 0 rfl rfl ?_
          obtain ⟨r18, w19, ew19, h⟩ := ob_e h
          refine r_cVi 78 (As := []) (rest := []) hk (kX4_takeSemicolon hN ew19) cf_RX4_54 mi_X4_takeSemicolon ⟨TX4, 10, rfl⟩ dX4_tellAll_75 rfl (Nat.le_of_ble_eq_true rfl) (Nat.le_of_ble_eq_true rfl) (mk_4_0 (nx_4 hN (j := 0) (by decide))) rfl rfl (Nat.le_of_ble_eq_true rfl) ?_
          refine r_if_eq 85 81 hk dX4_tellAll_78 rfl rfl (fun c20 => ?_) (fun c20 => ?_)
          · have h := if_t c20 h
            refine r_iconst 86 hk dX4_tellAll_85 rfl ci_0 ?_
            refine r_istore_n 87 [(3, .int 0), (0, .ref (al 4 0 0)), (4, .int x4)] hk dX4_tellAll_86 rfl rfl hn (by decide) rfl rfl ?_
            obtain ⟨x4_21, ex4_21, h⟩ := lw_e h
            refine r_iinc 90 [(4, .int x4_21), (3, .int 0), (0, .ref (al 4 0 0))] hk (j := 2) dX4_tellAll_87 rfl hn (by decide) rfl ex4_21 rfl ?_
            refine r_goto 54 hk (x := 0) dX4_tellAll_90 rfl ?_
            refine r_sub [2, 1, 0] rfl ?_
            exact ih _ _ _ h
          · have h := if_f c20 h
            refine r_iconst 82 hk dX4_tellAll_81 rfl ci_1 ?_
            refine r_goto 86 hk (x := 0) dX4_tellAll_82 rfl ?_
            refine r_istore_n 87 [(3, .int 1), (0, .ref (al 4 0 0)), (4, .int x4)] hk dX4_tellAll_86 rfl rfl hn (by decide) rfl rfl ?_
            obtain ⟨x4_22, ex4_22, h⟩ := lw_e h
            refine r_iinc 90 [(4, .int x4_22), (3, .int 1), (0, .ref (al 4 0 0))] hk (j := 2) dX4_tellAll_87 rfl hn (by decide) rfl ex4_22 rfl ?_
            refine r_goto 54 hk (x := 0) dX4_tellAll_90 rfl ?_
            refine r_sub [2, 1, 0] rfl ?_
            exact ih _ _ _ h
set_option maxRecDepth 100000 in
set_option maxHeartbeats 4000000 in
theorem kX4_tellAll {l : Launch} {G : Gx} {al : Al} {o2 : Nat} {w : Wd} {x1 : Int32} {r : Unit} {wz : Wd} (hN : NX G) (ho2 : o2 < gN G 8) (h : fX4_tellAll o2 w x1 = some (r, wz)) : MC l G yX4_tellAll cX4_tellAll 5 none 8 184 al w [.ref (al 4 0 0), .int x1, .ref (al 8 o2 0)] none wz := by
  refine mc_of [(0, .ref (al 4 0 0)), (1, .int x1), (2, .ref (al 8 o2 0))] (by decide) (Nat.le_of_ble_eq_true rfl) rfl ?_
  intro K hk hR hn hl hG
  subst hl; subst hG
  have hk : VH K RX4 cX4_tellAll 8 184 := hk
  rw [fX4_tellAll.eq_1] at h
  refine r_aload_n 1 hk dX4_tellAll_0 rfl 0 rfl rfl ?_
  refine r_iload_n 2 hk dX4_tellAll_1 rfl 1 rfl rfl ?_
  refine r_aload_n 3 hk dX4_tellAll_2 rfl 0 rfl rfl ?_
  refine r_get 6 hk dX4_tellAll_3 rfl ff_RX4_9 (mk_4_0 (nx_4 hN (j := 0) (by decide))) (gv_4_0 _ _ _) ?_
  refine r_alen 7 hk dX4_tellAll_6 rfl (mk_9_1 (nx_9 hN (j := 0) (by decide))) rfl ?_
  refine r_min 10 hk dX4_tellAll_7 rfl km_RX4_19 (Nat.le_of_ble_eq_true rfl) (Nat.le_of_ble_eq_true rfl) ?_
  obtain ⟨w1, ew1, h⟩ := lw_e h
  refine r_putI 13 w1 hk dX4_tellAll_10 rfl ff_RX4_25 fi_4_1 (mk_4_0 (nx_4 hN (j := 0) (by decide))) ew1 ?_
  refine r_aload_n 14 hk dX4_tellAll_13 rfl 0 rfl rfl ?_
  refine r_aload_n 15 hk dX4_tellAll_14 rfl 2 rfl rfl ?_
  obtain ⟨w2, ew2, h⟩ := lw_e h
  refine r_putP 18 w2 hk dX4_tellAll_15 rfl ff_RX4_15 fi_4_2 (mk_4_0 (nx_4 hN (j := 0) (by decide))) ew2 ?_
  refine r_aload_n 19 hk dX4_tellAll_18 rfl 0 rfl rfl ?_
  refine r_get 22 hk dX4_tellAll_19 rfl ff_RX4_15 (mk_4_0 (nx_4 hN (j := 0) (by decide))) (gv_4_2 _ _ _) ?_
  obtain ⟨q3, eq3, lq3, h⟩ := ckp_e h
  refine r_pv1 eq3 ?_
  obtain ⟨r4, w5, ew5, h⟩ := ob_e h
  refine r_cVv 25 (As := []) (rest := []) hk (kX8_empty hN (nx_8 hN lq3) ew5) cf_RX4_29 mi_X8_empty ⟨TX8, 5, rfl⟩ dX4_tellAll_22 rfl (Nat.le_of_ble_eq_true rfl) (Nat.le_of_ble_eq_true rfl) (mk_8_0 (nx_8 hN lq3)) rfl rfl (Nat.le_of_ble_eq_true rfl) ?_
  refine r_aload_n 26 hk dX4_tellAll_25 rfl 0 rfl rfl ?_
  refine r_iconst 27 hk dX4_tellAll_26 rfl ci_0 ?_
  obtain ⟨w6, ew6, h⟩ := lw_e h
  refine r_putZ 30 w6 hk dX4_tellAll_27 rfl ff_RX4_34 fi_4_3 (by decide) (mk_4_0 (nx_4 hN (j := 0) (by decide))) ew6 ?_
  refine r_aload_n 31 hk dX4_tellAll_30 rfl 0 rfl rfl ?_
  refine r_iconst 32 hk dX4_tellAll_31 rfl ci_0 ?_
  obtain ⟨w7, ew7, h⟩ := lw_e h
  refine r_putI 35 w7 hk dX4_tellAll_32 rfl ff_RX4_38 fi_4_6 (mk_4_0 (nx_4 hN (j := 0) (by decide))) ew7 ?_
  refine r_aload_n 36 hk dX4_tellAll_35 rfl 0 rfl rfl ?_
  refine r_iconst 37 hk dX4_tellAll_36 rfl ci_0 ?_
  obtain ⟨w8, ew8, h⟩ := lw_e h
  refine r_putI 40 w8 hk dX4_tellAll_37 rfl ff_RX4_41 fi_4_8 (mk_4_0 (nx_4 hN (j := 0) (by decide))) ew8 ?_
  refine r_aload_n 41 hk dX4_tellAll_40 rfl 0 rfl rfl ?_
  refine r_iconst 42 hk dX4_tellAll_41 rfl ci_0 ?_
  obtain ⟨w9, ew9, h⟩ := lw_e h
  refine r_putI 45 w9 hk dX4_tellAll_42 rfl ff_RX4_44 fi_4_9 (mk_4_0 (nx_4 hN (j := 0) (by decide))) ew9 ?_
  refine r_aload_n 46 hk dX4_tellAll_45 rfl 0 rfl rfl ?_
  obtain ⟨r10, w11, ew11, h⟩ := ob_e h
  refine r_cVv 49 (As := []) (rest := []) hk (kX4_moveOn hN ew11) cf_RX4_47 mi_X4_moveOn ⟨TX4, 10, rfl⟩ dX4_tellAll_46 rfl (Nat.le_of_ble_eq_true rfl) (Nat.le_of_ble_eq_true rfl) (mk_4_0 (nx_4 hN (j := 0) (by decide))) rfl rfl (Nat.le_of_ble_eq_true rfl) ?_
  refine r_iconst 50 hk dX4_tellAll_49 rfl ci_1 ?_
  refine r_istore_n 51 [(3, .int 1), (0, .ref (al 4 0 0)), (1, .int x1), (2, .ref (al 8 o2 0))] hk dX4_tellAll_50 rfl rfl hn (by decide) rfl rfl ?_
  refine r_iconst 52 hk dX4_tellAll_51 rfl ci_0 ?_
  refine r_istore 54 [(4, .int 0), (3, .int 1), (0, .ref (al 4 0 0)), (1, .int x1), (2, .ref (al 8 o2 0))] hk dX4_tellAll_52 rfl hn (by decide) rfl rfl ?_
  refine r_sub [2, 1, 0] rfl ?_
  exact sX4_tellAll_54 hk hR hn hN ho2 _ _ _ _ h
def fX5_takeRules (j : Nat) (o1 : Nat) (w : Wd) : Option (Unit × Wd) :=
  ob (fX5_empty j w ) fun _ w2 =>
  lw (sI w2 5 j 5 (((w2 5 o1).1 5))) fun w3 =>
  lw (sI w3 5 j 6 (((w3 5 o1).1 6))) fun w4 =>
  ck (isb (((w4 5 o1).1 7))) <|
  lw (sI w4 5 j 7 (((w4 5 o1).1 7))) fun w5 =>
  some ((), w5)
set_option maxRecDepth 100000 in
set_option maxHeartbeats 4000000 in
theorem kX5_takeRules {l : Launch} {G : Gx} {al : Al} {j : Nat} {o1 : Nat} {w : Wd} {r : Unit} {wz : Wd} (hN : NX G) (hj : j < gN G 5) (ho1 : o1 < gN G 5) (h : fX5_takeRules j o1 w = some (r, wz)) : MC l G yX5_takeRules cX5_takeRules 2 none 1 20 al w [.ref (al 5 j 0), .ref (al 5 o1 0)] none wz := by
  refine mc_of [(0, .ref (al 5 j 0)), (1, .ref (al 5 o1 0))] (by decide) (Nat.le_of_ble_eq_true rfl) rfl ?_
  intro K hk hR hn hl hG
  subst hl; subst hG
  have hk : VH K RX5 cX5_takeRules 1 20 := hk
  rw [fX5_takeRules.eq_1] at h
  refine r_aload_n 1 hk dX5_takeRules_0 rfl 0 rfl rfl ?_
  obtain ⟨r1, w2, ew2, h⟩ := ob_e h
  refine r_cVv 4 (As := []) (rest := []) hk (kX5_empty hN hj ew2) cf_RX5_60 mi_X5_empty ⟨TX5, 8, rfl⟩ dX5_takeRules_1 rfl (Nat.le_of_ble_eq_true rfl) (Nat.le_of_ble_eq_true rfl) (mk_5_0 hj) rfl rfl (Nat.le_of_ble_eq_true rfl) ?_
  refine r_aload_n 5 hk dX5_takeRules_4 rfl 0 rfl rfl ?_
  refine r_aload_n 6 hk dX5_takeRules_5 rfl 1 rfl rfl ?_
  refine r_get 9 hk dX5_takeRules_6 rfl ff_RX5_28 (mk_5_0 ho1) (gv_5_5 _ _ _) ?_
  obtain ⟨w3, ew3, h⟩ := lw_e h
  refine r_putI 12 w3 hk dX5_takeRules_9 rfl ff_RX5_28 fi_5_5 (mk_5_0 hj) ew3 ?_
  refine r_aload_n 13 hk dX5_takeRules_12 rfl 0 rfl rfl ?_
  refine r_aload_n 14 hk dX5_takeRules_13 rfl 1 rfl rfl ?_
  refine r_get 17 hk dX5_takeRules_14 rfl ff_RX5_31 (mk_5_0 ho1) (gv_5_6 _ _ _) ?_
  obtain ⟨w4, ew4, h⟩ := lw_e h
  refine r_putI 20 w4 hk dX5_takeRules_17 rfl ff_RX5_31 fi_5_6 (mk_5_0 hj) ew4 ?_
  refine r_aload_n 21 hk dX5_takeRules_20 rfl 0 rfl rfl ?_
  refine r_aload_n 22 hk dX5_takeRules_21 rfl 1 rfl rfl ?_
  refine r_get 25 hk dX5_takeRules_22 rfl ff_RX5_34 (mk_5_0 ho1) (gv_5_7 _ _ _) ?_
  obtain ⟨b6, h⟩ := ck_e h
  obtain ⟨w5, ew5, h⟩ := lw_e h
  refine r_putZ 28 w5 hk dX5_takeRules_25 rfl ff_RX5_34 fi_5_7 b6 (mk_5_0 hj) ew5 ?_
  exact r_vret hk hR dX5_takeRules_28 h
def fX5_becomeBySize_7 (j : Nat) (o1 : Nat) : Nat → Wd → Int32 → Int32 → Option (Unit × Wd)
  | 0, _, _, _ => none
  | n + 1, w, x2, x3 =>
    if (x2 : Int32) ≤ 0 then
      some ((), w)
    else
      if (((w 5 o1).1 4) : Int32) ≤ x3 then
        some ((), w)
      else
        ob (fX5_addBand j w ((if ((((w 5 o1).1 4) - x3) : Int32) < x2 then (((w 5 o1).1 4) - x3) else x2))) fun _ w6 =>
        lw ((x3 + x2)) fun x3_7 =>
        fX5_becomeBySize_7 j o1 n w6 (x2) (x3_7)
def fX5_becomeBySize (j : Nat) (o1 : Nat) (w : Wd) (x2 : Int32) : Option (Unit × Wd) :=
  ob (fX5_takeRules j o1 w ) fun _ w2 =>
  fX5_becomeBySize_7 j o1 fuel0 w2 (x2) (0)
set_option maxRecDepth 100000 in
set_option maxHeartbeats 4000000 in
theorem sX5_becomeBySize_7 {K : VC} {al : Al} {r : Unit} {wz : Wd} {j : Nat} {o1 : Nat} (hk : VH K RX5 cX5_becomeBySize 2 41) (hR : VR K al none none wz) (hn : kn K = 4) (hN : NX (kG K)) (hj : j < gN (kG K) 5) (ho1 : o1 < gN (kG K) 5) : ∀ (n : Nat) (w : Wd) (x2 : Int32) (x3 : Int32), fX5_becomeBySize_7 j o1 n w x2 x3 = some (r, wz) → V K al w 7 [(0, .ref (al 5 j 0)), (1, .ref (al 5 o1 0)), (2, .int x2), (3, .int x3)] [] := by
  intro n
  induction n with
  | zero => intro w x2 x3 h; cases h
  | succ n ih =>
    intro w x2 x3 h
    rw [fX5_becomeBySize_7.eq_2] at h
    refine r_iload_n 8 hk dX5_becomeBySize_7 rfl 2 rfl rfl ?_
    refine r_if_le 40 11 hk dX5_becomeBySize_8 rfl rfl (fun c3 => ?_) (fun c3 => ?_)
    · have h := if_t c3 h
      exact r_vret hk hR dX5_becomeBySize_40 h
    · have h := if_f c3 h
      refine r_iload_n 12 hk dX5_becomeBySize_11 rfl 3 rfl rfl ?_
      refine r_aload_n 13 hk dX5_becomeBySize_12 rfl 1 rfl rfl ?_
      refine r_get 16 hk dX5_becomeBySize_13 rfl ff_RX5_25 (mk_5_0 ho1) (gv_5_4 _ _ _) ?_
      refine r_icmp_ge 40 19 hk dX5_becomeBySize_16 rfl rfl (fun c4 => ?_) (fun c4 => ?_)
      · have h := if_t c4 h
        exact r_vret hk hR dX5_becomeBySize_40 h
      · have h := if_f c4 h
        refine r_aload_n 20 hk dX5_becomeBySize_19 rfl 0 rfl rfl ?_
        refine r_iload_n 21 hk dX5_becomeBySize_20 rfl 2 rfl rfl ?_
        refine r_aload_n 22 hk dX5_becomeBySize_21 rfl 1 rfl rfl ?_
        refine r_get 25 hk dX5_becomeBySize_22 rfl ff_RX5_25 (mk_5_0 ho1) (gv_5_4 _ _ _) ?_
        refine r_iload_n 26 hk dX5_becomeBySize_25 rfl 3 rfl rfl ?_
        refine r_isub 27 hk dX5_becomeBySize_26 rfl ?_
        refine r_min 30 hk dX5_becomeBySize_27 rfl km_RX5_50 (Nat.le_of_ble_eq_true rfl) (Nat.le_of_ble_eq_true rfl) ?_
        obtain ⟨r5, w6, ew6, h⟩ := ob_e h
        refine r_cVv 33 (As := [.int ((if ((((w 5 o1).1 4) - x3) : Int32) < x2 then (((w 5 o1).1 4) - x3) else x2))]) (rest := []) hk (kX5_addBand hN hj ew6) cf_RX5_56 mi_X5_addBand ⟨TX5, 8, rfl⟩ dX5_becomeBySize_30 rfl (Nat.le_of_ble_eq_true rfl) (Nat.le_of_ble_eq_true rfl) (mk_5_0 hj) rfl rfl (Nat.le_of_ble_eq_true rfl) ?_
        refine r_iload_n 34 hk dX5_becomeBySize_33 rfl 3 rfl rfl ?_
        refine r_iload_n 35 hk dX5_becomeBySize_34 rfl 2 rfl rfl ?_
        refine r_iadd 36 hk dX5_becomeBySize_35 rfl ?_
        obtain ⟨x3_7, ex3_7, h⟩ := lw_e h
        refine r_istore_n 37 [(3, .int x3_7), (0, .ref (al 5 j 0)), (1, .ref (al 5 o1 0)), (2, .int x2)] hk dX5_becomeBySize_36 rfl rfl hn (by decide) ex3_7 rfl ?_
        refine r_goto 7 hk (x := 0) dX5_becomeBySize_37 rfl ?_
        refine r_sub [1, 2, 3, 0] rfl ?_
        exact ih _ _ _ h
set_option maxRecDepth 100000 in
set_option maxHeartbeats 4000000 in
theorem kX5_becomeBySize {l : Launch} {G : Gx} {al : Al} {j : Nat} {o1 : Nat} {w : Wd} {x2 : Int32} {r : Unit} {wz : Wd} (hN : NX G) (hj : j < gN G 5) (ho1 : o1 < gN G 5) (h : fX5_becomeBySize j o1 w x2 = some (r, wz)) : MC l G yX5_becomeBySize cX5_becomeBySize 4 none 2 41 al w [.ref (al 5 j 0), .ref (al 5 o1 0), .int x2] none wz := by
  refine mc_of [(0, .ref (al 5 j 0)), (1, .ref (al 5 o1 0)), (2, .int x2)] (by decide) (Nat.le_of_ble_eq_true rfl) rfl ?_
  intro K hk hR hn hl hG
  subst hl; subst hG
  have hk : VH K RX5 cX5_becomeBySize 2 41 := hk
  rw [fX5_becomeBySize.eq_1] at h
  refine r_aload_n 1 hk dX5_becomeBySize_0 rfl 0 rfl rfl ?_
  refine r_aload_n 2 hk dX5_becomeBySize_1 rfl 1 rfl rfl ?_
  obtain ⟨r1, w2, ew2, h⟩ := ob_e h
  refine r_cVv 5 (As := [.ref (al 5 o1 0)]) (rest := []) hk (kX5_takeRules hN hj ho1 ew2) cf_RX5_46 mi_X5_takeRules ⟨TX5, 8, rfl⟩ dX5_becomeBySize_2 rfl (Nat.le_of_ble_eq_true rfl) (Nat.le_of_ble_eq_true rfl) (mk_5_0 hj) rfl rfl (Nat.le_of_ble_eq_true rfl) ?_
  refine r_iconst 6 hk dX5_becomeBySize_5 rfl ci_0 ?_
  refine r_istore_n 7 [(3, .int 0), (0, .ref (al 5 j 0)), (1, .ref (al 5 o1 0)), (2, .int x2)] hk dX5_becomeBySize_6 rfl rfl hn (by decide) rfl rfl ?_
  refine r_sub [1, 2, 3, 0] rfl ?_
  exact sX5_becomeBySize_7 hk hR hn hN hj ho1 _ _ _ _ h
def fX5_becomeByLog_7 (j : Nat) (o1 : Nat) : Nat → Wd → Int32 → Int32 → Option (Unit × Wd)
  | 0, _, _, _ => none
  | n + 1, w, x2, x3 =>
    if (((w 5 o1).1 3) : Int32) ≤ x3 then
      lw (sI w 5 j 6 (x2)) fun w4 =>
      some ((), w4)
    else
      ob (fX5_tracksOf o1 w (x3)) fun r5 w6 =>
      ob (fX5_addBand j w6 (r5)) fun _ w8 =>
      lw (x3 + 1) fun x3_9 =>
      fX5_becomeByLog_7 j o1 n w8 (x2) (x3_9)
def fX5_becomeByLog (j : Nat) (o1 : Nat) (w : Wd) (x2 : Int32) : Option (Unit × Wd) :=
  ob (fX5_takeRules j o1 w ) fun _ w2 =>
  fX5_becomeByLog_7 j o1 fuel0 w2 (x2) (0)
set_option maxRecDepth 100000 in
set_option maxHeartbeats 4000000 in
theorem sX5_becomeByLog_7 {K : VC} {al : Al} {r : Unit} {wz : Wd} {j : Nat} {o1 : Nat} (hk : VH K RX5 cX5_becomeByLog 2 42) (hR : VR K al none none wz) (hn : kn K = 4) (hN : NX (kG K)) (hj : j < gN (kG K) 5) (ho1 : o1 < gN (kG K) 5) : ∀ (n : Nat) (w : Wd) (x2 : Int32) (x3 : Int32), fX5_becomeByLog_7 j o1 n w x2 x3 = some (r, wz) → V K al w 7 [(0, .ref (al 5 j 0)), (1, .ref (al 5 o1 0)), (2, .int x2), (3, .int x3)] [] := by
  intro n
  induction n with
  | zero => intro w x2 x3 h; cases h
  | succ n ih =>
    intro w x2 x3 h
    rw [fX5_becomeByLog_7.eq_2] at h
    refine r_iload_n 8 hk dX5_becomeByLog_7 rfl 3 rfl rfl ?_
    refine r_aload_n 9 hk dX5_becomeByLog_8 rfl 1 rfl rfl ?_
    refine r_get 12 hk dX5_becomeByLog_9 rfl ff_RX5_21 (mk_5_0 ho1) (gv_5_3 _ _ _) ?_
    refine r_icmp_ge 30 15 hk dX5_becomeByLog_12 rfl rfl (fun c3 => ?_) (fun c3 => ?_)
    · have h := if_t c3 h
      refine r_aload_n 31 hk dX5_becomeByLog_30 rfl 0 rfl rfl ?_
      refine r_iload_n 32 hk dX5_becomeByLog_31 rfl 2 rfl rfl ?_
      obtain ⟨w4, ew4, h⟩ := lw_e h
      refine r_putI 35 w4 hk dX5_becomeByLog_32 rfl ff_RX5_31 fi_5_6 (mk_5_0 hj) ew4 ?_
      exact r_vret hk hR dX5_becomeByLog_35 h
    · have h := if_f c3 h
      refine r_aload_n 16 hk dX5_becomeByLog_15 rfl 0 rfl rfl ?_
      refine r_aload_n 17 hk dX5_becomeByLog_16 rfl 1 rfl rfl ?_
      refine r_iload_n 18 hk dX5_becomeByLog_17 rfl 3 rfl rfl ?_
      obtain ⟨r5, w6, ew6, h⟩ := ob_e h
      refine r_cVi 21 (As := [.int x3]) (rest := [.ref (al 5 j 0)]) hk (kX5_tracksOf hN ho1 ew6) cf_RX5_42 mi_X5_tracksOf ⟨TX5, 8, rfl⟩ dX5_becomeByLog_18 rfl (Nat.le_of_ble_eq_true rfl) (Nat.le_of_ble_eq_true rfl) (mk_5_0 ho1) rfl rfl (Nat.le_of_ble_eq_true rfl) ?_
      obtain ⟨r7, w8, ew8, h⟩ := ob_e h
      refine r_cVv 24 (As := [.int r5]) (rest := []) hk (kX5_addBand hN hj ew8) cf_RX5_56 mi_X5_addBand ⟨TX5, 8, rfl⟩ dX5_becomeByLog_21 rfl (Nat.le_of_ble_eq_true rfl) (Nat.le_of_ble_eq_true rfl) (mk_5_0 hj) rfl rfl (Nat.le_of_ble_eq_true rfl) ?_
      obtain ⟨x3_9, ex3_9, h⟩ := lw_e h
      refine r_iinc 27 [(3, .int x3_9), (0, .ref (al 5 j 0)), (1, .ref (al 5 o1 0)), (2, .int x2)] hk (j := 3) dX5_becomeByLog_24 rfl hn (by decide) rfl ex3_9 rfl ?_
      refine r_goto 7 hk (x := 0) dX5_becomeByLog_27 rfl ?_
      refine r_sub [1, 2, 3, 0] rfl ?_
      exact ih _ _ _ h
set_option maxRecDepth 100000 in
set_option maxHeartbeats 4000000 in
theorem kX5_becomeByLog {l : Launch} {G : Gx} {al : Al} {j : Nat} {o1 : Nat} {w : Wd} {x2 : Int32} {r : Unit} {wz : Wd} (hN : NX G) (hj : j < gN G 5) (ho1 : o1 < gN G 5) (h : fX5_becomeByLog j o1 w x2 = some (r, wz)) : MC l G yX5_becomeByLog cX5_becomeByLog 4 none 2 42 al w [.ref (al 5 j 0), .ref (al 5 o1 0), .int x2] none wz := by
  refine mc_of [(0, .ref (al 5 j 0)), (1, .ref (al 5 o1 0)), (2, .int x2)] (by decide) (Nat.le_of_ble_eq_true rfl) rfl ?_
  intro K hk hR hn hl hG
  subst hl; subst hG
  have hk : VH K RX5 cX5_becomeByLog 2 42 := hk
  rw [fX5_becomeByLog.eq_1] at h
  refine r_aload_n 1 hk dX5_becomeByLog_0 rfl 0 rfl rfl ?_
  refine r_aload_n 2 hk dX5_becomeByLog_1 rfl 1 rfl rfl ?_
  obtain ⟨r1, w2, ew2, h⟩ := ob_e h
  refine r_cVv 5 (As := [.ref (al 5 o1 0)]) (rest := []) hk (kX5_takeRules hN hj ho1 ew2) cf_RX5_46 mi_X5_takeRules ⟨TX5, 8, rfl⟩ dX5_becomeByLog_2 rfl (Nat.le_of_ble_eq_true rfl) (Nat.le_of_ble_eq_true rfl) (mk_5_0 hj) rfl rfl (Nat.le_of_ble_eq_true rfl) ?_
  refine r_iconst 6 hk dX5_becomeByLog_5 rfl ci_0 ?_
  refine r_istore_n 7 [(3, .int 0), (0, .ref (al 5 j 0)), (1, .ref (al 5 o1 0)), (2, .int x2)] hk dX5_becomeByLog_6 rfl rfl hn (by decide) rfl rfl ?_
  refine r_sub [1, 2, 3, 0] rfl ?_
  exact sX5_becomeByLog_7 hk hR hn hN hj ho1 _ _ _ _ h
def fX7_begin_26 (j : Nat) (o1 : Nat) : Nat → Wd → Int32 → Option (Unit × Wd)
  | 0, _, _ => none
  | n + 1, w, x2 =>
    if (((w 3 o1).1 2) : Int32) ≤ x2 then
      lw (sI w 7 j 4 (0)) fun w6 =>
      ob (fX7_emptyJournal j w6 ) fun _ w8 =>
      lw (sI w8 7 j 8 (0)) fun w9 =>
      lw (sI w9 7 j 9 (0)) fun w10 =>
      lw (sI w10 7 j 10 (0)) fun w11 =>
      some ((), w11)
    else
      ob (fX3_firstOf o1 w (x2)) fun r12 w13 =>
      if (r12 : Int32) < 0 then
        lw (x2 + 1) fun x2_15 =>
        fX7_begin_26 j o1 n w13 (x2_15)
      else
        if ((nI 48) : Int32) ≤ r12 then
          lw (x2 + 1) fun x2_17 =>
          fX7_begin_26 j o1 n w13 (x2_17)
        else
          ob (fX3_secondOf o1 w13 (x2)) fun r18 w19 =>
          ck (inb (r12) 48) <|
          lw (sA w19 7 j 0 (r12 : Int32).toNatClampNeg (r18)) fun w21 =>
          lw (x2 + 1) fun x2_22 =>
          fX7_begin_26 j o1 n w21 (x2_22)
def fX7_begin_2 (j : Nat) (o1 : Nat) : Nat → Wd → Int32 → Option (Unit × Wd)
  | 0, _, _ => none
  | n + 1, w, x2 =>
    if ((nI 48) : Int32) ≤ x2 then
      fX7_begin_26 j o1 fuel0 w (0)
    else
      ck (inb (x2) 48) <|
      lw (sA w 7 j 0 (x2 : Int32).toNatClampNeg (0)) fun w3 =>
      lw (x2 + 1) fun x2_4 =>
      fX7_begin_2 j o1 n w3 (x2_4)
def fX7_begin (j : Nat) (o1 : Nat) (w : Wd) : Option (Unit × Wd) :=
  fX7_begin_2 j o1 fuel0 w (0)
set_option maxRecDepth 100000 in
set_option maxHeartbeats 4000000 in
theorem sX7_begin_26 {K : VC} {al : Al} {r : Unit} {wz : Wd} {j : Nat} {o1 : Nat} (hk : VH K RX7 cX7_begin 2 42) (hR : VR K al none none wz) (hn : kn K = 4) (hN : NX (kG K)) (hj : j < gN (kG K) 7) (ho1 : o1 < gN (kG K) 3) : ∀ (n : Nat) (w : Wd) (x2 : Int32), fX7_begin_26 j o1 n w x2 = some (r, wz) → V K al w 26 [(0, .ref (al 7 j 0)), (1, .ref (al 3 o1 0)), (2, .int x2)] [] := by
  intro n
  induction n with
  | zero => intro w x2 h; cases h
  | succ n ih =>
    intro w x2 h
    rw [fX7_begin_26.eq_2] at h
    refine r_iload_n 27 hk dX7_begin_26 rfl 2 rfl rfl ?_
    refine r_aload_n 28 hk dX7_begin_27 rfl 1 rfl rfl ?_
    refine r_get 31 hk dX7_begin_28 rfl ff_RX7_24 (mk_3_0 ho1) (gv_3_2 _ _ _) ?_
    refine r_icmp_ge 70 34 hk dX7_begin_31 rfl rfl (fun c5 => ?_) (fun c5 => ?_)
    · have h := if_t c5 h
      refine r_aload_n 71 hk dX7_begin_70 rfl 0 rfl rfl ?_
      refine r_iconst 72 hk dX7_begin_71 rfl ci_0 ?_
      obtain ⟨w6, ew6, h⟩ := lw_e h
      refine r_putI 75 w6 hk dX7_begin_72 rfl ff_RX7_37 fi_7_4 (mk_7_0 hj) ew6 ?_
      refine r_aload_n 76 hk dX7_begin_75 rfl 0 rfl rfl ?_
      obtain ⟨r7, w8, ew8, h⟩ := ob_e h
      refine r_cVv 79 (As := []) (rest := []) hk (kX7_emptyJournal hN hj ew8) cf_RX7_40 mi_X7_emptyJournal ⟨TX7, 11, rfl⟩ dX7_begin_76 rfl (Nat.le_of_ble_eq_true rfl) (Nat.le_of_ble_eq_true rfl) (mk_7_0 hj) rfl rfl (Nat.le_of_ble_eq_true rfl) ?_
      refine r_aload_n 80 hk dX7_begin_79 rfl 0 rfl rfl ?_
      refine r_iconst 81 hk dX7_begin_80 rfl ci_0 ?_
      obtain ⟨w9, ew9, h⟩ := lw_e h
      refine r_putZ 84 w9 hk dX7_begin_81 rfl ff_RX7_43 fi_7_8 (by decide) (mk_7_0 hj) ew9 ?_
      refine r_aload_n 85 hk dX7_begin_84 rfl 0 rfl rfl ?_
      refine r_iconst 86 hk dX7_begin_85 rfl ci_0 ?_
      obtain ⟨w10, ew10, h⟩ := lw_e h
      refine r_putI 89 w10 hk dX7_begin_86 rfl ff_RX7_47 fi_7_9 (mk_7_0 hj) ew10 ?_
      refine r_aload_n 90 hk dX7_begin_89 rfl 0 rfl rfl ?_
      refine r_iconst 91 hk dX7_begin_90 rfl ci_0 ?_
      obtain ⟨w11, ew11, h⟩ := lw_e h
      refine r_putI 94 w11 hk dX7_begin_91 rfl ff_RX7_50 fi_7_10 (mk_7_0 hj) ew11 ?_
      exact r_vret hk hR dX7_begin_94 h
    · have h := if_f c5 h
      refine r_aload_n 35 hk dX7_begin_34 rfl 1 rfl rfl ?_
      refine r_iload_n 36 hk dX7_begin_35 rfl 2 rfl rfl ?_
      obtain ⟨r12, w13, ew13, h⟩ := ob_e h
      refine r_cVi 39 (As := [.int x2]) (rest := []) hk (kX3_firstOf hN ho1 ew13) cf_RX7_30 mi_X3_firstOf ⟨TX3, 3, rfl⟩ dX7_begin_36 rfl (Nat.le_of_ble_eq_true rfl) (Nat.le_of_ble_eq_true rfl) (mk_3_0 ho1) rfl rfl (Nat.le_of_ble_eq_true rfl) ?_
      refine r_istore_n 40 [(3, .int r12), (0, .ref (al 7 j 0)), (1, .ref (al 3 o1 0)), (2, .int x2)] hk dX7_begin_39 rfl rfl hn (by decide) rfl rfl ?_
      refine r_iload_n 41 hk dX7_begin_40 rfl 0 rfl rfl ?_
      refine r_if_lt 64 44 hk dX7_begin_41 rfl rfl (fun c14 => ?_) (fun c14 => ?_)
      · have h := if_t c14 h
        obtain ⟨x2_15, ex2_15, h⟩ := lw_e h
        refine r_iinc 67 [(2, .int x2_15), (3, .int r12), (0, .ref (al 7 j 0)), (1, .ref (al 3 o1 0))] hk (j := 3) dX7_begin_64 rfl hn (by decide) rfl ex2_15 rfl ?_
        refine r_goto 26 hk (x := 0) dX7_begin_67 rfl ?_
        refine r_sub [2, 3, 0] rfl ?_
        exact ih _ _ h
      · have h := if_f c14 h
        refine r_iload_n 45 hk dX7_begin_44 rfl 0 rfl rfl ?_
        refine r_aload_n 46 hk dX7_begin_45 rfl 1 rfl rfl ?_
        refine r_get 49 hk dX7_begin_46 rfl ff_RX7_9 (mk_7_0 hj) (gv_7_0 _ _ _) ?_
        refine r_alen 50 hk dX7_begin_49 rfl (mk_7_1 hj) rfl ?_
        refine r_icmp_ge 64 53 hk dX7_begin_50 rfl rfl (fun c16 => ?_) (fun c16 => ?_)
        · have h := if_t c16 h
          obtain ⟨x2_17, ex2_17, h⟩ := lw_e h
          refine r_iinc 67 [(2, .int x2_17), (3, .int r12), (0, .ref (al 7 j 0)), (1, .ref (al 3 o1 0))] hk (j := 3) dX7_begin_64 rfl hn (by decide) rfl ex2_17 rfl ?_
          refine r_goto 26 hk (x := 0) dX7_begin_67 rfl ?_
          refine r_sub [2, 3, 0] rfl ?_
          exact ih _ _ h
        · have h := if_f c16 h
          refine r_aload_n 54 hk dX7_begin_53 rfl 1 rfl rfl ?_
          refine r_get 57 hk dX7_begin_54 rfl ff_RX7_9 (mk_7_0 hj) (gv_7_0 _ _ _) ?_
          refine r_iload_n 58 hk dX7_begin_57 rfl 0 rfl rfl ?_
          refine r_aload_n 59 hk dX7_begin_58 rfl 2 rfl rfl ?_
          refine r_iload_n 60 hk dX7_begin_59 rfl 3 rfl rfl ?_
          obtain ⟨r18, w19, ew19, h⟩ := ob_e h
          refine r_cVi 63 (As := [.int x2]) (rest := [.int r12, .ref (al 7 j 1)]) hk (kX3_secondOf hN ho1 ew19) cf_RX7_34 mi_X3_secondOf ⟨TX3, 3, rfl⟩ dX7_begin_60 rfl (Nat.le_of_ble_eq_true rfl) (Nat.le_of_ble_eq_true rfl) (mk_3_0 ho1) rfl rfl (Nat.le_of_ble_eq_true rfl) ?_
          obtain ⟨b20, h⟩ := ck_e h
          obtain ⟨w21, ew21, h⟩ := lw_e h
          refine r_iast 64 w21 hk dX7_begin_63 rfl rfl (mk_7_1 hj) rfl b20 ew21 ?_
          obtain ⟨x2_22, ex2_22, h⟩ := lw_e h
          refine r_iinc 67 [(2, .int x2_22), (3, .int r12), (0, .ref (al 7 j 0)), (1, .ref (al 3 o1 0))] hk (j := 3) dX7_begin_64 rfl hn (by decide) rfl ex2_22 rfl ?_
          refine r_goto 26 hk (x := 0) dX7_begin_67 rfl ?_
          refine r_sub [2, 3, 0] rfl ?_
          exact ih _ _ h
set_option maxRecDepth 100000 in
set_option maxHeartbeats 4000000 in
theorem sX7_begin_2 {K : VC} {al : Al} {r : Unit} {wz : Wd} {j : Nat} {o1 : Nat} (hk : VH K RX7 cX7_begin 2 42) (hR : VR K al none none wz) (hn : kn K = 4) (hN : NX (kG K)) (hj : j < gN (kG K) 7) (ho1 : o1 < gN (kG K) 3) : ∀ (n : Nat) (w : Wd) (x2 : Int32), fX7_begin_2 j o1 n w x2 = some (r, wz) → V K al w 2 [(0, .ref (al 7 j 0)), (1, .ref (al 3 o1 0)), (2, .int x2)] [] := by
  intro n
  induction n with
  | zero => intro w x2 h; cases h
  | succ n ih =>
    intro w x2 h
    rw [fX7_begin_2.eq_2] at h
    refine r_iload_n 3 hk dX7_begin_2 rfl 2 rfl rfl ?_
    refine r_aload_n 4 hk dX7_begin_3 rfl 0 rfl rfl ?_
    refine r_get 7 hk dX7_begin_4 rfl ff_RX7_9 (mk_7_0 hj) (gv_7_0 _ _ _) ?_
    refine r_alen 8 hk dX7_begin_7 rfl (mk_7_1 hj) rfl ?_
    refine r_icmp_ge 24 11 hk dX7_begin_8 rfl rfl (fun c1 => ?_) (fun c1 => ?_)
    · have h := if_t c1 h
      refine r_iconst 25 hk dX7_begin_24 rfl ci_0 ?_
      refine r_istore_n 26 [(2, .int 0), (0, .ref (al 7 j 0)), (1, .ref (al 3 o1 0))] hk dX7_begin_25 rfl rfl hn (by decide) rfl rfl ?_
      refine r_sub [1, 2, 0] rfl ?_
      exact sX7_begin_26 hk hR hn hN hj ho1 _ _ _ h
    · have h := if_f c1 h
      refine r_aload_n 12 hk dX7_begin_11 rfl 0 rfl rfl ?_
      refine r_get 15 hk dX7_begin_12 rfl ff_RX7_9 (mk_7_0 hj) (gv_7_0 _ _ _) ?_
      refine r_iload_n 16 hk dX7_begin_15 rfl 2 rfl rfl ?_
      refine r_iconst 17 hk dX7_begin_16 rfl ci_0 ?_
      obtain ⟨b2, h⟩ := ck_e h
      obtain ⟨w3, ew3, h⟩ := lw_e h
      refine r_iast 18 w3 hk dX7_begin_17 rfl rfl (mk_7_1 hj) rfl b2 ew3 ?_
      obtain ⟨x2_4, ex2_4, h⟩ := lw_e h
      refine r_iinc 21 [(2, .int x2_4), (0, .ref (al 7 j 0)), (1, .ref (al 3 o1 0))] hk (j := 2) dX7_begin_18 rfl hn (by decide) rfl ex2_4 rfl ?_
      refine r_goto 2 hk (x := 0) dX7_begin_21 rfl ?_
      refine r_sub [1, 2, 0] rfl ?_
      exact ih _ _ h
set_option maxRecDepth 100000 in
set_option maxHeartbeats 4000000 in
theorem kX7_begin {l : Launch} {G : Gx} {al : Al} {j : Nat} {o1 : Nat} {w : Wd} {r : Unit} {wz : Wd} (hN : NX G) (hj : j < gN G 7) (ho1 : o1 < gN G 3) (h : fX7_begin j o1 w = some (r, wz)) : MC l G yX7_begin cX7_begin 4 none 2 42 al w [.ref (al 7 j 0), .ref (al 3 o1 0)] none wz := by
  refine mc_of [(0, .ref (al 7 j 0)), (1, .ref (al 3 o1 0))] (by decide) (Nat.le_of_ble_eq_true rfl) rfl ?_
  intro K hk hR hn hl hG
  subst hl; subst hG
  have hk : VH K RX7 cX7_begin 2 42 := hk
  rw [fX7_begin.eq_1] at h
  refine r_iconst 1 hk dX7_begin_0 rfl ci_0 ?_
  refine r_istore_n 2 [(2, .int 0), (0, .ref (al 7 j 0)), (1, .ref (al 3 o1 0))] hk dX7_begin_1 rfl rfl hn (by decide) rfl rfl ?_
  refine r_sub [1, 2, 0] rfl ?_
  exact sX7_begin_2 hk hR hn hN hj ho1 _ _ _ h
def fX7_isLive (j : Nat) (w : Wd) (x1 : Int32) : Option (Int32 × Wd) :=
  ob (fX9_at 7 j 1 w (x1)) fun r1 w2 =>
  ob (fX7_livePlaceOf j w2 (r1)) fun r3 w4 =>
  if (r3 : Int32) = x1 then
    some (1, w4)
  else
    some (0, w4)
set_option maxRecDepth 100000 in
set_option maxHeartbeats 4000000 in
theorem kX7_isLive {l : Launch} {G : Gx} {al : Al} {j : Nat} {w : Wd} {x1 : Int32} {r : Int32} {wz : Wd} (hN : NX G) (hj : j < gN G 7) (h : fX7_isLive j w x1 = some (r, wz)) : MC l G yX7_isLive cX7_isLive 2 (some (.boolean)) 2 43 al w [.ref (al 7 j 0), .int x1] (some (.int r)) wz := by
  refine mc_of [(0, .ref (al 7 j 0)), (1, .int x1)] (by decide) (Nat.le_of_ble_eq_true rfl) rfl ?_
  intro K hk hR hn hl hG
  subst hl; subst hG
  have hk : VH K RX7 cX7_isLive 2 43 := hk
  rw [fX7_isLive.eq_1] at h
  refine r_aload_n 1 hk dX7_isLive_0 rfl 0 rfl rfl ?_
  refine r_aload_n 2 hk dX7_isLive_1 rfl 0 rfl rfl ?_
  refine r_get 5 hk dX7_isLive_2 rfl ff_RX7_15 (mk_7_0 hj) (gv_7_1 _ _ _) ?_
  refine r_iload_n 6 hk dX7_isLive_5 rfl 1 rfl rfl ?_
  obtain ⟨r1, w2, ew2, h⟩ := ob_e h
  refine r_cSi 9 (As := [.ref (al 7 j 2), .int x1]) (rest := [.ref (al 7 j 0)]) hk (kX9_at hN rfl (mk_7_2 hj) ew2) cf_RX7_74 ms_X9_at dX7_isLive_6 rfl (Nat.le_of_ble_eq_true rfl) (Nat.le_of_ble_eq_true rfl) rfl rfl (Nat.le_of_ble_eq_true rfl) ?_
  obtain ⟨r3, w4, ew4, h⟩ := ob_e h
  refine r_cVi 12 (As := [.int r1]) (rest := []) hk (kX7_livePlaceOf hN hj ew4) cf_RX7_78 mi_X7_livePlaceOf ⟨TX7, 11, rfl⟩ dX7_isLive_9 rfl (Nat.le_of_ble_eq_true rfl) (Nat.le_of_ble_eq_true rfl) (mk_7_0 hj) rfl rfl (Nat.le_of_ble_eq_true rfl) ?_
  refine r_iload_n 13 hk dX7_isLive_12 rfl 1 rfl rfl ?_
  refine r_icmp_ne 20 16 hk dX7_isLive_13 rfl rfl (fun c5 => ?_) (fun c5 => ?_)
  · have h := if_f c5 h
    refine r_iconst 21 hk dX7_isLive_20 rfl ci_0 ?_
    exact r_zret hk hR dX7_isLive_21 (by decide) h
  · have h := if_t c5 h
    refine r_iconst 17 hk dX7_isLive_16 rfl ci_1 ?_
    refine r_goto 21 hk (x := 0) dX7_isLive_17 rfl ?_
    exact r_zret hk hR dX7_isLive_21 (by decide) h
def fX7_liveEntriesOf_5 (j : Nat) (o1 : Nat) : Nat → Wd → Int32 → Int32 → Int32 → Option (Int32 × Wd)
  | 0, _, _, _, _ => none
  | n + 1, w, x2, x3, x4 =>
    if (((w 7 j).1 4) : Int32) ≤ x4 then
      some (x3, w)
    else
      ob (fX9_at 7 j 1 w (x4)) fun r2 w3 =>
      ob (fX5_bandHolding o1 w3 (r2)) fun r4 w5 =>
      if (r4 : Int32) = x2 then
        ob (fX7_isLive j w5 (x4)) fun r8 w9 =>
        if (r8 : Int32) = 0 then
          lw (x4 + 1) fun x4_11 =>
          fX7_liveEntriesOf_5 j o1 n w9 (x2) (x3) (x4_11)
        else
          lw (x3 + 1) fun x3_12 =>
          lw (x4 + 1) fun x4_13 =>
          fX7_liveEntriesOf_5 j o1 n w9 (x2) (x3_12) (x4_13)
      else
        lw (x4 + 1) fun x4_7 =>
        fX7_liveEntriesOf_5 j o1 n w5 (x2) (x3) (x4_7)
def fX7_liveEntriesOf (j : Nat) (o1 : Nat) (w : Wd) (x2 : Int32) : Option (Int32 × Wd) :=
  fX7_liveEntriesOf_5 j o1 fuel0 w (x2) (0) (0)
set_option maxRecDepth 100000 in
set_option maxHeartbeats 4000000 in
theorem sX7_liveEntriesOf_5 {K : VC} {al : Al} {r : Int32} {wz : Wd} {j : Nat} {o1 : Nat} (hk : VH K RX7 cX7_liveEntriesOf 3 64) (hR : VR K al (some (.int)) (some (.int r)) wz) (hn : kn K = 5) (hN : NX (kG K)) (hj : j < gN (kG K) 7) (ho1 : o1 < gN (kG K) 5) : ∀ (n : Nat) (w : Wd) (x2 : Int32) (x3 : Int32) (x4 : Int32), fX7_liveEntriesOf_5 j o1 n w x2 x3 x4 = some (r, wz) → V K al w 5 [(0, .ref (al 7 j 0)), (1, .ref (al 5 o1 0)), (2, .int x2), (3, .int x3), (4, .int x4)] [] := by
  intro n
  induction n with
  | zero => intro w x2 x3 x4 h; cases h
  | succ n ih =>
    intro w x2 x3 x4 h
    rw [fX7_liveEntriesOf_5.eq_2] at h
    refine r_iload 7 hk dX7_liveEntriesOf_5 rfl 4 rfl ?_
    refine r_aload_n 8 hk dX7_liveEntriesOf_7 rfl 0 rfl rfl ?_
    refine r_get 11 hk dX7_liveEntriesOf_8 rfl ff_RX7_37 (mk_7_0 hj) (gv_7_4 _ _ _) ?_
    refine r_icmp_ge 49 14 hk dX7_liveEntriesOf_11 rfl rfl (fun c1 => ?_) (fun c1 => ?_)
    · have h := if_t c1 h
      refine r_iload_n 50 hk dX7_liveEntriesOf_49 rfl 3 rfl rfl ?_
      exact r_iret hk hR dX7_liveEntriesOf_50 h
    · have h := if_f c1 h
      refine r_aload_n 15 hk dX7_liveEntriesOf_14 rfl 1 rfl rfl ?_
      refine r_aload_n 16 hk dX7_liveEntriesOf_15 rfl 0 rfl rfl ?_
      refine r_get 19 hk dX7_liveEntriesOf_16 rfl ff_RX7_15 (mk_7_0 hj) (gv_7_1 _ _ _) ?_
      refine r_iload 21 hk dX7_liveEntriesOf_19 rfl 4 rfl ?_
      obtain ⟨r2, w3, ew3, h⟩ := ob_e h
      refine r_cSi 24 (As := [.ref (al 7 j 2), .int x4]) (rest := [.ref (al 5 o1 0)]) hk (kX9_at hN rfl (mk_7_2 hj) ew3) cf_RX7_74 ms_X9_at dX7_liveEntriesOf_21 rfl (Nat.le_of_ble_eq_true rfl) (Nat.le_of_ble_eq_true rfl) rfl rfl (Nat.le_of_ble_eq_true rfl) ?_
      obtain ⟨r4, w5, ew5, h⟩ := ob_e h
      refine r_cVi 27 (As := [.int r2]) (rest := []) hk (kX5_bandHolding hN ho1 ew5) cf_RX7_81 mi_X5_bandHolding ⟨TX5, 8, rfl⟩ dX7_liveEntriesOf_24 rfl (Nat.le_of_ble_eq_true rfl) (Nat.le_of_ble_eq_true rfl) (mk_5_0 ho1) rfl rfl (Nat.le_of_ble_eq_true rfl) ?_
      refine r_iload_n 28 hk dX7_liveEntriesOf_27 rfl 2 rfl rfl ?_
      refine r_icmp_ne 43 31 hk dX7_liveEntriesOf_28 rfl rfl (fun c6 => ?_) (fun c6 => ?_)
      · have h := if_f c6 h
        obtain ⟨x4_7, ex4_7, h⟩ := lw_e h
        refine r_iinc 46 [(4, .int x4_7), (0, .ref (al 7 j 0)), (1, .ref (al 5 o1 0)), (2, .int x2), (3, .int x3)] hk (j := 4) dX7_liveEntriesOf_43 rfl hn (by decide) rfl ex4_7 rfl ?_
        refine r_goto 5 hk (x := 0) dX7_liveEntriesOf_46 rfl ?_
        refine r_sub [1, 2, 3, 4, 0] rfl ?_
        exact ih _ _ _ _ h
      · have h := if_t c6 h
        refine r_aload_n 32 hk dX7_liveEntriesOf_31 rfl 0 rfl rfl ?_
        refine r_iload 34 hk dX7_liveEntriesOf_32 rfl 4 rfl ?_
        obtain ⟨r8, w9, ew9, h⟩ := ob_e h
        refine r_cVi 37 (As := [.int x4]) (rest := []) hk (kX7_isLive hN hj ew9) cf_RX7_86 mi_X7_isLive ⟨TX7, 11, rfl⟩ dX7_liveEntriesOf_34 rfl (Nat.le_of_ble_eq_true rfl) (Nat.le_of_ble_eq_true rfl) (mk_7_0 hj) rfl rfl (Nat.le_of_ble_eq_true rfl) ?_
        refine r_if_eq 43 40 hk dX7_liveEntriesOf_37 rfl rfl (fun c10 => ?_) (fun c10 => ?_)
        · have h := if_t c10 h
          obtain ⟨x4_11, ex4_11, h⟩ := lw_e h
          refine r_iinc 46 [(4, .int x4_11), (0, .ref (al 7 j 0)), (1, .ref (al 5 o1 0)), (2, .int x2), (3, .int x3)] hk (j := 4) dX7_liveEntriesOf_43 rfl hn (by decide) rfl ex4_11 rfl ?_
          refine r_goto 5 hk (x := 0) dX7_liveEntriesOf_46 rfl ?_
          refine r_sub [1, 2, 3, 4, 0] rfl ?_
          exact ih _ _ _ _ h
        · have h := if_f c10 h
          obtain ⟨x3_12, ex3_12, h⟩ := lw_e h
          refine r_iinc 43 [(3, .int x3_12), (0, .ref (al 7 j 0)), (1, .ref (al 5 o1 0)), (2, .int x2), (4, .int x4)] hk (j := 3) dX7_liveEntriesOf_40 rfl hn (by decide) rfl ex3_12 rfl ?_
          obtain ⟨x4_13, ex4_13, h⟩ := lw_e h
          refine r_iinc 46 [(4, .int x4_13), (3, .int x3_12), (0, .ref (al 7 j 0)), (1, .ref (al 5 o1 0)), (2, .int x2)] hk (j := 4) dX7_liveEntriesOf_43 rfl hn (by decide) rfl ex4_13 rfl ?_
          refine r_goto 5 hk (x := 0) dX7_liveEntriesOf_46 rfl ?_
          refine r_sub [2, 3, 4, 1, 0] rfl ?_
          exact ih _ _ _ _ h
set_option maxRecDepth 100000 in
set_option maxHeartbeats 4000000 in
theorem kX7_liveEntriesOf {l : Launch} {G : Gx} {al : Al} {j : Nat} {o1 : Nat} {w : Wd} {x2 : Int32} {r : Int32} {wz : Wd} (hN : NX G) (hj : j < gN G 7) (ho1 : o1 < gN G 5) (h : fX7_liveEntriesOf j o1 w x2 = some (r, wz)) : MC l G yX7_liveEntriesOf cX7_liveEntriesOf 5 (some (.int)) 3 64 al w [.ref (al 7 j 0), .ref (al 5 o1 0), .int x2] (some (.int r)) wz := by
  refine mc_of [(0, .ref (al 7 j 0)), (1, .ref (al 5 o1 0)), (2, .int x2)] (by decide) (Nat.le_of_ble_eq_true rfl) rfl ?_
  intro K hk hR hn hl hG
  subst hl; subst hG
  have hk : VH K RX7 cX7_liveEntriesOf 3 64 := hk
  rw [fX7_liveEntriesOf.eq_1] at h
  refine r_iconst 1 hk dX7_liveEntriesOf_0 rfl ci_0 ?_
  refine r_istore_n 2 [(3, .int 0), (0, .ref (al 7 j 0)), (1, .ref (al 5 o1 0)), (2, .int x2)] hk dX7_liveEntriesOf_1 rfl rfl hn (by decide) rfl rfl ?_
  refine r_iconst 3 hk dX7_liveEntriesOf_2 rfl ci_0 ?_
  refine r_istore 5 [(4, .int 0), (3, .int 0), (0, .ref (al 7 j 0)), (1, .ref (al 5 o1 0)), (2, .int x2)] hk dX7_liveEntriesOf_3 rfl hn (by decide) rfl rfl ?_
  refine r_sub [2, 3, 4, 1, 0] rfl ?_
  exact sX7_liveEntriesOf_5 hk hR hn hN hj ho1 _ _ _ _ _ h
def fX7_damagedOf_5 (j : Nat) (o1 : Nat) : Nat → Wd → Int32 → Int32 → Int32 → Option (Int32 × Wd)
  | 0, _, _, _, _ => none
  | n + 1, w, x2, x3, x4 =>
    ob (fX5_tracksOf o1 w (x2)) fun r1 w2 =>
    if (r1 : Int32) ≤ x4 then
      some (x3, w2)
    else
      ob (fX5_firstOf o1 w2 (x2)) fun r4 w5 =>
      ob (fX9_at 7 j 0 w5 ((r4 + x4))) fun r6 w7 =>
      if (r6 : Int32) = (-2) then
        lw (x3 + 1) fun x3_10 =>
        lw (x4 + 1) fun x4_11 =>
        fX7_damagedOf_5 j o1 n w7 (x2) (x3_10) (x4_11)
      else
        lw (x4 + 1) fun x4_9 =>
        fX7_damagedOf_5 j o1 n w7 (x2) (x3) (x4_9)
def fX7_damagedOf (j : Nat) (o1 : Nat) (w : Wd) (x2 : Int32) : Option (Int32 × Wd) :=
  fX7_damagedOf_5 j o1 fuel0 w (x2) (0) (0)
set_option maxRecDepth 100000 in
set_option maxHeartbeats 4000000 in
theorem sX7_damagedOf_5 {K : VC} {al : Al} {r : Int32} {wz : Wd} {j : Nat} {o1 : Nat} (hk : VH K RX7 cX7_damagedOf 2 42) (hR : VR K al (some (.int)) (some (.int r)) wz) (hn : kn K = 5) (hN : NX (kG K)) (hj : j < gN (kG K) 7) (ho1 : o1 < gN (kG K) 5) : ∀ (n : Nat) (w : Wd) (x2 : Int32) (x3 : Int32) (x4 : Int32), fX7_damagedOf_5 j o1 n w x2 x3 x4 = some (r, wz) → V K al w 5 [(0, .ref (al 7 j 0)), (1, .ref (al 5 o1 0)), (2, .int x2), (3, .int x3), (4, .int x4)] [] := by
  intro n
  induction n with
  | zero => intro w x2 x3 x4 h; cases h
  | succ n ih =>
    intro w x2 x3 x4 h
    rw [fX7_damagedOf_5.eq_2] at h
    refine r_iload 7 hk dX7_damagedOf_5 rfl 4 rfl ?_
    refine r_aload_n 8 hk dX7_damagedOf_7 rfl 1 rfl rfl ?_
    refine r_iload_n 9 hk dX7_damagedOf_8 rfl 2 rfl rfl ?_
    obtain ⟨r1, w2, ew2, h⟩ := ob_e h
    refine r_cVi 12 (As := [.int x2]) (rest := [.int x4]) hk (kX5_tracksOf hN ho1 ew2) cf_RX7_90 mi_X5_tracksOf ⟨TX5, 8, rfl⟩ dX7_damagedOf_9 rfl (Nat.le_of_ble_eq_true rfl) (Nat.le_of_ble_eq_true rfl) (mk_5_0 ho1) rfl rfl (Nat.le_of_ble_eq_true rfl) ?_
    refine r_icmp_ge 44 15 hk dX7_damagedOf_12 rfl rfl (fun c3 => ?_) (fun c3 => ?_)
    · have h := if_t c3 h
      refine r_iload_n 45 hk dX7_damagedOf_44 rfl 3 rfl rfl ?_
      exact r_iret hk hR dX7_damagedOf_45 h
    · have h := if_f c3 h
      refine r_aload_n 16 hk dX7_damagedOf_15 rfl 0 rfl rfl ?_
      refine r_get 19 hk dX7_damagedOf_16 rfl ff_RX7_9 (mk_7_0 hj) (gv_7_0 _ _ _) ?_
      refine r_aload_n 20 hk dX7_damagedOf_19 rfl 1 rfl rfl ?_
      refine r_iload_n 21 hk dX7_damagedOf_20 rfl 2 rfl rfl ?_
      obtain ⟨r4, w5, ew5, h⟩ := ob_e h
      refine r_cVi 24 (As := [.int x2]) (rest := [.ref (al 7 j 1)]) hk (kX5_firstOf hN ho1 ew5) cf_RX7_93 mi_X5_firstOf ⟨TX5, 8, rfl⟩ dX7_damagedOf_21 rfl (Nat.le_of_ble_eq_true rfl) (Nat.le_of_ble_eq_true rfl) (mk_5_0 ho1) rfl rfl (Nat.le_of_ble_eq_true rfl) ?_
      refine r_iload 26 hk dX7_damagedOf_24 rfl 4 rfl ?_
      refine r_iadd 27 hk dX7_damagedOf_26 rfl ?_
      obtain ⟨r6, w7, ew7, h⟩ := ob_e h
      refine r_cSi 30 (As := [.ref (al 7 j 1), .int ((r4 + x4))]) (rest := []) hk (kX9_at hN rfl (mk_7_1 hj) ew7) cf_RX7_74 ms_X9_at dX7_damagedOf_27 rfl (Nat.le_of_ble_eq_true rfl) (Nat.le_of_ble_eq_true rfl) rfl rfl (Nat.le_of_ble_eq_true rfl) ?_
      refine r_bipush 32 hk dX7_damagedOf_30 rfl cb_m2 ?_
      refine r_icmp_ne 38 35 hk dX7_damagedOf_32 rfl rfl (fun c8 => ?_) (fun c8 => ?_)
      · have h := if_f c8 h
        obtain ⟨x4_9, ex4_9, h⟩ := lw_e h
        refine r_iinc 41 [(4, .int x4_9), (0, .ref (al 7 j 0)), (1, .ref (al 5 o1 0)), (2, .int x2), (3, .int x3)] hk (j := 4) dX7_damagedOf_38 rfl hn (by decide) rfl ex4_9 rfl ?_
        refine r_goto 5 hk (x := 0) dX7_damagedOf_41 rfl ?_
        refine r_sub [1, 2, 3, 4, 0] rfl ?_
        exact ih _ _ _ _ h
      · have h := if_t c8 h
        obtain ⟨x3_10, ex3_10, h⟩ := lw_e h
        refine r_iinc 38 [(3, .int x3_10), (0, .ref (al 7 j 0)), (1, .ref (al 5 o1 0)), (2, .int x2), (4, .int x4)] hk (j := 3) dX7_damagedOf_35 rfl hn (by decide) rfl ex3_10 rfl ?_
        obtain ⟨x4_11, ex4_11, h⟩ := lw_e h
        refine r_iinc 41 [(4, .int x4_11), (3, .int x3_10), (0, .ref (al 7 j 0)), (1, .ref (al 5 o1 0)), (2, .int x2)] hk (j := 4) dX7_damagedOf_38 rfl hn (by decide) rfl ex4_11 rfl ?_
        refine r_goto 5 hk (x := 0) dX7_damagedOf_41 rfl ?_
        refine r_sub [2, 3, 4, 1, 0] rfl ?_
        exact ih _ _ _ _ h
set_option maxRecDepth 100000 in
set_option maxHeartbeats 4000000 in
theorem kX7_damagedOf {l : Launch} {G : Gx} {al : Al} {j : Nat} {o1 : Nat} {w : Wd} {x2 : Int32} {r : Int32} {wz : Wd} (hN : NX G) (hj : j < gN G 7) (ho1 : o1 < gN G 5) (h : fX7_damagedOf j o1 w x2 = some (r, wz)) : MC l G yX7_damagedOf cX7_damagedOf 5 (some (.int)) 2 42 al w [.ref (al 7 j 0), .ref (al 5 o1 0), .int x2] (some (.int r)) wz := by
  refine mc_of [(0, .ref (al 7 j 0)), (1, .ref (al 5 o1 0)), (2, .int x2)] (by decide) (Nat.le_of_ble_eq_true rfl) rfl ?_
  intro K hk hR hn hl hG
  subst hl; subst hG
  have hk : VH K RX7 cX7_damagedOf 2 42 := hk
  rw [fX7_damagedOf.eq_1] at h
  refine r_iconst 1 hk dX7_damagedOf_0 rfl ci_0 ?_
  refine r_istore_n 2 [(3, .int 0), (0, .ref (al 7 j 0)), (1, .ref (al 5 o1 0)), (2, .int x2)] hk dX7_damagedOf_1 rfl rfl hn (by decide) rfl rfl ?_
  refine r_iconst 3 hk dX7_damagedOf_2 rfl ci_0 ?_
  refine r_istore 5 [(4, .int 0), (3, .int 0), (0, .ref (al 7 j 0)), (1, .ref (al 5 o1 0)), (2, .int x2)] hk dX7_damagedOf_3 rfl hn (by decide) rfl rfl ?_
  refine r_sub [2, 3, 4, 1, 0] rfl ?_
  exact sX7_damagedOf_5 hk hR hn hN hj ho1 _ _ _ _ _ h
def fX7_damagedInAll_4 (j : Nat) (o1 : Nat) : Nat → Wd → Int32 → Int32 → Option (Int32 × Wd)
  | 0, _, _, _ => none
  | n + 1, w, x2, x3 =>
    if (((w 5 o1).1 3) : Int32) ≤ x3 then
      some (x2, w)
    else
      ob (fX7_damagedOf j o1 w (x3)) fun r2 w3 =>
      lw ((x2 + r2)) fun x2_4 =>
      lw (x3 + 1) fun x3_5 =>
      fX7_damagedInAll_4 j o1 n w3 (x2_4) (x3_5)
def fX7_damagedInAll (j : Nat) (o1 : Nat) (w : Wd) : Option (Int32 × Wd) :=
  fX7_damagedInAll_4 j o1 fuel0 w (0) (0)
set_option maxRecDepth 100000 in
set_option maxHeartbeats 4000000 in
theorem sX7_damagedInAll_4 {K : VC} {al : Al} {r : Int32} {wz : Wd} {j : Nat} {o1 : Nat} (hk : VH K RX7 cX7_damagedInAll 3 66) (hR : VR K al (some (.int)) (some (.int r)) wz) (hn : kn K = 4) (hN : NX (kG K)) (hj : j < gN (kG K) 7) (ho1 : o1 < gN (kG K) 5) : ∀ (n : Nat) (w : Wd) (x2 : Int32) (x3 : Int32), fX7_damagedInAll_4 j o1 n w x2 x3 = some (r, wz) → V K al w 4 [(0, .ref (al 7 j 0)), (1, .ref (al 5 o1 0)), (2, .int x2), (3, .int x3)] [] := by
  intro n
  induction n with
  | zero => intro w x2 x3 h; cases h
  | succ n ih =>
    intro w x2 x3 h
    rw [fX7_damagedInAll_4.eq_2] at h
    refine r_iload_n 5 hk dX7_damagedInAll_4 rfl 3 rfl rfl ?_
    refine r_aload_n 6 hk dX7_damagedInAll_5 rfl 1 rfl rfl ?_
    refine r_get 9 hk dX7_damagedInAll_6 rfl ff_RX7_94 (mk_5_0 ho1) (gv_5_3 _ _ _) ?_
    refine r_icmp_ge 27 12 hk dX7_damagedInAll_9 rfl rfl (fun c1 => ?_) (fun c1 => ?_)
    · have h := if_t c1 h
      refine r_iload_n 28 hk dX7_damagedInAll_27 rfl 2 rfl rfl ?_
      exact r_iret hk hR dX7_damagedInAll_28 h
    · have h := if_f c1 h
      refine r_iload_n 13 hk dX7_damagedInAll_12 rfl 2 rfl rfl ?_
      refine r_aload_n 14 hk dX7_damagedInAll_13 rfl 0 rfl rfl ?_
      refine r_aload_n 15 hk dX7_damagedInAll_14 rfl 1 rfl rfl ?_
      refine r_iload_n 16 hk dX7_damagedInAll_15 rfl 3 rfl rfl ?_
      obtain ⟨r2, w3, ew3, h⟩ := ob_e h
      refine r_cVi 19 (As := [.ref (al 5 o1 0), .int x3]) (rest := [.int x2]) hk (kX7_damagedOf hN hj ho1 ew3) cf_RX7_97 mi_X7_damagedOf ⟨TX7, 11, rfl⟩ dX7_damagedInAll_16 rfl (Nat.le_of_ble_eq_true rfl) (Nat.le_of_ble_eq_true rfl) (mk_7_0 hj) rfl rfl (Nat.le_of_ble_eq_true rfl) ?_
      refine r_iadd 20 hk dX7_damagedInAll_19 rfl ?_
      obtain ⟨x2_4, ex2_4, h⟩ := lw_e h
      refine r_istore_n 21 [(2, .int x2_4), (0, .ref (al 7 j 0)), (1, .ref (al 5 o1 0)), (3, .int x3)] hk dX7_damagedInAll_20 rfl rfl hn (by decide) ex2_4 rfl ?_
      obtain ⟨x3_5, ex3_5, h⟩ := lw_e h
      refine r_iinc 24 [(3, .int x3_5), (2, .int x2_4), (0, .ref (al 7 j 0)), (1, .ref (al 5 o1 0))] hk (j := 3) dX7_damagedInAll_21 rfl hn (by decide) rfl ex3_5 rfl ?_
      refine r_goto 4 hk (x := 0) dX7_damagedInAll_24 rfl ?_
      refine r_sub [2, 3, 1, 0] rfl ?_
      exact ih _ _ _ h
set_option maxRecDepth 100000 in
set_option maxHeartbeats 4000000 in
theorem kX7_damagedInAll {l : Launch} {G : Gx} {al : Al} {j : Nat} {o1 : Nat} {w : Wd} {r : Int32} {wz : Wd} (hN : NX G) (hj : j < gN G 7) (ho1 : o1 < gN G 5) (h : fX7_damagedInAll j o1 w = some (r, wz)) : MC l G yX7_damagedInAll cX7_damagedInAll 4 (some (.int)) 3 66 al w [.ref (al 7 j 0), .ref (al 5 o1 0)] (some (.int r)) wz := by
  refine mc_of [(0, .ref (al 7 j 0)), (1, .ref (al 5 o1 0))] (by decide) (Nat.le_of_ble_eq_true rfl) rfl ?_
  intro K hk hR hn hl hG
  subst hl; subst hG
  have hk : VH K RX7 cX7_damagedInAll 3 66 := hk
  rw [fX7_damagedInAll.eq_1] at h
  refine r_iconst 1 hk dX7_damagedInAll_0 rfl ci_0 ?_
  refine r_istore_n 2 [(2, .int 0), (0, .ref (al 7 j 0)), (1, .ref (al 5 o1 0))] hk dX7_damagedInAll_1 rfl rfl hn (by decide) rfl rfl ?_
  refine r_iconst 3 hk dX7_damagedInAll_2 rfl ci_0 ?_
  refine r_istore_n 4 [(3, .int 0), (2, .int 0), (0, .ref (al 7 j 0)), (1, .ref (al 5 o1 0))] hk dX7_damagedInAll_3 rfl rfl hn (by decide) rfl rfl ?_
  refine r_sub [2, 3, 1, 0] rfl ?_
  exact sX7_damagedInAll_4 hk hR hn hN hj ho1 _ _ _ _ h
def fX7_beginsExtent (j : Nat) (w : Wd) (x1 : Int32) : Option (Int32 × Wd) :=
  ob (fX7_livePlaceOf j w (x1)) fun r1 w2 =>
  if (r1 : Int32) = 0 then
    some (1, w2)
  else
    if (r1 : Int32) ≤ 0 then
      some (0, w2)
    else
      ob (fX7_livePlaceOf j w2 ((x1 - 1))) fun r5 w6 =>
      if (r5 : Int32) = (r1 - 1) then
        some (0, w6)
      else
        some (1, w6)
set_option maxRecDepth 100000 in
set_option maxHeartbeats 4000000 in
theorem kX7_beginsExtent {l : Launch} {G : Gx} {al : Al} {j : Nat} {w : Wd} {x1 : Int32} {r : Int32} {wz : Wd} (hN : NX G) (hj : j < gN G 7) (h : fX7_beginsExtent j w x1 = some (r, wz)) : MC l G yX7_beginsExtent cX7_beginsExtent 3 (some (.boolean)) 2 43 al w [.ref (al 7 j 0), .int x1] (some (.int r)) wz := by
  refine mc_of [(0, .ref (al 7 j 0)), (1, .int x1)] (by decide) (Nat.le_of_ble_eq_true rfl) rfl ?_
  intro K hk hR hn hl hG
  subst hl; subst hG
  have hk : VH K RX7 cX7_beginsExtent 2 43 := hk
  rw [fX7_beginsExtent.eq_1] at h
  refine r_aload_n 1 hk dX7_beginsExtent_0 rfl 0 rfl rfl ?_
  refine r_iload_n 2 hk dX7_beginsExtent_1 rfl 1 rfl rfl ?_
  obtain ⟨r1, w2, ew2, h⟩ := ob_e h
  refine r_cVi 5 (As := [.int x1]) (rest := []) hk (kX7_livePlaceOf hN hj ew2) cf_RX7_78 mi_X7_livePlaceOf ⟨TX7, 11, rfl⟩ dX7_beginsExtent_2 rfl (Nat.le_of_ble_eq_true rfl) (Nat.le_of_ble_eq_true rfl) (mk_7_0 hj) rfl rfl (Nat.le_of_ble_eq_true rfl) ?_
  refine r_istore_n 6 [(2, .int r1), (0, .ref (al 7 j 0)), (1, .int x1)] hk dX7_beginsExtent_5 rfl rfl hn (by decide) rfl rfl ?_
  refine r_iload_n 7 hk dX7_beginsExtent_6 rfl 0 rfl rfl ?_
  refine r_if_eq 27 10 hk dX7_beginsExtent_7 rfl rfl (fun c3 => ?_) (fun c3 => ?_)
  · have h := if_t c3 h
    refine r_iconst 28 hk dX7_beginsExtent_27 rfl ci_1 ?_
    refine r_goto 32 hk (x := 0) dX7_beginsExtent_28 rfl ?_
    exact r_zret hk hR dX7_beginsExtent_32 (by decide) h
  · have h := if_f c3 h
    refine r_iload_n 11 hk dX7_beginsExtent_10 rfl 0 rfl rfl ?_
    refine r_if_le 31 14 hk dX7_beginsExtent_11 rfl rfl (fun c4 => ?_) (fun c4 => ?_)
    · have h := if_t c4 h
      refine r_iconst 32 hk dX7_beginsExtent_31 rfl ci_0 ?_
      exact r_zret hk hR dX7_beginsExtent_32 (by decide) h
    · have h := if_f c4 h
      refine r_aload_n 15 hk dX7_beginsExtent_14 rfl 1 rfl rfl ?_
      refine r_iload_n 16 hk dX7_beginsExtent_15 rfl 2 rfl rfl ?_
      refine r_iconst 17 hk dX7_beginsExtent_16 rfl ci_1 ?_
      refine r_isub 18 hk dX7_beginsExtent_17 rfl ?_
      obtain ⟨r5, w6, ew6, h⟩ := ob_e h
      refine r_cVi 21 (As := [.int ((x1 - 1))]) (rest := []) hk (kX7_livePlaceOf hN hj ew6) cf_RX7_78 mi_X7_livePlaceOf ⟨TX7, 11, rfl⟩ dX7_beginsExtent_18 rfl (Nat.le_of_ble_eq_true rfl) (Nat.le_of_ble_eq_true rfl) (mk_7_0 hj) rfl rfl (Nat.le_of_ble_eq_true rfl) ?_
      refine r_iload_n 22 hk dX7_beginsExtent_21 rfl 0 rfl rfl ?_
      refine r_iconst 23 hk dX7_beginsExtent_22 rfl ci_1 ?_
      refine r_isub 24 hk dX7_beginsExtent_23 rfl ?_
      refine r_icmp_eq 31 27 hk dX7_beginsExtent_24 rfl rfl (fun c7 => ?_) (fun c7 => ?_)
      · have h := if_t c7 h
        refine r_iconst 32 hk dX7_beginsExtent_31 rfl ci_0 ?_
        exact r_zret hk hR dX7_beginsExtent_32 (by decide) h
      · have h := if_f c7 h
        refine r_iconst 28 hk dX7_beginsExtent_27 rfl ci_1 ?_
        refine r_goto 32 hk (x := 0) dX7_beginsExtent_28 rfl ?_
        exact r_zret hk hR dX7_beginsExtent_32 (by decide) h
def fX7_extentsBegunBy_4 (j : Nat) : Nat → Wd → Int32 → Int32 → Int32 → Option (Int32 × Wd)
  | 0, _, _, _, _ => none
  | n + 1, w, x1, x2, x3 =>
    if (x1 : Int32) < x3 then
      some (x2, w)
    else
      if (48 : Int32) ≤ x3 then
        some (x2, w)
      else
        ob (fX7_beginsExtent j w (x3)) fun r3 w4 =>
        if (r3 : Int32) = 0 then
          lw (x3 + 1) fun x3_6 =>
          fX7_extentsBegunBy_4 j n w4 (x1) (x2) (x3_6)
        else
          lw (x2 + 1) fun x2_7 =>
          lw (x3 + 1) fun x3_8 =>
          fX7_extentsBegunBy_4 j n w4 (x1) (x2_7) (x3_8)
def fX7_extentsBegunBy (j : Nat) (w : Wd) (x1 : Int32) : Option (Int32 × Wd) :=
  fX7_extentsBegunBy_4 j fuel0 w (x1) (0) (0)
set_option maxRecDepth 100000 in
set_option maxHeartbeats 4000000 in
theorem sX7_extentsBegunBy_4 {K : VC} {al : Al} {r : Int32} {wz : Wd} {j : Nat} (hk : VH K RX7 cX7_extentsBegunBy 3 65) (hR : VR K al (some (.int)) (some (.int r)) wz) (hn : kn K = 4) (hN : NX (kG K)) (hj : j < gN (kG K) 7) : ∀ (n : Nat) (w : Wd) (x1 : Int32) (x2 : Int32) (x3 : Int32), fX7_extentsBegunBy_4 j n w x1 x2 x3 = some (r, wz) → V K al w 4 [(0, .ref (al 7 j 0)), (1, .int x1), (2, .int x2), (3, .int x3)] [] := by
  intro n
  induction n with
  | zero => intro w x1 x2 x3 h; cases h
  | succ n ih =>
    intro w x1 x2 x3 h
    rw [fX7_extentsBegunBy_4.eq_2] at h
    refine r_iload_n 5 hk dX7_extentsBegunBy_4 rfl 3 rfl rfl ?_
    refine r_iload_n 6 hk dX7_extentsBegunBy_5 rfl 1 rfl rfl ?_
    refine r_icmp_gt 32 9 hk dX7_extentsBegunBy_6 rfl rfl (fun c1 => ?_) (fun c1 => ?_)
    · have h := if_t c1 h
      refine r_iload_n 33 hk dX7_extentsBegunBy_32 rfl 2 rfl rfl ?_
      exact r_iret hk hR dX7_extentsBegunBy_33 h
    · have h := if_f c1 h
      refine r_iload_n 10 hk dX7_extentsBegunBy_9 rfl 3 rfl rfl ?_
      refine r_bipush 12 hk dX7_extentsBegunBy_10 rfl cb_48 ?_
      refine r_icmp_ge 32 15 hk dX7_extentsBegunBy_12 rfl rfl (fun c2 => ?_) (fun c2 => ?_)
      · have h := if_t c2 h
        refine r_iload_n 33 hk dX7_extentsBegunBy_32 rfl 2 rfl rfl ?_
        exact r_iret hk hR dX7_extentsBegunBy_33 h
      · have h := if_f c2 h
        refine r_aload_n 16 hk dX7_extentsBegunBy_15 rfl 0 rfl rfl ?_
        refine r_iload_n 17 hk dX7_extentsBegunBy_16 rfl 3 rfl rfl ?_
        obtain ⟨r3, w4, ew4, h⟩ := ob_e h
        refine r_cVi 20 (As := [.int x3]) (rest := []) hk (kX7_beginsExtent hN hj ew4) cf_RX7_101 mi_X7_beginsExtent ⟨TX7, 11, rfl⟩ dX7_extentsBegunBy_17 rfl (Nat.le_of_ble_eq_true rfl) (Nat.le_of_ble_eq_true rfl) (mk_7_0 hj) rfl rfl (Nat.le_of_ble_eq_true rfl) ?_
        refine r_if_eq 26 23 hk dX7_extentsBegunBy_20 rfl rfl (fun c5 => ?_) (fun c5 => ?_)
        · have h := if_t c5 h
          obtain ⟨x3_6, ex3_6, h⟩ := lw_e h
          refine r_iinc 29 [(3, .int x3_6), (0, .ref (al 7 j 0)), (1, .int x1), (2, .int x2)] hk (j := 3) dX7_extentsBegunBy_26 rfl hn (by decide) rfl ex3_6 rfl ?_
          refine r_goto 4 hk (x := 0) dX7_extentsBegunBy_29 rfl ?_
          refine r_sub [1, 2, 3, 0] rfl ?_
          exact ih _ _ _ _ h
        · have h := if_f c5 h
          obtain ⟨x2_7, ex2_7, h⟩ := lw_e h
          refine r_iinc 26 [(2, .int x2_7), (0, .ref (al 7 j 0)), (1, .int x1), (3, .int x3)] hk (j := 2) dX7_extentsBegunBy_23 rfl hn (by decide) rfl ex2_7 rfl ?_
          obtain ⟨x3_8, ex3_8, h⟩ := lw_e h
          refine r_iinc 29 [(3, .int x3_8), (2, .int x2_7), (0, .ref (al 7 j 0)), (1, .int x1)] hk (j := 3) dX7_extentsBegunBy_26 rfl hn (by decide) rfl ex3_8 rfl ?_
          refine r_goto 4 hk (x := 0) dX7_extentsBegunBy_29 rfl ?_
          refine r_sub [2, 3, 1, 0] rfl ?_
          exact ih _ _ _ _ h
set_option maxRecDepth 100000 in
set_option maxHeartbeats 4000000 in
theorem kX7_extentsBegunBy {l : Launch} {G : Gx} {al : Al} {j : Nat} {w : Wd} {x1 : Int32} {r : Int32} {wz : Wd} (hN : NX G) (hj : j < gN G 7) (h : fX7_extentsBegunBy j w x1 = some (r, wz)) : MC l G yX7_extentsBegunBy cX7_extentsBegunBy 4 (some (.int)) 3 65 al w [.ref (al 7 j 0), .int x1] (some (.int r)) wz := by
  refine mc_of [(0, .ref (al 7 j 0)), (1, .int x1)] (by decide) (Nat.le_of_ble_eq_true rfl) rfl ?_
  intro K hk hR hn hl hG
  subst hl; subst hG
  have hk : VH K RX7 cX7_extentsBegunBy 3 65 := hk
  rw [fX7_extentsBegunBy.eq_1] at h
  refine r_iconst 1 hk dX7_extentsBegunBy_0 rfl ci_0 ?_
  refine r_istore_n 2 [(2, .int 0), (0, .ref (al 7 j 0)), (1, .int x1)] hk dX7_extentsBegunBy_1 rfl rfl hn (by decide) rfl rfl ?_
  refine r_iconst 3 hk dX7_extentsBegunBy_2 rfl ci_0 ?_
  refine r_istore_n 4 [(3, .int 0), (2, .int 0), (0, .ref (al 7 j 0)), (1, .int x1)] hk dX7_extentsBegunBy_3 rfl rfl hn (by decide) rfl rfl ?_
  refine r_sub [2, 3, 1, 0] rfl ?_
  exact sX7_extentsBegunBy_4 hk hR hn hN hj _ _ _ _ _ h
def fX7_firstOfExtent_5 (j : Nat) : Nat → Wd → Int32 → Int32 → Int32 → Int32 → Option (Int32 × Wd)
  | 0, _, _, _, _, _ => none
  | n + 1, w, x1, x2, x3, x4 =>
    if (x2 : Int32) ≤ x4 then
      some ((-2), w)
    else
      ob (fX7_beginsExtent j w (x4)) fun r2 w3 =>
      if (r2 : Int32) = 0 then
        lw (x4 + 1) fun x4_5 =>
        fX7_firstOfExtent_5 j n w3 (x1) (x2) (x3) (x4_5)
      else
        if (x3 : Int32) = x1 then
          some (x4, w3)
        else
          lw (x3 + 1) fun x3_7 =>
          lw (x4 + 1) fun x4_8 =>
          fX7_firstOfExtent_5 j n w3 (x1) (x2) (x3_7) (x4_8)
def fX7_firstOfExtent (j : Nat) (w : Wd) (x1 : Int32) (x2 : Int32) : Option (Int32 × Wd) :=
  fX7_firstOfExtent_5 j fuel0 w (x1) (x2) (0) (0)
set_option maxRecDepth 100000 in
set_option maxHeartbeats 4000000 in
theorem sX7_firstOfExtent_5 {K : VC} {al : Al} {r : Int32} {wz : Wd} {j : Nat} (hk : VH K RX7 cX7_firstOfExtent 3 65) (hR : VR K al (some (.int)) (some (.int r)) wz) (hn : kn K = 5) (hN : NX (kG K)) (hj : j < gN (kG K) 7) : ∀ (n : Nat) (w : Wd) (x1 : Int32) (x2 : Int32) (x3 : Int32) (x4 : Int32), fX7_firstOfExtent_5 j n w x1 x2 x3 x4 = some (r, wz) → V K al w 5 [(0, .ref (al 7 j 0)), (1, .int x1), (2, .int x2), (3, .int x3), (4, .int x4)] [] := by
  intro n
  induction n with
  | zero => intro w x1 x2 x3 x4 h; cases h
  | succ n ih =>
    intro w x1 x2 x3 x4 h
    rw [fX7_firstOfExtent_5.eq_2] at h
    refine r_iload 7 hk dX7_firstOfExtent_5 rfl 4 rfl ?_
    refine r_iload_n 8 hk dX7_firstOfExtent_7 rfl 2 rfl rfl ?_
    refine r_icmp_ge 37 11 hk dX7_firstOfExtent_8 rfl rfl (fun c1 => ?_) (fun c1 => ?_)
    · have h := if_t c1 h
      refine r_bipush 39 hk dX7_firstOfExtent_37 rfl cb_m2 ?_
      exact r_iret hk hR dX7_firstOfExtent_39 h
    · have h := if_f c1 h
      refine r_aload_n 12 hk dX7_firstOfExtent_11 rfl 0 rfl rfl ?_
      refine r_iload 14 hk dX7_firstOfExtent_12 rfl 4 rfl ?_
      obtain ⟨r2, w3, ew3, h⟩ := ob_e h
      refine r_cVi 17 (As := [.int x4]) (rest := []) hk (kX7_beginsExtent hN hj ew3) cf_RX7_101 mi_X7_beginsExtent ⟨TX7, 11, rfl⟩ dX7_firstOfExtent_14 rfl (Nat.le_of_ble_eq_true rfl) (Nat.le_of_ble_eq_true rfl) (mk_7_0 hj) rfl rfl (Nat.le_of_ble_eq_true rfl) ?_
      refine r_if_eq 31 20 hk dX7_firstOfExtent_17 rfl rfl (fun c4 => ?_) (fun c4 => ?_)
      · have h := if_t c4 h
        obtain ⟨x4_5, ex4_5, h⟩ := lw_e h
        refine r_iinc 34 [(4, .int x4_5), (0, .ref (al 7 j 0)), (1, .int x1), (2, .int x2), (3, .int x3)] hk (j := 4) dX7_firstOfExtent_31 rfl hn (by decide) rfl ex4_5 rfl ?_
        refine r_goto 5 hk (x := 0) dX7_firstOfExtent_34 rfl ?_
        refine r_sub [1, 2, 3, 4, 0] rfl ?_
        exact ih _ _ _ _ _ h
      · have h := if_f c4 h
        refine r_iload_n 21 hk dX7_firstOfExtent_20 rfl 3 rfl rfl ?_
        refine r_iload_n 22 hk dX7_firstOfExtent_21 rfl 1 rfl rfl ?_
        refine r_icmp_ne 28 25 hk dX7_firstOfExtent_22 rfl rfl (fun c6 => ?_) (fun c6 => ?_)
        · have h := if_f c6 h
          obtain ⟨x3_7, ex3_7, h⟩ := lw_e h
          refine r_iinc 31 [(3, .int x3_7), (0, .ref (al 7 j 0)), (1, .int x1), (2, .int x2), (4, .int x4)] hk (j := 3) dX7_firstOfExtent_28 rfl hn (by decide) rfl ex3_7 rfl ?_
          obtain ⟨x4_8, ex4_8, h⟩ := lw_e h
          refine r_iinc 34 [(4, .int x4_8), (3, .int x3_7), (0, .ref (al 7 j 0)), (1, .int x1), (2, .int x2)] hk (j := 4) dX7_firstOfExtent_31 rfl hn (by decide) rfl ex4_8 rfl ?_
          refine r_goto 5 hk (x := 0) dX7_firstOfExtent_34 rfl ?_
          refine r_sub [2, 3, 4, 1, 0] rfl ?_
          exact ih _ _ _ _ _ h
        · have h := if_t c6 h
          refine r_iload 27 hk dX7_firstOfExtent_25 rfl 4 rfl ?_
          exact r_iret hk hR dX7_firstOfExtent_27 h
set_option maxRecDepth 100000 in
set_option maxHeartbeats 4000000 in
theorem kX7_firstOfExtent {l : Launch} {G : Gx} {al : Al} {j : Nat} {w : Wd} {x1 : Int32} {x2 : Int32} {r : Int32} {wz : Wd} (hN : NX G) (hj : j < gN G 7) (h : fX7_firstOfExtent j w x1 x2 = some (r, wz)) : MC l G yX7_firstOfExtent cX7_firstOfExtent 5 (some (.int)) 3 65 al w [.ref (al 7 j 0), .int x1, .int x2] (some (.int r)) wz := by
  refine mc_of [(0, .ref (al 7 j 0)), (1, .int x1), (2, .int x2)] (by decide) (Nat.le_of_ble_eq_true rfl) rfl ?_
  intro K hk hR hn hl hG
  subst hl; subst hG
  have hk : VH K RX7 cX7_firstOfExtent 3 65 := hk
  rw [fX7_firstOfExtent.eq_1] at h
  refine r_iconst 1 hk dX7_firstOfExtent_0 rfl ci_0 ?_
  refine r_istore_n 2 [(3, .int 0), (0, .ref (al 7 j 0)), (1, .int x1), (2, .int x2)] hk dX7_firstOfExtent_1 rfl rfl hn (by decide) rfl rfl ?_
  refine r_iconst 3 hk dX7_firstOfExtent_2 rfl ci_0 ?_
  refine r_istore 5 [(4, .int 0), (3, .int 0), (0, .ref (al 7 j 0)), (1, .int x1), (2, .int x2)] hk dX7_firstOfExtent_3 rfl hn (by decide) rfl rfl ?_
  refine r_sub [2, 3, 4, 1, 0] rfl ?_
  exact sX7_firstOfExtent_5 hk hR hn hN hj _ _ _ _ _ _ h
