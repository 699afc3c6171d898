def fX11_disk_54 (nd : Nat) (w : Wd) : Option (Int32 × Wd) :=
    lw (sI w 11 0 9 (0)) fun w1 =>
    ob (fX11_goesOn nd w1 ) fun _ w3 =>
    ob (fX11_readAll nd w3 ) fun _ w5 =>
    if (((w5 11 0).1 12) : Int32) ≤ 0 then
      ckp ((w5 11 0).2.2.1 4) nd fun q7 =>
      lw (sP w5 11 0 3 (q7 + 1)) fun w8 =>
      ob (fX11_asTold nd w8 ) fun _ w10 =>
      ob (fX11_remains nd w10 ) fun _ w12 =>
      lw (sI w12 11 0 19 (0)) fun w13 =>
      lw (sI w13 11 0 20 (0)) fun w14 =>
      ckp ((w14 11 0).2.2.1 3) nd fun q15 =>
      ob (fX11_good nd w14 (((w14 10 q15).1 3))) fun r16 w17 =>
      some (r16, w17)
    else
      lw (sI w5 11 0 1 (4)) fun w18 =>
      lw (sI w18 11 0 2 (((w18 11 0).1 13))) fun w19 =>
      some ((-1), w19)
set_option maxRecDepth 100000 in
set_option maxHeartbeats 4000000 in
theorem sX11_disk_54 {K : VC} {al : Al} {r : Int32} {wz : Wd}  (hk : VH K RX11 cX11_disk 11 252) (hR : VR K al (some (.int)) (some (.int r)) wz) (hn : kn K = 2) (hN : NX (kG K)) (w : Wd) (h : fX11_disk_54 (gN (kG K) 10) w = some (r, wz)) : V K al w 54 [(0, .ref (al 11 0 0))] [] := by
  rw [fX11_disk_54.eq_1] at h
  refine r_aload_n 55 hk dX11_disk_54 rfl 0 rfl rfl ?_
  refine r_iconst 56 hk dX11_disk_55 rfl ci_0 ?_
  obtain ⟨w1, ew1, h⟩ := lw_e h
  refine r_putI 59 w1 hk dX11_disk_56 rfl ff_RX11_77 fi_11_9 (mk_11_0 (nx_11 hN (j := 0) (by decide))) ew1 ?_
  refine r_aload_n 60 hk dX11_disk_59 rfl 0 rfl rfl ?_
  obtain ⟨r2, w3, ew3, h⟩ := ob_e h
  refine r_cVv 63 (As := []) (rest := []) hk (kX11_goesOn hN ew3) cf_RX11_113 mi_X11_goesOn ⟨TX11, 36, rfl⟩ dX11_disk_60 rfl (Nat.le_of_ble_eq_true rfl) (Nat.le_of_ble_eq_true rfl) (mk_11_0 (nx_11 hN (j := 0) (by decide))) rfl rfl (Nat.le_of_ble_eq_true rfl) ?_
  refine r_aload_n 64 hk dX11_disk_63 rfl 0 rfl rfl ?_
  obtain ⟨r4, w5, ew5, h⟩ := ob_e h
  refine r_cVv 67 (As := []) (rest := []) hk (kX11_readAll hN ew5) cf_RX11_257 mi_X11_readAll ⟨TX11, 36, rfl⟩ dX11_disk_64 rfl (Nat.le_of_ble_eq_true rfl) (Nat.le_of_ble_eq_true rfl) (mk_11_0 (nx_11 hN (j := 0) (by decide))) rfl rfl (Nat.le_of_ble_eq_true rfl) ?_
  refine r_aload_n 68 hk dX11_disk_67 rfl 0 rfl rfl ?_
  refine r_get 71 hk dX11_disk_68 rfl ff_RX11_103 (mk_11_0 (nx_11 hN (j := 0) (by decide))) (gv_11_12 _ _ _) ?_
  refine r_if_le 89 74 hk dX11_disk_71 rfl rfl (fun c6 => ?_) (fun c6 => ?_)
  · have h := if_t c6 h
    refine r_aload_n 90 hk dX11_disk_89 rfl 0 rfl rfl ?_
    refine r_aload_n 91 hk dX11_disk_90 rfl 0 rfl rfl ?_
    refine r_get 94 hk dX11_disk_91 rfl ff_RX11_139 (mk_11_0 (nx_11 hN (j := 0) (by decide))) (gv_11_4 _ _ _) ?_
    obtain ⟨q7, eq7, lq7, h⟩ := ckp_e h
    refine r_pv1 eq7 ?_
    obtain ⟨w8, ew8, h⟩ := lw_e h
    refine r_putP 97 w8 hk dX11_disk_94 rfl ff_RX11_260 fi_11_3 (mk_11_0 (nx_11 hN (j := 0) (by decide))) ew8 ?_
    refine r_aload_n 98 hk dX11_disk_97 rfl 0 rfl rfl ?_
    obtain ⟨r9, w10, ew10, h⟩ := ob_e h
    refine r_cVv 101 (As := []) (rest := []) hk (kX11_asTold hN ew10) cf_RX11_262 mi_X11_asTold ⟨TX11, 36, rfl⟩ dX11_disk_98 rfl (Nat.le_of_ble_eq_true rfl) (Nat.le_of_ble_eq_true rfl) (mk_11_0 (nx_11 hN (j := 0) (by decide))) rfl rfl (Nat.le_of_ble_eq_true rfl) ?_
    refine r_aload_n 102 hk dX11_disk_101 rfl 0 rfl rfl ?_
    obtain ⟨r11, w12, ew12, h⟩ := ob_e h
    refine r_cVv 105 (As := []) (rest := []) hk (kX11_remains hN ew12) cf_RX11_265 mi_X11_remains ⟨TX11, 36, rfl⟩ dX11_disk_102 rfl (Nat.le_of_ble_eq_true rfl) (Nat.le_of_ble_eq_true rfl) (mk_11_0 (nx_11 hN (j := 0) (by decide))) rfl rfl (Nat.le_of_ble_eq_true rfl) ?_
    refine r_aload_n 106 hk dX11_disk_105 rfl 0 rfl rfl ?_
    refine r_iconst 107 hk dX11_disk_106 rfl ci_0 ?_
    obtain ⟨w13, ew13, h⟩ := lw_e h
    refine r_putI 110 w13 hk dX11_disk_107 rfl ff_RX11_268 fi_11_19 (mk_11_0 (nx_11 hN (j := 0) (by decide))) ew13 ?_
    refine r_aload_n 111 hk dX11_disk_110 rfl 0 rfl rfl ?_
    refine r_iconst 112 hk dX11_disk_111 rfl ci_0 ?_
    obtain ⟨w14, ew14, h⟩ := lw_e h
    refine r_putI 115 w14 hk dX11_disk_112 rfl ff_RX11_271 fi_11_20 (mk_11_0 (nx_11 hN (j := 0) (by decide))) ew14 ?_
    refine r_aload_n 116 hk dX11_disk_115 rfl 0 rfl rfl ?_
    refine r_aload_n 117 hk dX11_disk_116 rfl 0 rfl rfl ?_
    refine r_get 120 hk dX11_disk_117 rfl ff_RX11_260 (mk_11_0 (nx_11 hN (j := 0) (by decide))) (gv_11_3 _ _ _) ?_
    obtain ⟨q15, eq15, lq15, h⟩ := ckp_e h
    refine r_pv1 eq15 ?_
    refine r_get 123 hk dX11_disk_120 rfl ff_RX11_209 (mk_10_0 lq15) (gv_10_3 _ _ _) ?_
    obtain ⟨r16, w17, ew17, h⟩ := ob_e h
    refine r_cVi 126 (As := [.int (((w14 10 q15).1 3))]) (rest := []) hk (kX11_good hN ew17) cf_RX11_55 mi_X11_good ⟨TX11, 36, rfl⟩ dX11_disk_123 rfl (Nat.le_of_ble_eq_true rfl) (Nat.le_of_ble_eq_true rfl) (mk_11_0 (nx_11 hN (j := 0) (by decide))) rfl rfl (Nat.le_of_ble_eq_true rfl) ?_
    exact r_iret hk hR dX11_disk_126 h
  · have h := if_f c6 h
    refine r_aload_n 75 hk dX11_disk_74 rfl 0 rfl rfl ?_
    refine r_iconst 76 hk dX11_disk_75 rfl ci_4 ?_
    obtain ⟨w18, ew18, h⟩ := lw_e h
    refine r_putI 79 w18 hk dX11_disk_76 rfl ff_RX11_48 fi_11_1 (mk_11_0 (nx_11 hN (j := 0) (by decide))) ew18 ?_
    refine r_aload_n 80 hk dX11_disk_79 rfl 0 rfl rfl ?_
    refine r_aload_n 81 hk dX11_disk_80 rfl 0 rfl rfl ?_
    refine r_get 84 hk dX11_disk_81 rfl ff_RX11_106 (mk_11_0 (nx_11 hN (j := 0) (by decide))) (gv_11_13 _ _ _) ?_
    obtain ⟨w19, ew19, h⟩ := lw_e h
    refine r_putI 87 w19 hk dX11_disk_84 rfl ff_RX11_9 fi_11_2 (mk_11_0 (nx_11 hN (j := 0) (by decide))) ew19 ?_
    refine r_iconst 88 hk dX11_disk_87 rfl ci_m1 ?_
    exact r_iret hk hR dX11_disk_88 h
