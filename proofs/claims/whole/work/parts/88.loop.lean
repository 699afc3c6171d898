/-! ===== the law's loop ===== -/
theorem tab_in (x : Int32) : (x.toInt < 0 ∨ 51 < x.toInt) ∨ ∃ k, k < 52 ∧ x = nI k := by
  by_cases h : 0 ≤ x.toInt ∧ x.toInt ≤ 51
  · exact Or.inr ⟨x.toInt.toNat, by omega, Int32.toInt_inj.mp (by rw [nI_toInt (by omega)]; omega)⟩
  · exact Or.inl (by omega)
theorem hd_z : ∀ L, L < 6 → nI L - 6 < nI 0 := by decide
theorem hd_lt {L i : Nat} (hL : L ≤ 3072) (hi : i ≤ L) (h0 : L < 6 → i = 0) : nI L - 6 < nI i ↔ L < i + 6 := by
  by_cases h : 6 ≤ L
  · obtain ⟨m, rfl⟩ : ∃ m, L = m + 6 := ⟨L - 6, by omega⟩
    have e : nI (m + 6) - 6 = nI m := by
      rw [← nI_add]
      exact Int32.add_sub_cancel _ _
    rw [e, nI_ltI (by omega) (by omega)]
    omega
  · rw [h0 (by omega)]
    exact ⟨fun _ => by omega, fun _ => hd_z L (by omega)⟩
theorem cb_63 : (Int8.ofInt 63).toInt32 = (63 : Int32) := by decide
section LP
variable {K : VC} {al : Al} {w : Wd} {b L i : Nat} {xs : Nat → Int32} {A : Ab}
set_option maxRecDepth 100000 in
theorem law_next (hk : VH K RL cL_law 15 560) (hn : kn K = 7) (go : V K al w 23 (Lw b al (i + 6)) []) : V K al w 1552 (Lw b al i) [] := by
  refine r_iinc 1555 [(4, .int (nI (i + 6))), (0, .ref b), (1, .ref (al 9 0 0)), (2, .ref (al 11 0 0)), (3, .ref (al 12 0 1))] hk (j := 4) dL_law_1552 rfl hn (by decide) rfl (nI_add i 6).symm rfl ?_
  refine r_goto (x := 0) 23 hk dL_law_1555 rfl ?_
  exact r_sub [1, 2, 3, 4, 0] rfl go
set_option maxRecDepth 100000 in
theorem law_head (hk : VH K RL cL_law 15 560) (hs : SC K b L xs) (hL : L ≤ 3072) (hi : i ≤ L) (h0 : L < 6 → i = 0) (ex : L < i + 6 → V K al w 1558 (Lw b al i) []) (bo : i + 6 ≤ L → V K al w 33 (Lw b al i) []) : V K al w 23 (Lw b al i) [] := by
  refine r_iload 25 hk dL_law_23 rfl 4 rfl ?_
  refine r_aload_n 26 hk dL_law_25 rfl 0 rfl rfl ?_
  refine r_slenA 27 hk hs dL_law_26 rfl ?_
  refine r_bipush 29 hk dL_law_27 rfl cb_6 ?_
  refine r_isub 30 hk dL_law_29 rfl ?_
  exact r_icmp_gt 1558 33 hk dL_law_30 rfl rfl (fun c => ex ((hd_lt hL hi h0).mp c)) (fun c => bo (Nat.le_of_not_lt (fun z => c ((hd_lt hL hi h0).mpr z))))
theorem Lw_N {nd q : Nat} {bb : Nat → Nat} : Lw b (alN al nd q bb) i = Lw b al i := by
  show [(0, Value.ref b), (1, Value.ref (alN al nd q bb 9 0 0)), (2, Value.ref (alN al nd q bb 11 0 0)), (3, Value.ref (alN al nd q bb 12 0 1)), (4, Value.int (nI i))] = _
  rw [alN_ne (Or.inl (by decide)), alN_ne (Or.inl (by decide)), alN_ne (Or.inl (by decide))]

set_option maxRecDepth 100000 in
set_option maxHeartbeats 4000000 in
theorem law_case (hk : VH K RL cL_law 15 560) (hn : kn K = 7) (hst : (kl K).stackTraces = false) (hXP : XP (kA K) (kS K) (kS K).heap) (hN : NX (kG K)) (h12 : (12, 0, 1) ∈ keys (gN (kG K))) (hs : SC K b L xs) (hi : i + 6 ≤ L) (hL : L < 2 ^ 31) (hcs : kC K + 10 ≤ (kR K).cells) (hts : kT K + 172 ≤ (kR K).slots) (hA : AOK A) (hX : XRel w A) (hM : MRel (gN (kG K) 10) w A) (go : ∀ (n2 : Nat → Nat) (al2 : Al) (w2 : Wd) (A2 : Ab) (cs ts : Nat), cs ≤ kC K + 10 → ts ≤ kT K + 172 → (n2 = gN (kG K) ∨ n2 = nU (gN (kG K))) → AOK A2 → XRel w2 A2 → MRel (n2 10) w2 A2 → V (kU K n2 cs ts) al2 w2 1552 (Lw b al2 i) []) : V K al w 33 (Lw b al i) [] := by
  have g0 : ∀ w2 A2, AOK A2 → XRel w2 A2 → MRel (gN (kG K) 10) w2 A2 → V K al w2 1552 (Lw b al i) [] := fun w2 A2 a1 a2 a3 => go (gN (kG K)) al w2 A2 (kC K) (kT K) (by omega) (by omega) (Or.inl rfl) a1 a2 a3
  refine r_aload_n 34 hk dL_law_33 rfl 0 rfl rfl ?_
  refine r_iload 36 hk dL_law_34 rfl 4 rfl ?_
  refine r_sld 37 hk hs (n := i) rfl (by omega) hL dL_law_36 rfl ?_
  refine r_bipush 39 hk dL_law_37 rfl cb_63 ?_
  refine r_iand 40 hk dL_law_39 rfl ?_
  rcases tab_in (xs i &&& 63) with ho | ⟨k, hlt, hx⟩
  · exact r_tabOut 1552 hk dL_law_40 ho rfl (g0 w A hA hX hM)
  · match k, hlt, hx with
    | 0, _, hx =>
      obtain ⟨r, w1, w2, A2, a1, e1, e2, a2, a3⟩ := cl_both (c_feed (a := xs (i + 1)) (b := xs (i + 2)) (c := xs (i + 3)) (d := xs (i + 4)) (e := xs (i + 5))) hA hX hM
      exact r_tabIn 264 hk (k := 0) hx dL_law_40 (by decide) (by decide) rfl rfl (lwc_0 hk hN hs hi hL e1 e2 (g0 w2 A2 a1 a2 a3))
    | 1, _, hx =>
      refine r_tabIn 337 hk (k := 1) hx dL_law_40 (by decide) (by decide) rfl rfl (lwc_1 hk hN hs hi hL hcs hts hA hX hM (fun n2 al2 w2 A2 a1 a2 a3 a4 => ?_))
      rcases a4 with ⟨e1, e2⟩ | ⟨e1, q, bb, e2⟩
      · have g := go n2 al2 w2 A2 (kC K + 10) (kT K + 172) (Nat.le_refl _) (Nat.le_refl _) (Or.inl e1) a1 a2 a3
        rw [e2] at g ⊢
        exact g
      · have g := go n2 al2 w2 A2 (kC K + 10) (kT K + 172) (Nat.le_refl _) (Nat.le_refl _) (Or.inr e1) a1 a2 a3
        rw [e2, Lw_N] at g
        rw [e2]
        exact g
    | 2, _, hx =>
      obtain ⟨r, w1, w2, A2, a1, e1, e2, a2, a3⟩ := cl_both (c_fault) hA hX hM
      exact r_tabIn 362 hk (k := 2) hx dL_law_40 (by decide) (by decide) rfl rfl (lwc_2 hk hN hs hi hL e1 e2 (g0 w2 A2 a1 a2 a3))
    | 3, _, hx =>
      obtain ⟨r, w1, w2, A2, a1, e1, e2, a2, a3⟩ := cl_both (c_where) hA hX hM
      exact r_tabIn 375 hk (k := 3) hx dL_law_40 (by decide) (by decide) rfl rfl (lwc_3 hk hN hs hi hL e1 e2 (g0 w2 A2 a1 a2 a3))
    | 4, _, hx =>
      obtain ⟨r, w1, w2, A2, a1, e1, e2, a2, a3⟩ := cl_both (q_read (x := xs (i + 1))).cl hA hX hM
      exact r_tabIn 388 hk (k := 4) hx dL_law_40 (by decide) (by decide) rfl rfl (lwc_4 hk hN hs hi hL e1 e2 (g0 w2 A2 a1 a2 a3))
    | 5, _, hx =>
      obtain ⟨r, w1, w2, A2, a1, e1, e2, a2, a3⟩ := cl_both (q_track (x := xs (i + 1))).cl hA hX hM
      exact r_tabIn 413 hk (k := 5) hx dL_law_40 (by decide) (by decide) rfl rfl (lwc_5 hk hN hs hi hL e1 e2 (g0 w2 A2 a1 a2 a3))
    | 6, _, hx =>
      obtain ⟨r, w1, w2, A2, a1, e1, e2, a2, a3⟩ := cl_both (q_bandOf (x := xs (i + 1))).cl hA hX hM
      exact r_tabIn 438 hk (k := 6) hx dL_law_40 (by decide) (by decide) rfl rfl (lwc_6 hk hN hs hi hL e1 e2 (g0 w2 A2 a1 a2 a3))
    | 7, _, hx =>
      obtain ⟨r, w1, w2, A2, a1, e1, e2, a2, a3⟩ := cl_both (q_band (x := xs (i + 1)) (y := xs (i + 2))).cl hA hX hM
      exact r_tabIn 463 hk (k := 7) hx dL_law_40 (by decide) (by decide) rfl rfl (lwc_7 hk hN hs hi hL e1 e2 (g0 w2 A2 a1 a2 a3))
    | 8, _, hx =>
      obtain ⟨r, w1, w2, A2, a1, e1, e2, a2, a3⟩ := cl_both (q_wide).cl hA hX hM
      exact r_tabIn 500 hk (k := 8) hx dL_law_40 (by decide) (by decide) rfl rfl (lwc_8 hk hN hs hi hL e1 e2 (g0 w2 A2 a1 a2 a3))
    | 9, _, hx =>
      obtain ⟨r, w1, w2, A2, a1, e1, e2, a2, a3⟩ := cl_both (q_down).cl hA hX hM
      exact r_tabIn 513 hk (k := 9) hx dL_law_40 (by decide) (by decide) rfl rfl (lwc_9 hk hN hs hi hL e1 e2 (g0 w2 A2 a1 a2 a3))
    | 10, _, hx =>
      obtain ⟨r, w1, w2, A2, a1, e1, e2, a2, a3⟩ := cl_both (q_journal).cl hA hX hM
      exact r_tabIn 526 hk (k := 10) hx dL_law_40 (by decide) (by decide) rfl rfl (lwc_10 hk hN hs hi hL e1 e2 (g0 w2 A2 a1 a2 a3))
    | 11, _, hx =>
      obtain ⟨r, w1, w2, A2, a1, e1, e2, a2, a3⟩ := cl_both (q_entries).cl hA hX hM
      exact r_tabIn 539 hk (k := 11) hx dL_law_40 (by decide) (by decide) rfl rfl (lwc_11 hk hN hs hi hL e1 e2 (g0 w2 A2 a1 a2 a3))
    | 12, _, hx =>
      obtain ⟨r, w1, w2, A2, a1, e1, e2, a2, a3⟩ := cl_both (q_entry (x := xs (i + 1)) (y := xs (i + 2))).cl hA hX hM
      exact r_tabIn 552 hk (k := 12) hx dL_law_40 (by decide) (by decide) rfl rfl (lwc_12 hk hN hs hi hL e1 e2 (g0 w2 A2 a1 a2 a3))
    | 13, _, hx =>
      obtain ⟨r, w1, w2, A2, a1, e1, e2, a2, a3⟩ := cl_both (q_live).cl hA hX hM
      exact r_tabIn 589 hk (k := 13) hx dL_law_40 (by decide) (by decide) rfl rfl (lwc_13 hk hN hs hi hL e1 e2 (g0 w2 A2 a1 a2 a3))
    | 14, _, hx =>
      obtain ⟨r, w1, w2, A2, a1, e1, e2, a2, a3⟩ := cl_both (q_extents).cl hA hX hM
      exact r_tabIn 602 hk (k := 14) hx dL_law_40 (by decide) (by decide) rfl rfl (lwc_14 hk hN hs hi hL e1 e2 (g0 w2 A2 a1 a2 a3))
    | 15, _, hx =>
      obtain ⟨r, w1, w2, A2, a1, e1, e2, a2, a3⟩ := cl_both (q_extent (x := xs (i + 1)) (y := xs (i + 2))).cl hA hX hM
      exact r_tabIn 615 hk (k := 15) hx dL_law_40 (by decide) (by decide) rfl rfl (lwc_15 hk hN hs hi hL e1 e2 (g0 w2 A2 a1 a2 a3))
    | 16, _, hx =>
      obtain ⟨r, w1, w2, A2, a1, e1, e2, a2, a3⟩ := cl_both (q_extentFrom (x := xs (i + 1))).cl hA hX hM
      exact r_tabIn 652 hk (k := 16) hx dL_law_40 (by decide) (by decide) rfl rfl (lwc_16 hk hN hs hi hL e1 e2 (g0 w2 A2 a1 a2 a3))
    | 17, _, hx =>
      obtain ⟨r, w1, w2, A2, a1, e1, e2, a2, a3⟩ := cl_both (q_cleansNext).cl hA hX hM
      exact r_tabIn 677 hk (k := 17) hx dL_law_40 (by decide) (by decide) rfl rfl (lwc_17 hk hN hs hi hL e1 e2 (g0 w2 A2 a1 a2 a3))
    | 18, _, hx =>
      obtain ⟨r, w1, w2, A2, a1, e1, e2, a2, a3⟩ := cl_both (q_cleansThen (x := xs (i + 1))).cl hA hX hM
      exact r_tabIn 690 hk (k := 18) hx dL_law_40 (by decide) (by decide) rfl rfl (lwc_18 hk hN hs hi hL e1 e2 (g0 w2 A2 a1 a2 a3))
    | 19, _, hx =>
      obtain ⟨r, w1, w2, A2, a1, e1, e2, a2, a3⟩ := cl_both (q_steps (x := xs (i + 1))).cl hA hX hM
      exact r_tabIn 715 hk (k := 19) hx dL_law_40 (by decide) (by decide) rfl rfl (lwc_19 hk hN hs hi hL e1 e2 (g0 w2 A2 a1 a2 a3))
    | 20, _, hx =>
      obtain ⟨r, w1, w2, A2, a1, e1, e2, a2, a3⟩ := cl_both (q_rids (x := xs (i + 1))).cl hA hX hM
      exact r_tabIn 740 hk (k := 20) hx dL_law_40 (by decide) (by decide) rfl rfl (lwc_20 hk hN hs hi hL e1 e2 (g0 w2 A2 a1 a2 a3))
    | 21, _, hx =>
      obtain ⟨r, w1, w2, A2, a1, e1, e2, a2, a3⟩ := cl_both (q_damages (x := xs (i + 1)) (y := xs (i + 2))).cl hA hX hM
      exact r_tabIn 765 hk (k := 21) hx dL_law_40 (by decide) (by decide) rfl rfl (lwc_21 hk hN hs hi hL e1 e2 (g0 w2 A2 a1 a2 a3))
    | 22, _, hx =>
      obtain ⟨r, w1, w2, A2, a1, e1, e2, a2, a3⟩ := cl_both (q_fullThen (x := xs (i + 1)) (y := xs (i + 2))).cl hA hX hM
      exact r_tabIn 802 hk (k := 22) hx dL_law_40 (by decide) (by decide) rfl rfl (lwc_22 hk hN hs hi hL e1 e2 (g0 w2 A2 a1 a2 a3))
    | 23, _, hx =>
      obtain ⟨r, w1, w2, A2, a1, e1, e2, a2, a3⟩ := cl_both (q_readThen (x := xs (i + 1)) (y := xs (i + 2)) (z := xs (i + 3))).cl hA hX hM
      exact r_tabIn 839 hk (k := 23) hx dL_law_40 (by decide) (by decide) rfl rfl (lwc_23 hk hN hs hi hL e1 e2 (g0 w2 A2 a1 a2 a3))
    | 24, _, hx =>
      obtain ⟨r, w1, w2, A2, a1, e1, e2, a2, a3⟩ := cl_both (q_recoversBy (x := xs (i + 1)) (y := xs (i + 2))).cl hA hX hM
      exact r_tabIn 888 hk (k := 24) hx dL_law_40 (by decide) (by decide) rfl rfl (lwc_24 hk hN hs hi hL e1 e2 (g0 w2 A2 a1 a2 a3))
    | 25, _, hx =>
      obtain ⟨r, w1, w2, A2, a1, e1, e2, a2, a3⟩ := cl_both (q_runWrites).cl hA hX hM
      exact r_tabIn 925 hk (k := 25) hx dL_law_40 (by decide) (by decide) rfl rfl (lwc_25 hk hN hs hi hL e1 e2 (g0 w2 A2 a1 a2 a3))
    | 26, _, hx =>
      obtain ⟨r, w1, w2, A2, a1, e1, e2, a2, a3⟩ := cl_both (q_runCleans).cl hA hX hM
      exact r_tabIn 938 hk (k := 26) hx dL_law_40 (by decide) (by decide) rfl rfl (lwc_26 hk hN hs hi hL e1 e2 (g0 w2 A2 a1 a2 a3))
    | 27, _, hx =>
      obtain ⟨r, w1, w2, A2, a1, e1, e2, a2, a3⟩ := cl_both (q_runRead (x := xs (i + 1))).cl hA hX hM
      exact r_tabIn 951 hk (k := 27) hx dL_law_40 (by decide) (by decide) rfl rfl (lwc_27 hk hN hs hi hL e1 e2 (g0 w2 A2 a1 a2 a3))
    | 28, _, hx =>
      obtain ⟨r, w1, w2, A2, a1, e1, e2, a2, a3⟩ := cl_both (q_factor (x := if xs (i + 1) = 0 then 0 else 1)).cl hA hX hM
      exact r_tabIn 976 hk (k := 28) hx dL_law_40 (by decide) (by decide) rfl rfl (lwc_28 hk hN hs hi hL e1 e2 (g0 w2 A2 a1 a2 a3))
    | 29, _, hx =>
      obtain ⟨r, w1, w2, A2, a1, e1, e2, a2, a3⟩ := cl_both (q_bySize (x := xs (i + 1))).cl hA hX hM
      exact r_tabIn 1018 hk (k := 29) hx dL_law_40 (by decide) (by decide) rfl rfl (lwc_29 hk hN hs hi hL e1 e2 (g0 w2 A2 a1 a2 a3))
    | 30, _, hx =>
      obtain ⟨r, w1, w2, A2, a1, e1, e2, a2, a3⟩ := cl_both (q_bestSize).cl hA hX hM
      exact r_tabIn 1043 hk (k := 30) hx dL_law_40 (by decide) (by decide) rfl rfl (lwc_30 hk hN hs hi hL e1 e2 (g0 w2 A2 a1 a2 a3))
    | 31, _, hx =>
      obtain ⟨r, w1, w2, A2, a1, e1, e2, a2, a3⟩ := cl_both (q_byLog (x := xs (i + 1))).cl hA hX hM
      exact r_tabIn 1056 hk (k := 31) hx dL_law_40 (by decide) (by decide) rfl rfl (lwc_31 hk hN hs hi hL e1 e2 (g0 w2 A2 a1 a2 a3))
    | 32, _, hx =>
      obtain ⟨r, w1, w2, A2, a1, e1, e2, a2, a3⟩ := cl_both (q_logFor (x := xs (i + 1))).cl hA hX hM
      exact r_tabIn 1081 hk (k := 32) hx dL_law_40 (by decide) (by decide) rfl rfl (lwc_32 hk hN hs hi hL e1 e2 (g0 w2 A2 a1 a2 a3))
    | 33, _, hx =>
      obtain ⟨r, w1, w2, A2, a1, e1, e2, a2, a3⟩ := cl_both (q_fits).cl hA hX hM
      exact r_tabIn 1106 hk (k := 33) hx dL_law_40 (by decide) (by decide) rfl rfl (lwc_33 hk hN hs hi hL e1 e2 (g0 w2 A2 a1 a2 a3))
    | 34, _, hx =>
      obtain ⟨r, w1, w2, A2, a1, e1, e2, a2, a3⟩ := cl_both (q_fitAt (x := xs (i + 1))).cl hA hX hM
      exact r_tabIn 1119 hk (k := 34) hx dL_law_40 (by decide) (by decide) rfl rfl (lwc_34 hk hN hs hi hL e1 e2 (g0 w2 A2 a1 a2 a3))
    | 35, _, hx =>
      obtain ⟨r, w1, w2, A2, a1, e1, e2, a2, a3⟩ := cl_both (q_could).cl hA hX hM
      exact r_tabIn 1144 hk (k := 35) hx dL_law_40 (by decide) (by decide) rfl rfl (lwc_35 hk hN hs hi hL e1 e2 (g0 w2 A2 a1 a2 a3))
    | 36, _, hx =>
      obtain ⟨r, w1, w2, A2, a1, e1, e2, a2, a3⟩ := cl_both (q_surely).cl hA hX hM
      exact r_tabIn 1157 hk (k := 36) hx dL_law_40 (by decide) (by decide) rfl rfl (lwc_36 hk hN hs hi hL e1 e2 (g0 w2 A2 a1 a2 a3))
    | 37, _, hx =>
      obtain ⟨r, w1, w2, A2, a1, e1, e2, a2, a3⟩ := cl_both (q_ask).cl hA hX hM
      exact r_tabIn 1170 hk (k := 37) hx dL_law_40 (by decide) (by decide) rfl rfl (lwc_37 hk hN hs hi hL e1 e2 (g0 w2 A2 a1 a2 a3))
    | 38, _, hx =>
      obtain ⟨r, w1, w2, A2, a1, e1, e2, a2, a3⟩ := cl_both (q_askLeaves).cl hA hX hM
      exact r_tabIn 1183 hk (k := 38) hx dL_law_40 (by decide) (by decide) rfl rfl (lwc_38 hk hN hs hi hL e1 e2 (g0 w2 A2 a1 a2 a3))
    | 39, _, hx =>
      obtain ⟨r, w1, w2, A2, a1, e1, e2, a2, a3⟩ := cl_both (q_judge).cl hA hX hM
      exact r_tabIn 1196 hk (k := 39) hx dL_law_40 (by decide) (by decide) rfl rfl (lwc_39 hk hN hs hi hL e1 e2 (g0 w2 A2 a1 a2 a3))
    | 40, _, hx =>
      obtain ⟨r, w1, w2, A2, a1, e1, e2, a2, a3⟩ := cl_both (q_drawnRead (x := xs (i + 1)) (y := xs (i + 2)) (z := xs (i + 3))).cl hA hX hM
      exact r_tabIn 1209 hk (k := 40) hx dL_law_40 (by decide) (by decide) rfl rfl (lwc_40 hk hN hs hi hL e1 e2 (g0 w2 A2 a1 a2 a3))
    | 41, _, hx =>
      obtain ⟨r, w1, w2, A2, a1, e1, e2, a2, a3⟩ := cl_both (q_drawnWrites (y := xs (i + 1)) (z := xs (i + 2))).cl hA hX hM
      exact r_tabIn 1258 hk (k := 41) hx dL_law_40 (by decide) (by decide) rfl rfl (lwc_41 hk hN hs hi hL e1 e2 (g0 w2 A2 a1 a2 a3))
    | 42, _, hx =>
      obtain ⟨r, w1, w2, A2, a1, e1, e2, a2, a3⟩ := cl_both (c_write (x := xs (i + 1)) (y := xs (i + 2))).cl hA hX hM
      exact r_tabIn 1295 hk (k := 42) hx dL_law_40 (by decide) (by decide) rfl rfl (lwc_42 hk hN hs hi hL e1 e2 (g0 w2 A2 a1 a2 a3))
    | 43, _, hx =>
      obtain ⟨r, w1, w2, A2, a1, e1, e2, a2, a3⟩ := cl_both (c_clean (x := xs (i + 1))).cl hA hX hM
      exact r_tabIn 1332 hk (k := 43) hx dL_law_40 (by decide) (by decide) rfl rfl (lwc_43 hk hN hs hi hL e1 e2 (g0 w2 A2 a1 a2 a3))
    | 44, _, hx =>
      obtain ⟨r, w1, w2, A2, a1, e1, e2, a2, a3⟩ := cl_both (c_cut (x := xs (i + 1)) (y := xs (i + 2))).cl hA hX hM
      exact r_tabIn 1357 hk (k := 44) hx dL_law_40 (by decide) (by decide) rfl rfl (lwc_44 hk hN hs hi hL e1 e2 (g0 w2 A2 a1 a2 a3))
    | 45, _, hx =>
      obtain ⟨r, w1, w2, A2, a1, e1, e2, a2, a3⟩ := cl_both (c_recover).cl hA hX hM
      exact r_tabIn 1394 hk (k := 45) hx dL_law_40 (by decide) (by decide) rfl rfl (lwc_45 hk hN hs hi hL e1 e2 (g0 w2 A2 a1 a2 a3))
    | 46, _, hx =>
      obtain ⟨r, w1, w2, A2, a1, e1, e2, a2, a3⟩ := cl_both (c_undo).cl hA hX hM
      exact r_tabIn 1407 hk (k := 46) hx dL_law_40 (by decide) (by decide) rfl rfl (lwc_46 hk hN hs hi hL e1 e2 (g0 w2 A2 a1 a2 a3))
    | 47, _, hx =>
      obtain ⟨r, w1, w2, A2, a1, e1, e2, a2, a3⟩ := cl_both (c_image).cl hA hX hM
      exact r_tabIn 1420 hk (k := 47) hx dL_law_40 (by decide) (by decide) rfl rfl (lwc_47 hk hN hs hi hL e1 e2 (g0 w2 A2 a1 a2 a3))
    | 48, _, hx =>
      obtain ⟨r, w1, w2, A2, a1, e1, e2, a2, a3⟩ := cl_both (c_back (x := xs (i + 1))).cl hA hX hM
      exact r_tabIn 1433 hk (k := 48) hx dL_law_40 (by decide) (by decide) rfl rfl (lwc_48 hk hN hs hi hL e1 e2 (g0 w2 A2 a1 a2 a3))
    | 49, _, hx =>
      exact r_tabIn 1458 hk (k := 49) hx dL_law_40 (by decide) (by decide) rfl rfl (lwc_49 hk hn hst hXP hN h12 hs hi hL (by omega) (by omega) hA hX hM (fun w2 a2 a3 => go (gN (kG K)) al w2 A (kC K + 1) (kT K + 6) (by omega) (by omega) (Or.inl rfl) hA a2 a3))
    | 50, _, hx =>
      obtain ⟨r, w1, w2, A2, a1, e1, e2, a2, a3⟩ := cl_both (q_size (x := xs (i + 1))).cl hA hX hM
      exact r_tabIn 1514 hk (k := 50) hx dL_law_40 (by decide) (by decide) rfl rfl (lwc_50 hk hN hs hi hL e1 e2 (g0 w2 A2 a1 a2 a3))
    | 51, _, hx =>
      obtain ⟨r, w1, w2, A2, a1, e1, e2, a2, a3⟩ := cl_both (c_trouble) hA hX hM
      exact r_tabIn 1539 hk (k := 51) hx dL_law_40 (by decide) (by decide) rfl rfl (lwc_51 hk hN hs hi hL e1 e2 (g0 w2 A2 a1 a2 a3))
    | k + 52, h, _ => exact absurd h (by omega)
end LP
set_option maxRecDepth 100000 in
theorem law_loop {K0 : VC} {b L c0 t0 : Nat} {xs : Nat → Int32} (hk : VH K0 RL cL_law 15 560) (hn : kn K0 = 7) (hst : (kl K0).stackTraces = false) (hXP : XP (kA K0) (kS K0) (kS K0).heap) (hs : SC K0 b L xs) (hL : L ≤ 3072) (hcc : c0 + 5120 ≤ (kR K0).cells) (htt : t0 + 88064 ≤ (kR K0).slots)
    (fin : ∀ (n : Nat → Nat) (al : Al) (w : Wd) (Lc : List (Nat × Value)) (cs ts : Nat), cs ≤ (kR K0).cells → ts ≤ (kR K0).slots → V (kU K0 n cs ts) al w 1559 Lc [.int 1]) :
    ∀ (r t : Nat) (n : Nat → Nat) (al : Al) (w : Wd) (A : Ab) (cs ts : Nat), L ≤ 6 * t + 6 * r → 6 * t ≤ L → NX (gU (kG K0) n) → n 12 = 1 → AOK A → XRel w A → MRel (n 10) w A → cs ≤ c0 + 10 * t → ts ≤ t0 + 172 * t → V (kU K0 n cs ts) al w 23 (Lw b al (6 * t)) [] := by
  intro r
  induction r with
  | zero =>
    intro t n al w A cs ts h1 h2 hN h12 hA hX hM hc ht
    have hk1 : VH (kU K0 n cs ts) RL cL_law 15 560 := hk.u (by omega) (by omega)
    refine law_head hk1 hs hL h2 (fun _ => by omega) (fun _ => ?_) (fun z => absurd z (by omega))
    refine r_iconst 1559 hk1 dL_law_1558 rfl ci_1 ?_
    exact fin n al w _ cs ts (by omega) (by omega)
  | succ r ih =>
    intro t n al w A cs ts h1 h2 hN h12 hA hX hM hc ht
    have hk1 : VH (kU K0 n cs ts) RL cL_law 15 560 := hk.u (by omega) (by omega)
    have hs1 : SC (kU K0 n cs ts) b L xs := hs
    refine law_head hk1 hs1 hL h2 (fun _ => by omega) (fun _ => ?_) (fun z => ?_)
    · refine r_iconst 1559 hk1 dL_law_1558 rfl ci_1 ?_
      exact fin n al w _ cs ts (by omega) (by omega)
    · have hm : (12, 0, 1) ∈ keys n := mem_keys (by decide) (by omega) (by decide)
      refine law_case (A := A) hk1 hn hst hXP hN hm hs1 z (by omega) (show cs + 10 ≤ (kR K0).cells by omega) (show ts + 172 ≤ (kR K0).slots by omega) hA hX hM (fun n2 al2 w2 A2 cs2 ts2 g1 g2 g3 g4 g5 g6 => ?_)
      have g1 : cs2 ≤ cs + 10 := g1
      have g2 : ts2 ≤ ts + 172 := g2
      have hk2 : VH (kU K0 n2 cs2 ts2) RL cL_law 15 560 := hk.u (by omega) (by omega)
      have hn2 : NX (gU (kG K0) n2) ∧ n2 12 = 1 := by
        rcases g3 with e | e
        · have e : n2 = n := e
          subst e
          exact ⟨hN, h12⟩
        · have e : n2 = nU n := e
          subst e
          exact ⟨hN, h12⟩
      have e6 : 6 * (t + 1) = 6 * t + 6 := by omega
      have g := ih (t + 1) n2 al2 w2 A2 cs2 ts2 (by omega) (by omega) hn2.1 hn2.2 g4 g5 g6 (by omega) (by omega)
      rw [e6] at g
      exact law_next hk2 hn g
