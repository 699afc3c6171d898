/-! ===== the law: led ===== -/
section L49
variable {K : VC} {own : String} {cc : ByteArray} {fr lo : Nat} {al : Al} {w : Wd} {pc b L i : Nat} {Lc : List (Nat × Value)} {st : List Value} {xs : Nat → Int32}
theorem MRel.fo {w1 : Wd} {nd : Nat} {A : Ab} (h : MRel nd w A) (f : ∀ c j, c < 12 → w1 c j = w c j) : MRel nd w1 A := by
  have e : w1 11 0 = w 11 0 := f 11 0 (by decide)
  obtain ⟨h1, h2, h3, h4, h5, h6⟩ := h
  exact ⟨by rw [e]; exact h1, by rw [e]; exact h2, by rw [e]; exact h3, by rw [e]; exact h4, by rw [e]; exact h5, MD.cg h6 (fun j => f 10 j (by decide)) (by rw [e]) (fun k _ => by rw [e]) (fun k _ => by rw [e])⟩
theorem r_lald (p : Nat) (h : VH K own cc fr lo) (hj : (12, 0, 1) ∈ keys (gN (kG K))) (d : decode cc pc = .ok (.laload, 1)) (e : p = pc + 1) (kk : V K al w p Lc (.long ((w 12 0).2.2.2 0) :: st)) : V K al w pc Lc (.int 0 :: .ref (al 12 0 1) :: st) := fun H lc ls hP hD hS hl => by
  subst e
  obtain ⟨q, hq0, hq⟩ := ws_mem (G := kG K) (al := al) (w := w) hj
  exact va_lald (i := 0) (n := 1) (f := fun _ => (w 12 0).2.2.2 0) (cA := (kG K).2.1 5) (a := al 12 0 1) h.x h.b h.k hP q 5 hq rfl (inb_in rfl) d (kk H lc ls hP hD hS hl)
theorem wd_lled : Cond.methodLink RL 222 yL_led ∈ big ∧ Cond.static yL_led ∈ big ∧ Cond.initialized RL ∈ big ∧ Cond.codeWith yL_led cL_led 4 (some .int) [(0, 9, 12, 13)] ∈ big := ⟨big_t 960 (by decide +kernel) rfl, big_t 961 (by decide +kernel) rfl, big_t 0 (by decide +kernel) rfl, big_t 962 (by decide +kernel) rfl⟩
theorem big_lled : ∀ w9 ∈ va_wsS RL 222 yL_led (.codeWith yL_led cL_led 4 (some .int) [(0, 9, 12, 13)] :: big), w9 ∈ big := fun w9 hw => by
  obtain ⟨a1, a2, a3, a4⟩ := wd_lled
  unfold va_wsS at hw
  rcases List.mem_append.mp hw with h | h
  · rcases List.mem_cons.mp h with rfl | h
    · exact a1
    · rcases List.mem_cons.mp h with rfl | h
      · exact a2
      · rcases List.mem_cons.mp h with rfl | h
        · exact a3
        · cases h
  · exact big_cons a4 w9 h
set_option maxRecDepth 100000 in
theorem r_lled (p : Nat) (hk : VH K RL cc fr lo) (hst : (kl K).stackTraces = false) (hXP : XP (kA K) (kS K) (kS K).heap) (hN : NX (kG K)) (h12 : (12, 0, 1) ∈ keys (gN (kG K))) {x1 : Int32} {o : Option Int32} {wz : Wd} (h : fX9_led w x1 = some (o, wz)) (hcs : kC K + 1 ≤ (kR K).cells) (hts : kT K + 6 ≤ (kR K).slots) (hf : 8 ≤ fr) (ho : 127 ≤ lo) (hr : (st.map fun v => v.category).sum ≤ 8) (d : decode cc pc = .ok (.invokestatic 222, 3)) (e : p = pc + 3) (kk : ∀ (r : Int32) (w2 : Wd), ((∃ v, o = some v ∧ r = 0 ∧ w2 = sJ wz 12 0 0 v.toInt64) ∨ (o = none ∧ r = 1 ∧ w2 = wz)) → V (kU K (gN (kG K)) (kC K + 1) (kT K + 6)) al w2 p Lc (.int r :: st)) : V K al w pc Lc (.ref (al 12 0 1) :: .int x1 :: .ref (al 9 0 0) :: st) := fun H lc ls hP hD hS hl => by
  subst e
  have hfr := vc_free hk hD hS
  have hpr := vc_pre (as := [.ref (al 9 0 0), .int x1, .ref (al 12 0 1)]) hk hP hD hS
  have run : va_Run (kp K) (kl K) (ke K) (kR K) (kS K) (km K) (ka K) (kb K) (kt K) (kc K) H lc (kC K) (kT K) 1 6 (F0 (km K) pc ls (.ref (al 12 0 1) :: .int x1 :: .ref (al 9 0 0) :: st)) st (llQ (kG K) al w H.size o wz ([Value.ref (al 9 0 0), .int x1, .ref (al 12 0 1)]).toArray) (va_A (wsW (kG K) al w) H.size) :=
    vx_runSW (Ts := big) (own := RL) (index := 222) (bytes := cL_led) (maxL := 4) (ret := some .int) (hh := [(0, 9, 12, 13)]) (n := 3) (As := [.ref (al 9 0 0), .int x1, .ref (al 12 0 1)]) (rest := st) ⟨hk.x, hk.b, hk.ml, hk.own, hk.ts⟩ (kL_led hst hN h12 h H.size)
      (vx_cwSW 3 hk.ts (big_in big_lled) rfl rfl rfl (by decide +kernel) ⟨by rw [hk.fr]; exact hf, by rw [hk.lo]; exact ho⟩)
      ⟨pu_blind, fun U hU hW => ⟨rfl, (hpr U hU hW).2, by rw [hU]; exact XP.call hW hS.2.1 hfr hXP⟩⟩ rfl rfl hl.1 rfl (lv_room hr) d ⟨hcs, hts⟩
  intro T hT X
  obtain ⟨v, st₀, t, T', L1, h0, X', hL, e1, e2, ⟨⟨r, w2, hv, hQ, hPt, hDt⟩, hz, hk9⟩, go⟩ := run T hT X
  cases hv
  rw [h0] at hz hk9
  have hS1 : va_S (kA K) (kS K).heap T'.heap (lc ++ L1) := ⟨Nat.le_trans hS.1 (by rw [e1]; exact hz), fun q q1 q2 => by
      rw [e1, hk9 q (Nat.lt_of_lt_of_le q1 hS.1) (fun z => q2 (hfr q z))]
      exact hS.2.1 q q1 q2, fun q hq => by
      rcases List.mem_append.mp hq with h1 | h1
      · exact hS.2.2 q h1
      · exact hfr _ (hL q h1)⟩
  obtain ⟨t2, a1, b1⟩ := kk r w2 hQ T'.heap (lc ++ L1) ls (by rw [e1]; exact hPt) (hDt.weaken (fun _ q _ hq => hfr q.1 hq)) hS1 hl T' rfl X'
  exact ⟨t2, go t2 a1, b1⟩
end L49
section L49B
variable {K : VC} {al : Al} {w : Wd} {b L i : Nat} {xs : Nat → Int32}
set_option maxRecDepth 100000 in
set_option maxHeartbeats 4000000 in
theorem lwc_49 {A : Ab} (hk : VH K RL cL_law 15 560) (hn : kn K = 7) (hst : (kl K).stackTraces = false) (hXP : XP (kA K) (kS K) (kS K).heap) (hN : NX (kG K)) (h12 : (12, 0, 1) ∈ keys (gN (kG K))) (hs : SC K b L xs) (hi : i + 6 ≤ L) (hL : L < 2 ^ 31) (hcs : kC K + 1 ≤ (kR K).cells) (hts : kT K + 6 ≤ (kR K).slots) (hA : AOK A) (hX : XRel w A) (hM : MRel (gN (kG K) 10) w A) (go : ∀ w2, XRel w2 A → MRel (gN (kG K) 10) w2 A → V (kU K (gN (kG K)) (kC K + 1) (kT K + 6)) al w2 1552 (Lw b al i) []) : V K al w 1458 (Lw b al i) [] := by
  obtain ⟨o, c1, c2⟩ := c_led (x := xs (i + 1)) hA
  refine r_aload_n 1459 hk dL_law_1458 rfl 1 rfl rfl ?_
  refine r_arg 1465 hk hs (k := 1) (by omega) hL dL_law_1459 dL_law_1460 dL_law_1462 rfl dL_law_1463 dL_law_1464 rfl ?_
  refine r_aload_n 1466 hk dL_law_1465 rfl 3 rfl rfl ?_
  refine r_lled 1469 hk hst hXP hN h12 (c1 w hX) hcs hts (by decide) (by decide) (Nat.le_of_ble_eq_true rfl) dL_law_1466 rfl (fun r w2 hq => ?_)
  have hk2 : VH (kU K (gN (kG K)) (kC K + 1) (kT K + 6)) RL cL_law 15 560 := hk.u hcs hts
  have hs2 : SC (kU K (gN (kG K)) (kC K + 1) (kT K + 6)) b L xs := hs
  have hn2 : kn (kU K (gN (kG K)) (kC K + 1) (kT K + 6)) = 7 := hn
  have hN2 : NX (kG (kU K (gN (kG K)) (kC K + 1) (kT K + 6))) := hN
  have h122 : (12, 0, 1) ∈ keys (gN (kG (kU K (gN (kG K)) (kC K + 1) (kT K + 6)))) := h12
  have hg : gN (kG (kU K (gN (kG K)) (kC K + 1) (kT K + 6))) 10 = gN (kG K) 10 := rfl
  generalize kU K (gN (kG K)) (kC K + 1) (kT K + 6) = K2 at *
  have hw2 : ∀ c j, c < 12 → w2 c j = w c j := fun c j hc => by
    rcases hq with ⟨v, -, -, e⟩ | ⟨-, -, e⟩
    · rw [e]
      unfold sJ
      rw [sO_ne (by omega)]
    · rw [e]
  have hM2 : MRel (gN (kG K) 10) w2 A := hM.fo hw2
  have hX2 : XRel w2 A := hX.fo (fun c j hc => hw2 c j (by omega))
  obtain ⟨w3, e3, m3, f3, g3⟩ := c2 (gN (kG K) 10) w2 hM2
  have hr : (w3 11 0).1 0 = r := by
    rw [g3]
    cases o with
    | none => rcases hq with ⟨v, e, -, -⟩ | ⟨-, e, -⟩ <;> first | (cases e; done) | (rw [e]; rfl)
    | some t => rcases hq with ⟨v, -, e, -⟩ | ⟨e, -, -⟩ <;> first | (cases e; done) | (rw [e]; rfl)
  have hv : r = 0 → (w3 12 0).2.2.2 0 = (lgT o).toInt64 := fun hr0 => by
    rw [f3 12 0 (by decide) (by decide)]
    cases o with
    | none => rcases hq with ⟨v, e, -, -⟩ | ⟨-, e, -⟩ <;> first | (cases e; done) | (rw [e] at hr0; exact absurd hr0 (by decide))
    | some t =>
      rcases hq with ⟨v, e, -, e2⟩ | ⟨e, -, -⟩
      · cases e
        rw [e2, sJ_a]
        rfl
      · cases e
  have fin : V K2 al w3 1552 (Lw b al i) [] := go w3 (hX2.fm f3) m3
  have fin2 : V K2 al w3 1511 [(6, .int (lgT o)), (5, .int r), (0, .ref b), (1, .ref (al 9 0 0)), (2, .ref (al 11 0 0)), (3, .ref (al 12 0 1)), (4, .int (nI i))] [] := by
    refine r_goto (x := 0) 1552 hk2 dL_law_1511 rfl ?_
    exact r_sub [2, 3, 4, 5, 6] rfl fin
  refine r_istore 1471 [(5, .int r), (0, .ref b), (1, .ref (al 9 0 0)), (2, .ref (al 11 0 0)), (3, .ref (al 12 0 1)), (4, .int (nI i))] hk2 dL_law_1469 rfl hn2 (by decide) rfl rfl ?_
  refine r_aload_n 1472 hk2 dL_law_1471 rfl 3 rfl rfl ?_
  refine r_aload_n 1473 hk2 dL_law_1472 rfl 1 rfl rfl ?_
  refine r_iload 1475 hk2 dL_law_1473 rfl 5 rfl ?_
  refine r_iconst 1476 hk2 dL_law_1475 rfl ci_1 ?_
  refine r_iadd 1477 hk2 dL_law_1476 rfl ?_
  refine r_sld 1478 hk2 hs2 (n := i + 1) (nI_add i 1) (by omega) hL dL_law_1477 rfl ?_
  refine r_cVi 1481 (As := [.int (xs (i + 1))]) (rest := []) hk2 (kX11_led hN2 (by rw [hg]; exact e3)) cf_RL_227 mi_X11_led ⟨TX11, 36, rfl⟩ dL_law_1478 rfl (Nat.le_of_ble_eq_true rfl) (Nat.le_of_ble_eq_true rfl) (mk_11_0 (nx_11 hN2 (j := 0) (by decide))) rfl rfl (Nat.le_of_ble_eq_true rfl) ?_
  refine r_istore 1483 [(6, .int (lgT o)), (5, .int r), (0, .ref b), (1, .ref (al 9 0 0)), (2, .ref (al 11 0 0)), (3, .ref (al 12 0 1)), (4, .int (nI i))] hk2 dL_law_1481 rfl hn2 (by decide) rfl rfl ?_
  refine r_aload_n 1484 hk2 dL_law_1483 rfl 4 rfl rfl ?_
  refine r_cVi 1487 (As := []) (rest := []) (x := (w3 11 0).1 0) (w2 := w3) hk2 (kX11_thrown hN2 rfl) cf_RL_228 mi_X11_thrown ⟨TX11, 36, rfl⟩ dL_law_1484 rfl (Nat.le_of_ble_eq_true rfl) (Nat.le_of_ble_eq_true rfl) (mk_11_0 (nx_11 hN2 (j := 0) (by decide))) rfl rfl (Nat.le_of_ble_eq_true rfl) ?_
  refine r_iload 1489 hk2 dL_law_1487 rfl 1 rfl ?_
  refine r_icmp_eq 1494 1492 hk2 dL_law_1489 rfl rfl (fun _ => ?_) (fun c => absurd hr c)
  refine r_iload 1496 hk2 dL_law_1494 rfl 1 rfl ?_
  refine r_if_ne 1511 1499 hk2 dL_law_1496 rfl rfl (fun _ => fin2) (fun c => ?_)
  refine r_aload_n 1500 hk2 dL_law_1499 rfl 5 rfl rfl ?_
  refine r_iconst 1501 hk2 dL_law_1500 rfl ci_0 ?_
  refine r_lald 1502 hk2 h122 dL_law_1501 rfl ?_
  refine r_iload 1504 hk2 dL_law_1502 rfl 0 rfl ?_
  refine r_i2l 1505 hk2 dL_law_1504 rfl ?_
  refine r_lcmp 1506 hk2 dL_law_1505 rfl ?_
  exact r_if_eq 1511 1509 hk2 dL_law_1506 rfl rfl (fun _ => fin2) (fun c2 => absurd ((lg_cmp_eq _ _).mpr (hv c)) c2)
end L49B
