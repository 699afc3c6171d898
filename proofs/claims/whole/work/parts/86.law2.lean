/-! ===== the law: both sides of a call ===== -/
section BOTH
variable {w w1 w2 : Wd} {nd : Nat} {A : Ab}
theorem MRel.fx (h : MRel nd w A) (f : FX w w1) : MRel nd w1 A := by
  have e : w1 11 0 = w 11 0 := f 11 0 (by decide)
  obtain ⟨h1, h2, h3, h4, h5, h6⟩ := h
  exact ⟨by rw [e]; exact h1, by rw [e]; exact h2, by rw [e]; exact h3, by rw [e]; exact h4, by rw [e]; exact h5, MD.cg h6 (fun j => f 10 j (by decide)) (by rw [e]) (fun k _ => by rw [e]) (fun k _ => by rw [e])⟩
theorem XRel.fo (h : XRel w A) (f : ∀ c j, c < 10 → w2 c j = w c j) : XRel w2 A := by
  obtain ⟨q, a1, a2, a3, a4, a5, a6, a7, a8, a9⟩ := h
  have e : w2 9 0 = w 9 0 := f 9 0 (by decide)
  exact ⟨q, a1, by rw [e]; exact a2, by rw [e]; exact a3, by rw [e]; exact a4, by rw [e]; exact a5, by rw [e]; exact a6, by rw [e]; exact a7, by rw [e]; exact a8, XD.cg a1 a9 (f 5 q (by decide)) (fun j => f 3 j (by decide)) (fun j _ => f 7 j (by decide)) (f 1 0 (by decide)) (f 2 0 (by decide)) (by rw [e])⟩
theorem XRel.fm (h : XRel w A) (f : FM w w2) : XRel w2 A := h.fo (fun c j hc => f c j (by omega) (by omega))
theorem cl_both {α : Type} {F : Wd → Option (α × Wd)} {H : Nat → Wd → Option (α × Wd)} (h : Cl F H) (hA : AOK A) (hX : XRel w A) (hM : MRel nd w A) : ∃ r w1 w2 A2, AOK A2 ∧ F w = some (r, w1) ∧ H nd w1 = some (r, w2) ∧ XRel w2 A2 ∧ MRel nd w2 A2 := by
  obtain ⟨r, A2, h1, h2, h3⟩ := h A hA
  obtain ⟨w1, a1, a2, a3⟩ := h2 w hX
  obtain ⟨w2, b1, b2, b3⟩ := h3 nd w1 (hM.fx a3)
  exact ⟨r, w1, w2, A2, h1, a1, b1, a2.fm b3, b2⟩
end BOTH
section LB
variable {K : VC} {al : Al} {w : Wd} {b L i : Nat} {xs : Nat → Int32}
/-- factor -/
theorem ne_b (x : Int32) : (if x = 0 then (0 : Int32) else 1) = if x = 0 then 0 else 1 := rfl
set_option maxRecDepth 100000 in
theorem lwc_28 {w1 w2 : Wd} {r : Int64} (hk : VH K RL cL_law 15 560) (hN : NX (kG K)) (hs : SC K b L xs) (hi : i + 6 ≤ L) (hL : L < 2 ^ 31) (h1 : fX9_factor w (if xs (i + 1) = 0 then 0 else 1) = some (r, w1)) (h2 : fX11_factor (gN (kG K) 10) w1 (if xs (i + 1) = 0 then 0 else 1) = some (r, w2)) (go : V K al w2 1552 (Lw b al i) []) : V K al w 976 (Lw b al i) [] := by
  have t2 : ∀ x : Int32, x = (if xs (i + 1) = 0 then 0 else 1) → V K al w1 1009 (Lw b al i) [.int x, .ref (al 11 0 0), .long r] := by
    intro x hx
    subst hx
    refine r_cVl 1012 (As := [.int (if xs (i + 1) = 0 then 0 else 1)]) (rest := [.long r]) hk (kX11_factor hN h2) cf_RL_139 mi_X11_factor ⟨TX11, 36, rfl⟩ dL_law_1009 rfl (Nat.le_of_ble_eq_true rfl) (Nat.le_of_ble_eq_true rfl) (mk_11_0 (nx_11 hN (j := 0) (by decide))) rfl rfl (Nat.le_of_ble_eq_true rfl) ?_
    refine r_lcmp 1013 hk dL_law_1012 rfl ?_
    exact r_if_eq 1552 1016 hk dL_law_1013 rfl rfl (fun _ => go) (fun c => absurd ((lg_cmp_eq _ _).mpr rfl) c)
  have t1 : ∀ x : Int32, x = (if xs (i + 1) = 0 then 0 else 1) → V K al w 991 (Lw b al i) [.int x, .ref (al 9 0 0)] := by
    intro x hx
    subst hx
    refine r_cVl 994 (As := [.int (if xs (i + 1) = 0 then 0 else 1)]) (rest := []) hk (kX9_factor hN h1) cf_RL_135 mi_X9_factor ⟨TX9, 16, rfl⟩ dL_law_991 rfl (Nat.le_of_ble_eq_true rfl) (Nat.le_of_ble_eq_true rfl) (mk_9_0 (nx_9 hN (j := 0) (by decide))) rfl rfl (Nat.le_of_ble_eq_true rfl) ?_
    refine r_aload_n 995 hk dL_law_994 rfl 2 rfl rfl ?_
    refine r_arg 1001 hk hs (k := 1) (by omega) hL dL_law_995 dL_law_996 dL_law_998 rfl dL_law_999 dL_law_1000 rfl ?_
    refine r_if_eq 1008 1004 hk dL_law_1001 rfl rfl (fun c => ?_) (fun c => ?_)
    · refine r_iconst 1009 hk dL_law_1008 rfl ci_0 ?_
      exact t2 0 (by rw [if_pos c])
    · refine r_iconst 1005 hk dL_law_1004 rfl ci_1 ?_
      refine r_goto (x := 0) 1009 hk dL_law_1005 rfl ?_
      exact t2 1 (by rw [if_neg c])
  refine r_aload_n 977 hk dL_law_976 rfl 1 rfl rfl ?_
  refine r_arg 983 hk hs (k := 1) (by omega) hL dL_law_977 dL_law_978 dL_law_980 rfl dL_law_981 dL_law_982 rfl ?_
  refine r_if_eq 990 986 hk dL_law_983 rfl rfl (fun c => ?_) (fun c => ?_)
  · refine r_iconst 991 hk dL_law_990 rfl ci_0 ?_
    exact t1 0 (by rw [if_pos c])
  · refine r_iconst 987 hk dL_law_986 rfl ci_1 ?_
    refine r_goto (x := 0) 991 hk dL_law_987 rfl ?_
    exact t1 1 (by rw [if_neg c])
set_option maxRecDepth 100000 in
/-- the reference's disk is called -/
theorem r_mdisk {cc : ByteArray} {own : String} {fr lo pc idx : Nat} {Lc : List (Nat × Value)} {st : List Value} (p : Nat) (hk : VH K own cc fr lo) (hN : NX (kG K)) {x1 : Int32} {Q : Int32 → (Nat → Nat) → Al → Wd → Prop} (hMs : ∀ sz, Met (kl K) yX11_disk (.code yX11_disk cX11_disk 2 (some .int) :: big) (rmG 11 252 10 172) (va_Pc [.ref (al 11 0 0), .int x1] (PU (kG K) al w sz)) (mdQ (kG K) al w sz Q) 10 172 (va_A (wsW (kG K) al w) sz)) (hcf : CF own idx yX11_disk cX11_disk 2 (some .int) 1) (hcs : kC K + 10 ≤ (kR K).cells) (hts : kT K + 172 ≤ (kR K).slots) (hf : 12 ≤ fr) (ho : 273 ≤ lo) (hr : (st.map fun v => v.category).sum ≤ 8) (d : decode cc pc = .ok (.invokevirtual idx, 3)) (e : p = pc + 3) (kk : ∀ (r : Int32) (n2 : Nat → Nat) (al2 : Al) (w2 : Wd), Q r n2 al2 w2 → V (kU K n2 (kC K + 10) (kT K + 172)) al2 w2 p Lc (.int r :: st)) : V K al w pc Lc (.int x1 :: .ref (al 11 0 0) :: st) := fun H lc ls hP hD hS hl => by
  subst e
  obtain ⟨⟨hcd, hin⟩, hd, hlk⟩ := hcf
  obtain ⟨q9, -, hq9⟩ := ws_mem (G := kG K) (al := al) (w := w) (mk_11_0 (nx_11 hN (j := 0) (by decide)))
  have hrecv := va_recv (fs := flds al (w 11 0) 11 0) hk.k hP (show vwCl[11]? = some (RX11, TX11, 36) from rfl) hq9
  have hG : GoodIn big (.code yX11_disk cX11_disk 2 (some .int) :: big) := big_in (big_cons hcd)
  have hroom : (rmG 11 252 10 172).frames + 1 ≤ (kR K).frames ∧ 8 + (2 + 11) + (rmG 11 252 10 172).locals ≤ (kR K).locals := ⟨by rw [hk.fr]; exact hf, by rw [hk.lo]; exact ho⟩
  have run : va_Run (kp K) (kl K) (ke K) (kR K) (kS K) (km K) (ka K) (kb K) (kt K) (kc K) H lc (kC K) (kT K) 10 172 (F0 (km K) pc ls (.int x1 :: .ref (al 11 0 0) :: st)) st (mdQ (kG K) al w H.size Q (Value.ref (al 11 0 0) :: [.int x1]).toArray) (va_A (wsW (kG K) al w) H.size) := by
    rcases hlk with hlk | ⟨host, hlk⟩
    · exact va_runV (Ts := big) (As := [.int x1]) (rest := st) ⟨hk.x, hk.b, hk.ml, hk.own, hk.ts⟩ (hMs H.size) ⟨callB_of 1 hk.ts hG rfl rfl rfl (hk.ts _ hin) (hk.ts _ hlk) hd hroom, hk.ts _ mi_X11_disk.1, hk.ts _ mi_X11_disk.2⟩ ⟨pu_b, hrecv, vc_pre hk hP hD hS⟩ rfl rfl hl.1 rfl (lv_room hr) d ⟨hcs, hts⟩
    · exact va_runVN (Ts := big) (As := [.int x1]) (rest := st) ⟨hk.x, hk.b, hk.ml, hk.own, hk.ts⟩ (hMs H.size) ⟨va_cnB 1 hk.ts hG rfl rfl rfl (hk.sk.2.2.2.2 _ hlk) (hk.ts _ hin) hd hroom, hk.ts _ mi_X11_disk.1, hk.ts _ mi_X11_disk.2⟩ ⟨pu_b, hrecv, vc_pre hk hP hD hS⟩ rfl rfl hl.1 rfl (lv_room hr) d ⟨hcs, hts⟩
  intro T hT X
  obtain ⟨v, st₀, t, T', L1, h0, X', hL, e1, e2, ⟨⟨r, n2, al2, w2, hv, hQ, hPt, hDt⟩, hz, hk9⟩, go⟩ := run T hT X
  cases hv
  rw [h0] at hz hk9
  have hF := vc_free hk hD hS
  have hS1 : va_S (kA K) (kS K).heap T'.heap (lc ++ L1) := ⟨Nat.le_trans hS.1 (by rw [e1]; exact hz), fun q q1 q2 => by
      rw [e1, hk9 q (Nat.lt_of_lt_of_le q1 hS.1) (fun z => q2 (hF q z))]
      exact hS.2.1 q q1 q2, fun q hq => by
      rcases List.mem_append.mp hq with h1 | h1
      · exact hS.2.2 q h1
      · exact hF _ (hL q h1)⟩
  obtain ⟨t2, a1, b1⟩ := kk r n2 al2 w2 hQ T'.heap (lc ++ L1) ls (by rw [e1]; exact hPt) (hDt.weaken (fun _ q _ hq => hF q.1 hq)) hS1 hl T' rfl X'
  exact ⟨t2, go t2 a1, b1⟩
/-- what disk leaves -/
def dkQ (G : Gx) (al : Al) (r : Int32) (A2 : Ab) (w1 : Wd) : Int32 → (Nat → Nat) → Al → Wd → Prop := fun r' n2 al2 w2 => r' = r ∧ ((n2 = gN G ∧ al2 = al) ∨ (n2 = nU (gN G) ∧ ∃ q b, al2 = alN al (gN G 10) q b)) ∧ MRel (n2 10) w2 A2 ∧ FM w1 w2
theorem lwc_1 {A : Ab} (hk : VH K RL cL_law 15 560) (hN : NX (kG K)) (hs : SC K b L xs) (hi : i + 6 ≤ L) (hL : L < 2 ^ 31) (hcs : kC K + 10 ≤ (kR K).cells) (hts : kT K + 172 ≤ (kR K).slots) (hA : AOK A) (hX : XRel w A) (hM : MRel (gN (kG K) 10) w A) (go : ∀ (n2 : Nat → Nat) (al2 : Al) (w2 : Wd) (A2 : Ab), AOK A2 → XRel w2 A2 → MRel (n2 10) w2 A2 → ((n2 = gN (kG K) ∧ al2 = al) ∨ (n2 = nU (gN (kG K)) ∧ ∃ q b, al2 = alN al (gN (kG K) 10) q b)) → V (kU K n2 (kC K + 10) (kT K + 172)) al2 w2 1552 (Lw b al i) []) : V K al w 337 (Lw b al i) [] := by
  obtain ⟨r, A2, c1, c2, c3, c4⟩ := c_disk (x := xs (i + 1)) hA
  obtain ⟨w1, x1, x2, x3⟩ := c2 w hX
  have hM1 := hM.fx x3
  have h6 : (w1 11 0).1 6 = nI A.2.2.2.1.1 := hM1.2.2.2.1
  have h3 : (w1 11 0).2.2.1 3 ≤ gN (kG K) 10 := by
    have hd := hM1.2.2.2.2.2
    cases e : A.2.2.2.2 with
    | none =>
      rw [e] at hd
      have hd : (w1 11 0).2.2.1 3 = 0 := hd
      omega
    | some v =>
      rw [e] at hd
      obtain ⟨D, T, s, h, im⟩ := v
      obtain ⟨d, g1, g2, -⟩ := hd
      omega
  refine r_aload_n 338 hk dL_law_337 rfl 1 rfl rfl ?_
  refine r_arg 344 hk hs (k := 1) (by omega) hL dL_law_338 dL_law_339 dL_law_341 rfl dL_law_342 dL_law_343 rfl ?_
  refine r_cVi 347 (As := [.int (xs (i + 1))]) (rest := []) hk (kX9_disk hN x1) cf_RL_24 mi_X9_disk ⟨TX9, 16, rfl⟩ dL_law_344 rfl (Nat.le_of_ble_eq_true rfl) (Nat.le_of_ble_eq_true rfl) (mk_9_0 (nx_9 hN (j := 0) (by decide))) rfl rfl (Nat.le_of_ble_eq_true rfl) ?_
  refine r_aload_n 348 hk dL_law_347 rfl 2 rfl rfl ?_
  refine r_arg 354 hk hs (k := 1) (by omega) hL dL_law_348 dL_law_349 dL_law_351 rfl dL_law_352 dL_law_353 rfl ?_
  refine r_mdisk (Q := dkQ (kG K) al r A2 w1) 357 hk hN (fun sz => kX11_disk hN h3 (fun hx => ?_) (fun hx => ?_) sz) cf_RL_27 hcs hts (by decide) (by decide) (Nat.le_of_ble_eq_true rfl) dL_law_354 rfl (fun r' n2 al2 w2 hq => ?_)
  · rw [h6] at hx
    obtain ⟨w2, a1, a2, a3⟩ := c3 hx (gN (kG K) 10) w1 hM1
    exact ⟨r, w2, a1, rfl, Or.inl ⟨rfl, rfl⟩, a2, a3⟩
  · rw [h6] at hx
    obtain ⟨w2, a1, a2, a3⟩ := c4 hx (gN (kG K) 10) w1 hM1
    have e10 : nU (gN (kG K)) 10 = gN (kG K) 10 + 1 := rfl
    exact ⟨r, w2, a1, fun q b => ⟨rfl, Or.inr ⟨rfl, q, b, rfl⟩, by rw [e10]; exact a2, a3⟩⟩
  · obtain ⟨hr, hn, hm, hf⟩ := hq
    subst hr
    have hk2 : VH (kU K n2 (kC K + 10) (kT K + 172)) RL cL_law 15 560 := hk.u hcs hts
    exact r_icmp_eq 1552 360 hk2 dL_law_357 rfl rfl (fun _ => go n2 al2 w2 A2 c1 (x2.fm hf) hm hn) (fun c => absurd rfl c)
end LB
