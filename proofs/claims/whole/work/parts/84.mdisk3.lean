/-! ===== the reference's disk, the whole of it ===== -/
def mdQ (G : Gx) (al : Al) (w : Wd) (sz : Nat) (Q : Int32 → (Nat → Nat) → Al → Wd → Prop) : Array Value → State → Outcome → State → Prop := fun _ st oc t => (∃ (r : Int32) (n2 : Nat → Nat) (al2 : Al) (w2 : Wd), oc = .returned (some (.int r)) ∧ Q r n2 al2 w2 ∧ va_P G.1 vwCl (wsW (gU G n2) al2 w2) t.heap ∧ va_D (va_A (wsW G al w) sz) (wsW (gU G n2) al2 w2)) ∧ va_F (va_A (wsW G al w) sz) st t
theorem pu_b {G : Gx} {al : Al} {w : Wd} {as : List Value} {sz : Nat} : FrameBlind (va_Pc as (PU G al w sz)) := vc_blind
theorem NX_u {G : Gx} (h : NX G) : NX (gU G (nU (gN G))) := h
set_option maxRecDepth 100000 in
set_option maxHeartbeats 4000000 in
theorem kX11_disk {l : Launch} {G : Gx} {al : Al} {w : Wd} {x1 : Int32} (hN : NX G) (h3 : (w 11 0).2.2.1 3 ≤ gN G 10) {Q : Int32 → (Nat → Nat) → Al → Wd → Prop}
    (hrf : (x1 < 0 ∨ ¬ x1 ≤ (w 11 0).1 6) → ∃ r w2, fX11_refused (gN G 10) (sI w 11 0 0 0) 2 = some (r, w2) ∧ Q r (gN G) al w2)
    (hok : ¬ (x1 < 0 ∨ ¬ x1 ≤ (w 11 0).1 6) → ∃ r w2, fX11_disk_54 (gN G 10 + 1) (dN (gN G 10) (dW w x1)) = some (r, w2) ∧ ∀ (q : Nat) (b : Nat → Nat), Q r (nU (gN G)) (alN al (gN G 10) q b) w2) (sz : Nat) :
    Met l yX11_disk (.code yX11_disk cX11_disk 2 (some .int) :: big) (rmG 11 252 10 172) (va_Pc [.ref (al 11 0 0), .int x1] (PU G al w sz)) (mdQ G al w sz Q) 10 172 (va_A (wsW G al w) sz) := by
  refine Met.ofW (cc := cX11_disk) (maxL := 2) (ret := some .int) (by decide) rfl ?_
  intro p e s m args below meth c s₁ B hml hv
  obtain ⟨hargs, hsz, hP, hK, hD0, hSK⟩ := hv
  subst hsz
  have hts := atoms_spec (ws := .code yX11_disk cX11_disk 2 (some .int) :: big) B.pre
  have ht2 : ∀ q ∈ big, q.before args s = true := fun q hq => hts q (List.mem_cons_of_mem _ hq)
  have hD := hD0.self (sz := s.heap.size)
  have h11 : gN G 11 = 1 := hN.2.2.2.2.2.2.2.2.2.2
  generalize hKe : (((p, l, e, rmG 11 252 10 172, s, m, args, below, meth, c), MQ below (mdQ G al w s.heap.size Q) args s 10 172 (va_A (wsW G al w) s.heap.size), va_A (wsW G al w) s.heap.size, 2, 0, 0, G) : VC) = K
  have hk : VH K RX11 cX11_disk 11 252 := by
    rw [← hKe]
    exact ⟨B.exec, B.bytes, hml, findClass_of_methodNamed B.named, ht2, hK, fun q hq => Or.inr hq, B.notSynchronized, rfl, rfl, Nat.zero_le _, Nat.zero_le _, hSK⟩
  have hk2 : NH K RX11 cX11_disk 11 252 10 172 false := by
    rw [← hKe]
    exact ⟨B.exec, B.bytes, hml, findClass_of_methodNamed B.named, ht2, hK, fun q hq => Or.inr hq, B.notSynchronized, rfl, rfl, rfl, rfl, hSK.2.2.2.2, fun z => by cases z⟩
  have hn : kn K = 2 := by rw [← hKe]
  have hG : kG K = G := by rw [← hKe]
  have hN2 : NX (kG K) := by rw [hG]; exact hN
  have m11 : (11, 0, 0) ∈ keys (gN (kG K)) := mk_11_0 (nx_11 hN2 (j := 0) (by decide))
  have e6 : (sI w 11 0 0 0 11 0).1 6 = (w 11 0).1 6 := sI_n (by decide)
  have ref : (x1 < 0 ∨ ¬ x1 ≤ (w 11 0).1 6) → V K al (sI w 11 0 0 0) 17 [(0, .ref (al 11 0 0)), (1, .int x1)] [] := by
    intro hx
    obtain ⟨r, w2, hr1, hr2⟩ := hrf hx
    refine r_aload_n 18 hk dX11_disk_17 rfl 0 rfl rfl ?_
    refine r_iconst 19 hk dX11_disk_18 rfl ci_2 ?_
    refine r_cVi 22 (As := [.int 2]) (rest := []) (x := r) (w2 := w2) hk (kX11_refused hN2 (by rw [hG]; exact hr1)) cf_RX11_51 mi_X11_refused ⟨TX11, 36, rfl⟩ dX11_disk_19 rfl (Nat.le_of_ble_eq_true rfl) (Nat.le_of_ble_eq_true rfl) m11 rfl rfl (Nat.le_of_ble_eq_true rfl) ?_
    intro H lc ls hP1 hD1 hS1 hl1
    rw [← hKe] at hP1 hD1 hS1 ⊢
    refine W.widen (k := 10) (n := 172) (Nat.zero_le _) (Nat.zero_le _) ?_
    exact W.iret B.exec B.bytes B.returns (fun t ht _ => ⟨⟨r, gN G, al, w2, rfl, hr2, by rw [ht]; exact hP1, hD1⟩, hS1.F ht⟩) hS1.2.2 dX11_disk_22 B.notSynchronized
  have he := lv_entry [.ref (al 11 0 0), .int x1] (n := 2) (Nat.le_of_ble_eq_true rfl)
  have body : V K al w 0 [(0, .ref (al 11 0 0)), (1, .int x1)] [] := by
    refine r_aload_n 1 hk dX11_disk_0 rfl 0 rfl rfl ?_
    refine r_iconst 2 hk dX11_disk_1 rfl ci_0 ?_
    refine r_putI 5 (sI w 11 0 0 0) hk dX11_disk_2 rfl ff_RX11_45 fi_11_0 m11 rfl ?_
    refine r_iload_n 6 hk dX11_disk_5 rfl 1 rfl rfl ?_
    refine r_if_lt 17 9 hk dX11_disk_6 rfl rfl (fun c1 => ref (Or.inl c1)) (fun c1 => ?_)
    refine r_iload_n 10 hk dX11_disk_9 rfl 1 rfl rfl ?_
    refine r_aload_n 11 hk dX11_disk_10 rfl 0 rfl rfl ?_
    refine r_get 14 hk dX11_disk_11 rfl ff_RX11_253 m11 (gv_11_6 _ _ _) ?_
    rw [e6]
    refine r_icmp_le 23 17 hk dX11_disk_14 rfl rfl (fun c2 => ?_) (fun c2 => ref (Or.inr c2))
    have hno : ¬ (x1 < 0 ∨ ¬ x1 ≤ (w 11 0).1 6) := fun z => z.elim c1 (fun y => y c2)
    obtain ⟨r, wz, hr1, hr2⟩ := hok hno
    refine r_aload_n 24 hk dX11_disk_23 rfl 0 rfl rfl ?_
    refine r_iload_n 25 hk dX11_disk_24 rfl 1 rfl rfl ?_
    refine r_putI 28 (sI (sI w 11 0 0 0) 11 0 7 x1) hk dX11_disk_25 rfl ff_RX11_62 fi_11_7 m11 rfl ?_
    refine r_aload_n 29 hk dX11_disk_28 rfl 0 rfl rfl ?_
    refine r_iconst 30 hk dX11_disk_29 rfl ci_0 ?_
    refine r_putI 33 (sI (sI (sI w 11 0 0 0) 11 0 7 x1) 11 0 6 0) hk dX11_disk_30 rfl ff_RX11_253 fi_11_6 m11 rfl ?_
    refine r_aload_n 34 hk dX11_disk_33 rfl 0 rfl rfl ?_
    refine r_iconst 35 hk dX11_disk_34 rfl ci_0 ?_
    refine r_putI 38 (sI (sI (sI (sI w 11 0 0 0) 11 0 7 x1) 11 0 6 0) 11 0 8 0) hk dX11_disk_35 rfl ff_RX11_80 fi_11_8 m11 rfl ?_
    refine r_aload_n 39 hk dX11_disk_38 rfl 0 rfl rfl ?_
    refine r_iconst 40 hk dX11_disk_39 rfl ci_0 ?_
    refine r_putI 43 (dW w x1) hk dX11_disk_40 rfl ff_RX11_103 fi_11_12 m11 rfl ?_
    refine r_aload_n 44 hk dX11_disk_43 rfl 0 rfl rfl ?_
    have h3' : (dW w x1 11 0).2.2.1 3 ≤ gN G 10 := by
      unfold dW
      rw [sI_2, sI_2, sI_2, sI_2, sI_2]
      exact h3
    generalize dW w x1 = w1 at *
    have hkC : kC K = 0 ∧ kT K = 0 := by rw [← hKe]; exact ⟨rfl, rfl⟩
    have goal : VN K (wsW (kG K) al w1) 0 0 44 [(0, .ref (al 11 0 0)), (1, .int x1)] [.ref (al 11 0 0)] := by
      refine n_new 47 hk2 tyX10 (ci := 10) rfl cu_10 tyX10_ok (big_t 1160 (by decide +kernel) rfl) (big_t 1161 (by decide +kernel) rfl) (big_t 17 (by decide +kernel) rfl) df_10 (by omega) (by omega) dX11_disk_44 rfl (fun q => ?_)
      refine n_dup 48 hk2 dX11_disk_47 rfl ?_
      refine n_call 51 hk2 (fun h => h) (As := []) (rest := [.ref q, .ref (al 11 0 0)]) nX10_init cf_RX11_256 (big_t 1163 (by decide +kernel) rfl) rfl dX11_disk_48 rfl (by omega) (by omega) (by omega) (by omega) rfl rfl (Nat.le_of_ble_eq_true rfl) (fun P hPP => ?_)
      obtain ⟨b, rfl⟩ := hPP
      intro H lc ls hP1 hD1 hS1 hl1
      obtain ⟨p11, hp1, hp2⟩ := ws_mem (G := kG K) (al := al) (w := w1) m11
      have hpl : p11 < (wsW (kG K) al w1).length := (List.getElem?_eq_some_iff.mp hp2).1
      refine va_put (C := RX11) (T := TX11) (N := 36) (ci := 11) (fs := flds al (w1 11 0) 11 0) (index := 139) (own := RX11) hk2.x hk2.b hk2.ts cu_11 tyX11 tyX11_ok nmX11 hk2.own hk2.k hP1 hD1 hS1 p11 (by rw [List.getElem?_append_left hpl]; exact hp2) rfl 4 (by decide) (hk2.ts _ (big_t 1039 (by decide +kernel) rfl)) (fun _ z => z) rfl (tyX11_ok 4 (by decide)) rfl rfl (by show 4 < 36; decide) dX11_disk_51 (fun H1 lc1 hP2 hD2 hS2 => ?_)
      rw [hG] at hP2 hD2 hp1
      have cn := cells_nd (G := G) (al := al) (w := w1) (q := q) (b := b) h3' h11 hp1
      have hP3 := ri_P hP2 cn
      have hD3 := ri_D hD2 cn fK_inj (keys_nd _)
      have ea : alN al (gN G 10) q b 11 0 0 = al 11 0 0 := alN_ne (Or.inl (by decide))
      have tail := sX11_disk_54 (K := ((p, l, e, rmG 11 252 10 172, s, m, args, below, meth, c), MQ below (fun _ st oc t => (oc = .returned (some (.int r)) ∧ va_P G.1 vwCl (wsW (gU G (nU (gN G))) (alN al (gN G 10) q b) wz) t.heap ∧ va_D (va_A (wsW G al w) s.heap.size) (wsW (gU G (nU (gN G))) (alN al (gN G 10) q b) wz)) ∧ va_F (va_A (wsW G al w) s.heap.size) st t) args s 10 172 (va_A (wsW G al w) s.heap.size), va_A (wsW G al w) s.heap.size, 2, 10, 172, gU G (nU (gN G)))) (al := alN al (gN G 10) q b) (r := r) (wz := wz)
        ⟨B.exec, B.bytes, hml, findClass_of_methodNamed B.named, ht2, hK, fun q hq => Or.inr hq, B.notSynchronized, rfl, rfl, Nat.le_refl _, Nat.le_refl _, hSK⟩ ⟨B.returns, rfl⟩ rfl (NX_u hN) (dN (gN G 10) w1) hr1
      rw [ea] at tail
      rw [← hKe] at hS2 hl1 hD3 ⊢
      intro T hT X
      obtain ⟨t, a1, o, b1, b2, b3, b4⟩ := tail H1 lc1 ls hP3 hD3 hS2 (lv_sub hl1 [0] rfl) T hT X
      exact ⟨t, a1, o, b1, b2, ⟨⟨r, nU (gN G), alN al (gN G 10) q b, wz, b3.1.1, hr2 q b, b3.1.2.1, b3.1.2.2⟩, b3.2⟩, b4⟩
    intro H lc ls hP1 hD1 hS1 hl1
    have g2 := goal H lc ls hP1 hD1 hS1 hl1
    rw [← hKe] at g2 ⊢
    exact g2
  subst hargs
  rw [lg_entry_eq]
  have b2 := body
  rw [← hKe] at b2
  exact b2 s.heap [] _ hP hD va_S.rf he
