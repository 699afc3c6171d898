/-! ===== the law's own led ===== -/
section LL
variable {K : VC} {own : String} {cc : ByteArray} {fr lo : Nat} {al : Al} {w : Wd} {pc : Nat} {L : List (Nat × Value)} {st : List Value}
theorem acell_12 {G : Gx} {o : Ob} : acell G al o 12 0 0 = .inl (G.2.1 5, 1, .inr (.inl (fun _ => o.2.2.2 0))) := rfl
theorem r_last (p : Nat) (w2 : Wd) (h : VH K own cc fr lo) (hj : (12, 0, 1) ∈ keys (gN (kG K))) {v : Int64} (d : decode cc pc = .ok (.lastore, 1)) (e : p = pc + 1) (hw : w2 = sJ w 12 0 0 v) (kk : V K al w2 p L st) : V K al w pc L (.long v :: .int 0 :: .ref (al 12 0 1) :: st) := fun H lc ls hP hD hS hl => by
  subst e; subst hw
  obtain ⟨q, hq0, hq⟩ := ws_mem (G := kG K) (al := al) (w := w) hj
  have hlen : q < (wsW (kG K) al w).length := (List.getElem?_eq_some_iff.mp hq).1
  have hset := ws_set (G := kG K) (al := al) (w := w) (w' := sJ w 12 0 0 v) hD hq0 (cell_a (k0 := 0) (o := oJ (w 12 0) 0 v) rfl (fun k hk => by
    unfold acell
    have : aty 12 k = 0 := by
      unfold aty
      split <;> first | rfl | (exfalso; omega) | (rename_i h1 h2; omega) | (rename_i h1; cases h1; exact absurd rfl hk)
    rw [this]
    rfl))
  have hc : cellK (kG K) al (sJ w 12 0 0 v) (12, 0, 1) = (al 12 0 1, .inl ((kG K).2.1 5, 1, .inr (.inl (fun _ => v)))) := by
    unfold cellK cellE
    show (al 12 0 1, acell (kG K) al (sJ w 12 0 0 v 12 0) 12 0 0) = _
    rw [acell_12, sJ_a]
  rw [hc] at hset
  refine va_last (i := 0) (x := v) (cA := (kG K).2.1 5) (n := 1) (f := fun _ => (w 12 0).2.2.2 0) (a := al 12 0 1) h.x h.b h.k hP hD hS q 5 hq rfl (inb_in rfl) d (fun H1 lc1 hP1 hD1 hS1 => ?_)
  have hP2 := set_P (e2 := .inl ((kG K).2.1 5, 1, .inr (.inl (fun _ => v)))) hlen hP1 (fun y => by
    have y : H1[al 12 0 1]? = some (arrV ((kG K).2.1 5) 1 (fun j => .long (vp_updL (fun _ => (w 12 0).2.2.2 0) (Int32.toNatClampNeg 0) v j))) := y
    show H1[al 12 0 1]? = some (arrV ((kG K).2.1 5) 1 (fun j => .long v))
    rw [y]
    refine congrArg some (arrV_cg (fun j hj => ?_))
    have : j = 0 := by omega
    subst this
    rfl)
  have hD2 := set_D (e2 := .inl ((kG K).2.1 5, 1, .inr (.inl (fun _ => v)))) hlen hD1
  rw [hset] at hP2 hD2
  exact kk H1 lc1 ls hP2 hD2 hS1 hl
end LL
def llQ (G : Gx) (al : Al) (w : Wd) (sz : Nat) (o : Option Int32) (wz : Wd) : Array Value → State → Outcome → State → Prop := fun _ st oc t => (∃ (r : Int32) (w2 : Wd), oc = .returned (some (.int r)) ∧ ((∃ v, o = some v ∧ r = 0 ∧ w2 = sJ wz 12 0 0 v.toInt64) ∨ (o = none ∧ r = 1 ∧ w2 = wz)) ∧ va_P G.1 vwCl (wsW G al w2) t.heap ∧ va_D (va_A (wsW G al w) sz) (wsW G al w2)) ∧ va_F (va_A (wsW G al w) sz) st t
theorem wd_963 : Cond.classLink RL 13 nsN ∈ big := big_t 963 (by decide +kernel) rfl
set_option maxRecDepth 100000 in
set_option maxHeartbeats 4000000 in
theorem kL_led {l : Launch} {G : Gx} {al : Al} {w wz : Wd} {x1 : Int32} {o : Option Int32} (hl : l.stackTraces = false) (hN : NX G) (h12 : (12, 0, 1) ∈ keys (gN G)) (h : fX9_led w x1 = some (o, wz)) (sz : Nat) : Met l yL_led (.codeWith yL_led cL_led 4 (some .int) [(0, 9, 12, 13)] :: big) (rmG 7 104 1 6) (va_Pc [.ref (al 9 0 0), .int x1, .ref (al 12 0 1)] (fun U => PU G al w sz U ∧ XP (va_A (wsW G al w) sz) U U.heap)) (llQ G al w sz o wz) 1 6 (va_A (wsW G al w) sz) := by
  refine va_MetW (cc := cL_led) (maxL := 4) (ret := some .int) (hh := [(0, 9, 12, 13)]) (by decide) rfl ?_
  intro p e s m args below meth c s₁ B hml hv
  obtain ⟨hargs, ⟨hsz, hP, hK, hD0, hSK⟩, hXP⟩ := hv
  subst hsz
  have hts := atoms_spec (ws := .codeWith yL_led cL_led 4 (some .int) [(0, 9, 12, 13)] :: big) B.pre
  have htab := vx_table (x := yL_led) B (hts _ List.mem_cons_self)
  have hD := hD0.self (sz := s.heap.size)
  generalize hKe : (((p, l, e, rmG 7 104 1 6, s, m, args, below, meth, c), MQ below (llQ G al w s.heap.size o wz) args s 1 6 (va_A (wsW G al w) s.heap.size), va_A (wsW G al w) s.heap.size, 4, 0, 0, G) : VC) = K
  have hk : VH K RL cL_led 7 104 := by
    rw [← hKe]
    exact ⟨B.exec, B.bytes, hml, findClass_of_methodNamed B.named, fun q hq => hts q (List.mem_cons_of_mem _ hq), hK, fun q hq => Or.inr hq, B.notSynchronized, rfl, rfl, Nat.zero_le _, Nat.zero_le _, hSK⟩
  generalize hK2 : (((p, l, e, rmG 7 104 1 6, s, m, args, below, meth, c), MQ below (llQ G al w s.heap.size o wz) args s 1 6 (va_A (wsW G al w) s.heap.size), va_A (wsW G al w) s.heap.size, 4, 1, 6, G) : VC) = K2
  have hk2 : VH K2 RL cL_led 7 104 := by
    rw [← hK2]
    exact ⟨B.exec, B.bytes, hml, findClass_of_methodNamed B.named, fun q hq => hts q (List.mem_cons_of_mem _ hq), hK, fun q hq => Or.inr hq, B.notSynchronized, rfl, rfl, Nat.le_refl _, Nat.le_refl _, hSK⟩
  have hn : kn K2 = 4 := by rw [← hK2]
  have fin : ∀ (r : Int32) (w2 : Wd) (L : List (Nat × Value)) (q : Nat), ((∃ v, o = some v ∧ r = 0 ∧ w2 = sJ wz 12 0 0 v.toInt64) ∨ (o = none ∧ r = 1 ∧ w2 = wz)) → decode cL_led q = .ok (.ireturn, 1) → V K2 al w2 q L [.int r] := by
    intro r w2 L q hq hd H lc ls hP1 hD1 hS1 hl1
    rw [← hK2] at hP1 hD1 hS1 ⊢
    exact W.iret B.exec B.bytes B.returns (fun t ht _ => ⟨⟨r, w2, rfl, hq, by rw [ht]; exact hP1, hD1⟩, hS1.F ht⟩) hS1.2.2 hd B.notSynchronized
  have he := lv_entry [.ref (al 9 0 0), .int x1, .ref (al 12 0 1)] (n := 4) (Nat.le_of_ble_eq_true rfl)
  have body : V K al w 0 [(0, .ref (al 9 0 0)), (1, .int x1), (2, .ref (al 12 0 1))] [] := by
    refine r_aload_n 1 hk dL_led_0 rfl 2 rfl rfl ?_
    refine r_iconst 2 hk dL_led_1 rfl ci_0 ?_
    refine r_aload_n 3 hk dL_led_2 rfl 0 rfl rfl ?_
    refine r_iload_n 4 hk dL_led_3 rfl 1 rfl rfl ?_
    intro H lc ls hP1 hD1 hS1 hl1
    have hpr := vc_pre (as := [.ref (al 9 0 0), .int x1]) hk hP1 hD1 hS1
    have hfr := vc_free hk hD1 hS1
    rw [← hKe] at hP1 hD1 hS1 hl1 hpr hfr ⊢
    obtain ⟨⟨hcd, hin⟩, hd, hlk⟩ := cf_RL_7
    have hlk : Cond.methodLink RL 7 yX9_led ∈ big := big_t 964 (by decide +kernel) rfl
    have ht2 : ∀ q ∈ big, q.before args s = true := fun q hq => hts q (List.mem_cons_of_mem _ hq)
    have hG : GoodIn big (.code yX9_led cX9_led 4 (some .int) :: big) := big_in (big_cons hcd)
    obtain ⟨q9, -, hq9⟩ := ws_mem (G := G) (al := al) (w := w) (mk_9_0 (nx_9 hN (j := 0) (by decide)))
    have hrecv := va_recv (fs := flds al (w 9 0) 9 0) hK hP1 (show vwCl[9]? = some (RX9, TX9, 16) from rfl) hq9
    have run := vx_runV (p := p) (l := l) (e := e) (R := rmG 7 104 1 6) (s := s) (m := m) (args := args) (below := below) (meth := meth) (c := c) (H := H) (locs := lc) (Ts := big) (As := [.int x1]) (rest := [.int 0, .ref (al 12 0 1)]) (g := F0 m 4 ls [.int x1, .ref (al 9 0 0), .int 0, .ref (al 12 0 1)]) (cells := 0) (slots := 0) ⟨B.exec, B.bytes, hml, findClass_of_methodNamed B.named, ht2⟩ (kX9_led hl hN h H.size) ⟨callB_of 1 ht2 hG rfl rfl rfl (ht2 _ hin) (ht2 _ hlk) hd ⟨by decide, by decide⟩, ht2 _ mi_X9_led.1, ht2 _ mi_X9_led.2⟩ ⟨pu_blind, hrecv, fun U hU hW => ⟨rfl, (hpr U hU hW).2, by rw [hU]; exact XP.call hW hS1.2.1 hfr hXP⟩⟩ rfl rfl hl1.1 rfl (lv_room (Nat.le_of_ble_eq_true rfl)) dL_led_4 ⟨by decide, by decide⟩
    intro T hT X
    rcases run T hT X with ⟨v, st₀, t, T', L1, h0, X', hL, e1, e2, ⟨⟨r, ho, hv, hPt, hDt⟩, hz, hk9⟩, go⟩ | ⟨q, st₀, t, T', L1, E, ce, h0, X', hL, e1, e2, ⟨⟨ho, hE, hPt, hDt⟩, hz, hk9⟩, hce, hcv, hcl, go⟩
    · cases hv
      rw [h0] at hz hk9
      have hS2 : va_S (va_A (wsW G al w) s.heap.size) s.heap T'.heap (lc ++ L1) := ⟨Nat.le_trans hS1.1 (by rw [e1]; exact hz), fun q q1 q2 => by
          rw [e1, hk9 q (Nat.lt_of_lt_of_le q1 hS1.1) (fun z => q2 (hfr q z))]
          exact hS1.2.1 q q1 q2, fun q hq => by
          rcases List.mem_append.mp hq with h1 | h1
          · exact hS1.2.2 q h1
          · exact hfr _ (hL q h1)⟩
      have tail : V K2 al wz 7 [(0, .ref (al 9 0 0)), (1, .int x1), (2, .ref (al 12 0 1))] [.int r, .int 0, .ref (al 12 0 1)] := by
        refine r_i2l 8 hk2 dL_led_7 rfl ?_
        refine r_last 9 (sJ wz 12 0 0 r.toInt64) hk2 (by rw [← hK2]; exact h12) dL_led_8 rfl rfl ?_
        refine r_goto (x := 0) 15 hk2 dL_led_9 rfl ?_
        refine r_iconst 16 hk2 dL_led_15 rfl ci_0 ?_
        exact fin 0 _ _ 16 (Or.inl ⟨r, ho, rfl, rfl⟩) dL_led_16
      rw [← hK2] at tail
      obtain ⟨t2, a1, b1⟩ := tail T'.heap (lc ++ L1) ls (by rw [e1]; exact hPt) (hDt.weaken (fun _ q _ hq => hfr q.1 hq)) hS2 hl1 T' rfl X'
      exact ⟨t2, go t2 a1, b1⟩
    · rw [h0] at hz hk9
      subst hE
      have hS2 : va_S (va_A (wsW G al w) s.heap.size) s.heap T'.heap (lc ++ L1) := ⟨Nat.le_trans hS1.1 (by rw [e1]; exact hz), fun q q1 q2 => by
          rw [e1, hk9 q (Nat.lt_of_lt_of_le q1 hS1.1) (fun z => q2 (hfr q z))]
          exact hS1.2.1 q q1 q2, fun q hq => by
          rcases List.mem_append.mp hq with h1 | h1
          · exact hS1.2.2 q h1
          · exact hfr _ (hL q h1)⟩
      have tail : V K2 al wz 12 [(0, .ref (al 9 0 0)), (1, .int x1), (2, .ref (al 12 0 1))] [.ref q] := by
        refine r_astore_n 13 [(3, .ref q), (0, .ref (al 9 0 0)), (1, .int x1), (2, .ref (al 12 0 1))] hk2 dL_led_12 rfl rfl hn (by decide) rfl rfl ?_
        refine r_iconst 14 hk2 dL_led_13 rfl ci_1 ?_
        exact fin 1 _ _ 14 (Or.inr ⟨ho, rfl, rfl⟩) dL_led_14
      rw [← hK2] at tail
      have cat := tc_catch (p := p) (l := l) (e := e) (R := rmG 7 104 1 6) (s := s) (m := m) (args := args) (below := below) (meth := meth) (c := c) (H := T'.heap) (locs := lc ++ L1) (cells := 1) (slots := 6) (Q := MQ below (llQ G al w s.heap.size o wz) args s 1 6 (va_A (wsW G al w) s.heap.size)) (pc := 4) (ls := ls) (rest := [.int 0, .ref (al 12 0 1)]) (own := RL) (name := nsN) (E := nsN) (ce := ce) (q := q) (findClass_of_methodNamed B.named) ⟨0, 9, 12, 13⟩ [] (by rw [htab]; rfl) (by decide) (by decide) (ht2 _ wd_963) (cast_mv (Vm.Alike.refl s.vm) hXP.2.2.1) (by rw [e1]; exact hce) hcv hcl (tail T'.heap (lc ++ L1) ls (by rw [e1]; exact hPt) (hDt.weaken (fun _ q _ hq => hfr q.1 hq)) hS2 hl1)
      obtain ⟨t2, a1, b1⟩ := cat T' rfl X'
      exact ⟨t2, go.trans a1, b1⟩
  subst hargs
  rw [lg_entry_eq]
  have b2 := body
  rw [← hKe] at b2
  exact b2 s.heap [] _ hP hD va_S.rf he
