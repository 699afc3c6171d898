/-! ===== led: the class throws, the law catches ===== -/
def nsN : String := "java/util/NoSuchElementException"
def nsL : List String := ["java/lang/RuntimeException", "java/lang/Exception"]
def dcl : List MethodName := [⟨"java/lang/RuntimeException", "<init>", "()V"⟩, ⟨"java/lang/Exception", "<init>", "()V"⟩, ⟨"java/lang/Throwable", "<init>", "()V"⟩]
set_option maxRecDepth 100000 in
theorem at0_p : vx_at0 RX9 354 nsN nsL = ([19,990,999,1001,1004,1006,991,992,29,30,993,998,1002,1018,980,1019,982,1020,984,994,996,986,1008,1009,1010,1011,971,1011,1012,1013,1014,973,1014,1015,1016,991,975,1007,969,970,977,978,979,981,983,985,989,988,987] : List Nat).filterMap (fun i => tables_1[i]?) := by decide +kernel
set_option maxRecDepth 100000 in
theorem at0_a : (vx_at0 RX9 354 nsN nsL).all (fun w => goodWord w || (decide (w = Cond.castable nsN nsN) || decide (w ∈ dcl.map Cond.declares))) = true := by decide +kernel
set_option maxRecDepth 100000 in
theorem at0_g : (Cond.classLink RX9 352 nsN :: Cond.initialized nsN :: vx_at0 RX9 354 nsN nsL).all vx_ot = true := by decide +kernel
theorem at0_in : ∀ w ∈ vx_at0 RX9 354 nsN nsL, w ∈ big ∨ w = Cond.castable nsN nsN ∨ ∃ y ∈ dcl, w = Cond.declares y := fun w hw => by
  have h1 := List.all_eq_true.mp at0_a w hw
  rw [at0_p] at hw
  obtain ⟨i, -, hi⟩ := List.mem_filterMap.mp hw
  by_cases g : goodWord w = true
  · exact Or.inl (big_t i hi g)
  · have g0 : goodWord w = false := by
      cases y : goodWord w with
      | false => rfl
      | true => exact absurd y g
    rw [g0, Bool.false_or] at h1
    rcases (Bool.or_eq_true _ _).mp h1 with h2 | h2
    · exact Or.inr (Or.inl (of_decide_eq_true h2))
    · obtain ⟨y, h3, h4⟩ := List.mem_map.mp (of_decide_eq_true h2)
      exact Or.inr (Or.inr ⟨y, h3, h4.symm⟩)
theorem cast_mv {u U : State} {a b : String} {A A2 : Array Value} (hvm : u.vm.Alike U.vm) (h : (Cond.castable a b).before A u = true) : (Cond.castable a b).before A2 U = true := by
  simp only [Cond.before, Cond.holds, Cond.value] at h ⊢
  rw [hvm.findClass, hvm.findClass]
  cases h1 : u.vm.findClass a with
  | none => rw [h1] at h; exact h
  | some c1 =>
    cases h2 : u.vm.findClass b with
    | none => rw [h1, h2] at h; exact h
    | some c2 =>
      rw [h1, h2] at h
      simp only [hvm.assignable] at h ⊢
      exact h
theorem decl_mv {u U : State} {x : MethodName} {A A2 : Array Value} (hvm : u.vm.Alike U.vm) (h : (Cond.declares x).before A u = true) : (Cond.declares x).before A2 U = true := va_tabs rfl (rfl : (u.setVm U.vm).vm = U.vm) (by rw [Cond.declares_setVm hvm]; exact h)
def XY (U : State) : Prop := (Cond.castable nsN nsN).before #[] U = true ∧ ∀ y ∈ dcl, (Cond.declares y).before #[] U = true
theorem XY.mv {u U : State} (hvm : u.vm.Alike U.vm) (h : XY u) : XY U := ⟨cast_mv hvm h.1, fun y hy => decl_mv hvm (h.2 y hy)⟩
/-- what a throw stands on -/
def XP (A : Nat → Prop) (U : State) (H : Heap) : Prop := vx_Zq Bundle.tN "UNASSIGNED_STACK" Bundle.steD A U H ∧ vx_Zq Bundle.tN "SUPPRESSED_SENTINEL" Bundle.listD A U H ∧ XY U
theorem XP.same {A : Nat → Prop} {u U : State} {H : Heap} (hv : U.vm = u.vm) (h : XP A u H) : XP A U H := by
  have ha : u.vm.Alike U.vm := by rw [hv]; exact Vm.Alike.refl _
  exact ⟨h.1.moved ha, h.2.1.moved ha, h.2.2.mv ha⟩
theorem XP.call {A B : Nat → Prop} {s U : State} {H : Heap} (hW : s.WarmedH U.vm) (hq : ∀ a : Nat, a < s.heap.size → ¬ A a → H[a]? = s.heap[a]?) (hAB : ∀ q, B q → A q) (h : XP A s s.heap) : XP B U H :=
  ⟨((h.1.kept hq).moved hW.alike).narrow hAB, ((h.2.1.kept hq).moved hW.alike).narrow hAB, h.2.2.mv hW.alike⟩
/-- what holds at a method's beginning -/
def PU (G : Gx) (al : Al) (w : Wd) (sz : Nat) (U : State) : Prop := U.heap.size = sz ∧ va_P G.1 vwCl (wsW G al w) U.heap ∧ va_K G.1 vwCl (tysG G) U ∧ va_D (fun _ => True) (wsW G al w) ∧ SK G (va_A (wsW G al w) sz) U U.heap
theorem pu_blind {G : Gx} {al : Al} {w : Wd} {as : List Value} {sz : Nat} {A : Nat → Prop} : FrameBlind (va_Pc as (fun U => PU G al w sz U ∧ XP A U U.heap)) := fun a U g mk q => by
  obtain ⟨q0, ⟨q1, q2, q3, q4, q5⟩, q6⟩ := q
  exact ⟨q0, ⟨q1, q2, va_K.moved (u := U) (U := U.calling g mk a) (Vm.Alike.refl U.vm) q3, q4, SK.same (u := U) (U := U.calling g mk a) rfl q5⟩, XP.same (u := U) (U := U.calling g mk a) rfl q6⟩
/-- counted anew, objects added -/
def gU (G : Gx) (n : Nat → Nat) : Gx := (G.1, G.2.1, G.2.2.1, G.2.2.2.1, n)
def kU (K : VC) (n : Nat → Nat) (c t : Nat) : VC := (K.1, kQ K, kA K, kn K, c, t, gU (kG K) n)
theorem VH.u {K : VC} {own : String} {cc : ByteArray} {fr lo : Nat} (h : VH K own cc fr lo) {n : Nat → Nat} {c t : Nat} (hc : c ≤ (kR K).cells) (ht : t ≤ (kR K).slots) : VH (kU K n c t) own cc fr lo :=
  ⟨h.x, h.b, h.ml, h.own, h.ts, h.k, h.a, h.lk, h.fr, h.lo, hc, ht, h.sk⟩
section LD
variable {K : VC} {al : Al} {w : Wd}
theorem vc_mono {Q2 : State → Prop} {pc : Nat} {L : List (Nat × Value)} {st : List Value} (hQ : ∀ t, Q2 t → kQ K t) (h : V (K.1, Q2, kA K, kn K, kC K, kT K, kG K) al w pc L st) : V K al w pc L st := fun H lc ls hP hD hS hl T hT X => by
  obtain ⟨t, a, b⟩ := h H lc ls hP hD hS hl T hT X
  exact ⟨t, a, hQ t b⟩
theorem vc_more {pc c2 t2 : Nat} {L : List (Nat × Value)} {st : List Value} (h1 : kC K ≤ c2) (h2 : kT K ≤ t2) (h : V (K.1, kQ K, kA K, kn K, c2, t2, kG K) al w pc L st) : V K al w pc L st := fun H lc ls hP hD hS hl => W.widen (k := c2) (n := t2) h1 h2 (h H lc ls hP hD hS hl)
set_option maxRecDepth 100000 in
set_option maxHeartbeats 4000000 in
theorem sX9_led_4 {fr lo : Nat} {o : Option Int32} {wz : Wd} {x1 : Int32} (hk : VH K RX9 cX9_led fr lo) (hf : 2 ≤ fr) (ho : 43 ≤ lo) (hn : kn K = 4) (hN : NX (kG K)) (hr : ∀ (r : Int32) (L : List (Nat × Value)), o = some r → V K al wz 35 L [.int r]) (ht : o = none → ∀ L : List (Nat × Value), V K al wz 45 L []) : ∀ (n : Nat) (w : Wd) (x2 x3 : Int32), fX9_led_4 n w x1 x2 x3 = some (o, wz) → V K al w 4 [(0, .ref (al 9 0 0)), (1, .int x1), (2, .int x2), (3, .int x3)] [] := by
  intro n
  induction n with
  | zero => intro w x2 x3 h; cases h
  | succ n ih =>
    intro w x2 x3 h
    rw [fX9_led_4.eq_2] at h
    refine r_iload_n 5 hk dX9_led_4 rfl 3 rfl rfl ?_
    refine r_aload_n 6 hk dX9_led_5 rfl 0 rfl rfl ?_
    refine r_get 9 hk dX9_led_6 rfl ff_RX9_16 (mk_9_0 (nx_9 hN (j := 0) (by decide))) (gv_9_2 _ _ _) ?_
    obtain ⟨q1, eq1, lq1, h⟩ := ckp_e h
    refine r_pv1 eq1 ?_
    refine r_get 12 hk dX9_led_9 rfl ff_RX9_109 (mk_8_0 (nx_8 hN lq1)) (gv_8_0 _ _ _) ?_
    refine r_get 15 hk dX9_led_12 rfl ff_RX9_112 (mk_5_0 (nx_sh hN (nx_8 hN lq1))) (gv_5_4 _ _ _) ?_
    refine r_icmp_ge 45 18 hk dX9_led_15 rfl rfl (fun c2 => ?_) (fun c2 => ?_)
    · have h := if_t c2 h
      cases h
      exact ht rfl _
    · have h := if_f c2 h
      refine r_aload_n 19 hk dX9_led_18 rfl 0 rfl rfl ?_
      refine r_get 22 hk dX9_led_19 rfl ff_RX9_42 (mk_9_0 (nx_9 hN (j := 0) (by decide))) (gv_9_6 _ _ _) ?_
      refine r_iload_n 23 hk dX9_led_22 rfl 3 rfl rfl ?_
      obtain ⟨r3, w4, ew4, h⟩ := ob_e h
      refine r_cVi 26 (As := [.int x3]) (rest := []) hk (kX7_livePlaceOf hN (nx_7 hN (j := 0) (by decide)) ew4) cf_RX9_231 mi_X7_livePlaceOf ⟨TX7, 11, rfl⟩ dX9_led_23 rfl (by omega) (by omega) (mk_7_0 (nx_7 hN (j := 0) (by decide))) rfl rfl (Nat.le_of_ble_eq_true rfl) ?_
      refine r_if_ge 39 29 hk dX9_led_26 rfl rfl (fun c5 => ?_) (fun c5 => ?_)
      · have h := if_t c5 h
        obtain ⟨x6, ex6, h⟩ := lw_e h
        refine r_iinc 42 [(3, .int x6), (0, .ref (al 9 0 0)), (1, .int x1), (2, .int x2)] hk (j := 3) dX9_led_39 rfl hn (by decide) rfl ex6 rfl ?_
        refine r_goto (x := 0) 4 hk dX9_led_42 rfl ?_
        refine r_sub [1, 2, 3, 0] rfl ?_
        exact ih _ _ _ h
      · have h := if_f c5 h
        refine r_iload_n 30 hk dX9_led_29 rfl 2 rfl rfl ?_
        refine r_iload_n 31 hk dX9_led_30 rfl 1 rfl rfl ?_
        refine r_icmp_ne 36 34 hk dX9_led_31 rfl rfl (fun c7 => ?_) (fun c7 => ?_)
        · have h := if_f c7 h
          obtain ⟨x8, ex8, h⟩ := lw_e h
          obtain ⟨x9, ex9, h⟩ := lw_e h
          refine r_iinc 39 [(2, .int x8), (0, .ref (al 9 0 0)), (1, .int x1), (3, .int x3)] hk (j := 2) dX9_led_36 rfl hn (by decide) rfl ex8 rfl ?_
          refine r_iinc 42 [(3, .int x9), (2, .int x8), (0, .ref (al 9 0 0)), (1, .int x1)] hk (j := 3) dX9_led_39 rfl hn (by decide) rfl ex9 rfl ?_
          refine r_goto (x := 0) 4 hk dX9_led_42 rfl ?_
          refine r_sub [2, 3, 1, 0] rfl ?_
          exact ih _ _ _ h
        · have h := if_t c7 h
          cases h
          refine r_iload_n 35 hk dX9_led_34 rfl 3 rfl rfl ?_
          exact hr _ _ rfl
end LD
theorem wd_led : Cond.classLink RX9 352 nsN ∈ big ∧ Cond.initialized nsN ∈ big := ⟨big_t 968 (by decide +kernel) rfl, big_t 22 (by decide +kernel) rfl⟩
/-- what led leaves: a track, or nothing -/
def ldQ (G : Gx) (al : Al) (w : Wd) (sz : Nat) (o : Option Int32) (wz : Wd) : Array Value → State → Outcome → State → Prop := fun _ st oc t => (∃ r, o = some r ∧ oc = .returned (some (.int r)) ∧ va_P G.1 vwCl (wsW G al wz) t.heap ∧ va_D (va_A (wsW G al w) sz) (wsW G al wz)) ∧ va_F (va_A (wsW G al w) sz) st t
def ldX (G : Gx) (al : Al) (w : Wd) (sz : Nat) (o : Option Int32) (wz : Wd) : String → State → State → Prop := fun E st t => (o = none ∧ E = nsN ∧ va_P G.1 vwCl (wsW G al wz) t.heap ∧ va_D (va_A (wsW G al w) sz) (wsW G al wz)) ∧ va_F (va_A (wsW G al w) sz) st t
set_option maxRecDepth 100000 in
set_option maxHeartbeats 4000000 in
theorem kX9_led {l : Launch} {G : Gx} {al : Al} {w wz : Wd} {x1 : Int32} {o : Option Int32} (hl : l.stackTraces = false) (hN : NX G) (h : fX9_led w x1 = some (o, wz)) (sz : Nat) : vx_Met l yX9_led (.code yX9_led cX9_led 4 (some .int) :: big) (rmG 6 81 1 6) (va_Pc [.ref (al 9 0 0), .int x1] (fun U => PU G al w sz U ∧ XP (va_A (wsW G al w) sz) U U.heap)) (ldQ G al w sz o wz) (ldX G al w sz o wz) 1 6 (va_A (wsW G al w) sz) := by
  refine vx_ofW (cc := cX9_led) (maxL := 4) (ret := some .int) (by decide) rfl ?_
  intro p e s m args below meth c s₁ B hml htab hv
  obtain ⟨hargs, ⟨hsz, hP, hK, hD0, hSK⟩, hXP⟩ := hv
  subst hsz
  have hts := atoms_spec (ws := .code yX9_led cX9_led 4 (some .int) :: big) B.pre
  have hD := hD0.self (sz := s.heap.size)
  generalize hKe : (((p, l, e, rmG 6 81 1 6, s, m, args, below, meth, c), vx_MQ below (ldQ G al w s.heap.size o wz) (ldX G al w s.heap.size o wz) args s 1 6 (va_A (wsW G al w) s.heap.size), va_A (wsW G al w) s.heap.size, 4, 0, 0, G) : VC) = K
  have hk : VH K RX9 cX9_led 6 81 := by
    rw [← hKe]
    exact ⟨B.exec, B.bytes, hml, findClass_of_methodNamed B.named, fun q hq => hts q (List.mem_cons_of_mem _ hq), hK, fun q hq => Or.inr hq, B.notSynchronized, rfl, rfl, Nat.zero_le _, Nat.zero_le _, hSK⟩
  have hn : kn K = 4 := by rw [← hKe]
  have hN2 : NX (kG K) := by rw [← hKe]; exact hN
  have hr : ∀ (r : Int32) (L : List (Nat × Value)), o = some r → V K al wz 35 L [.int r] := by
    intro r L e9 H lc ls hP1 hD1 hS1 hl1
    rw [← hKe] at hP1 hD1 hS1 ⊢
    refine W.widen (k := 1) (n := 6) (Nat.zero_le _) (Nat.zero_le _) (vx_ret ?_)
    exact W.iret B.exec B.bytes B.returns (fun t ht _ => ⟨⟨r, e9, rfl, by rw [ht]; exact hP1, hD1⟩, hS1.F ht⟩) hS1.2.2 dX9_led_35 B.notSynchronized
  have ht : o = none → ∀ L : List (Nat × Value), V K al wz 45 L [] := by
    intro e9 L H lc ls hP1 hD1 hS1 hl1
    rw [← hKe] at hP1 hD1 hS1 hl1 ⊢
    refine vx_throw0 (cls := nsN) (names := nsL) (ik := 352) (ic := 354) (own := RX9) B.exec B.bytes hl (findClass_of_methodNamed B.named) (by decide) (by decide) (hts _ (List.mem_cons_of_mem _ wd_led.1)) (hts _ (List.mem_cons_of_mem _ wd_led.2)) (fun w9 hw9 => ?_) (fun w9 hw9 => List.all_eq_true.mp at0_g w9 hw9) hXP.1 hXP.2.1 hS1 (by rw [hml]; exact hl1.1) dX9_led_45 dX9_led_48 dX9_led_49 dX9_led_52 (fun x hx => (htab x hx).elim) (show 2 + 3 < 6 by decide) (show 0 + (13 * (2 + 1) + 42) ≤ 81 by decide) (show 0 + 1 ≤ 1 by decide) (show 0 + 6 ≤ 6 by decide) B.notSynchronized (fun t _ h1 h2 => ?_) hS1.2.2 (Nat.le_refl _) (Nat.le_refl _)
    · rcases at0_in w9 hw9 with y | y | ⟨y, y1, y2⟩
      · exact hts _ (List.mem_cons_of_mem _ y)
      · rw [y]
        exact cast_mv (Vm.Alike.refl s.vm) hXP.2.2.1
      · rw [y2]
        exact decl_mv (Vm.Alike.refl s.vm) (hXP.2.2.2 y y1)
    · exact ⟨⟨e9, rfl, hP1.kept (fun k q hq => h2 q.1 (hP1 k q hq).lt), hD1⟩, Nat.le_trans hS1.1 h1, fun q h3 h4 => (h2 q (Nat.lt_of_lt_of_le h3 hS1.1)).trans (hS1.2.1 q h3 h4)⟩
  have he := lv_entry [.ref (al 9 0 0), .int x1] (n := 4) (Nat.le_of_ble_eq_true rfl)
  have body : V K al w 0 [(0, .ref (al 9 0 0)), (1, .int x1)] [] := by
    refine r_iconst 1 hk dX9_led_0 rfl ci_0 ?_
    refine r_istore_n 2 [(2, .int 0), (0, .ref (al 9 0 0)), (1, .int x1)] hk dX9_led_1 rfl rfl hn (by decide) rfl rfl ?_
    refine r_iconst 3 hk dX9_led_2 rfl ci_0 ?_
    refine r_istore_n 4 [(3, .int 0), (2, .int 0), (0, .ref (al 9 0 0)), (1, .int x1)] hk dX9_led_3 rfl rfl hn (by decide) rfl rfl ?_
    refine r_sub [2, 3, 1, 0] rfl ?_
    exact sX9_led_4 hk (by decide) (by decide) hn hN2 hr ht _ _ _ _ h
  subst hargs
  rw [lg_entry_eq]
  have b2 := body
  rw [← hKe] at b2
  exact b2 s.heap [] _ hP hD va_S.rf he
