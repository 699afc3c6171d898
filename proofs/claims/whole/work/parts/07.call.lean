/-! ===== contracts and calls ===== -/
abbrev rmC (fr lo : Nat) : Room := { frames := fr, cells := 0, slots := 0, locals := lo }
/-- from every heap that holds w the method y with these arguments returns r, and the heap holds w2 -/
def MC (l : Launch) (G : Gx) (y : MethodName) (cc : ByteArray) (nl : Nat) (ret : Option FieldType) (fr lo : Nat) (al : Al) (w : Wd) (as : List Value) (r : Option Value) (w2 : Wd) : Prop :=
  ∀ sz : Nat, Met l y (.code y cc nl ret :: big) (rmC fr lo)
    (va_Pc as (fun U => U.heap.size = sz ∧ va_P G.1 vwCl (wsW G al w) U.heap ∧ va_K G.1 vwCl (tysG G) U ∧ va_D (fun _ => True) (wsW G al w) ∧ SK G (va_A (wsW G al w) sz) U U.heap))
    (fun _ st oc t => (oc = .returned r ∧ va_P G.1 vwCl (wsW G al w2) t.heap ∧ va_D (va_A (wsW G al w) sz) (wsW G al w2)) ∧ va_F (va_A (wsW G al w) sz) st t)
    0 0 (va_A (wsW G al w) sz)
/-- what the end of a walk must show -/
def VR (K : VC) (al : Al) (ret : Option FieldType) (r : Option Value) (w2 : Wd) : Prop :=
  (kt K).sig.returnType = ret ∧ kQ K = MQ (kb K) (fun _ st oc t => (oc = .returned r ∧ va_P (kG K).1 vwCl (wsW (kG K) al w2) t.heap ∧ va_D (kA K) (wsW (kG K) al w2)) ∧ va_F (kA K) st t) (ka K) (kS K) (kC K) (kT K) (kA K)
theorem mc_of {l : Launch} {G : Gx} {y : MethodName} {cc : ByteArray} {nl : Nat} {ret : Option FieldType} {fr lo : Nat} {al : Al} {w : Wd} {as : List Value} {r : Option Value} {w2 : Wd} (L0 : List (Nat × Value)) (hy : plainName y.cls = true) (hlen : (lg_sl as).length ≤ nl) (hL : lv_args 0 as = L0)
    (body : ∀ K : VC, VH K y.cls cc fr lo → VR K al ret r w2 → kn K = nl → kl K = l → kG K = G → V K al w 0 L0 []) : MC l G y cc nl ret fr lo al w as r w2 := by
  intro sz
  refine Met.ofW (cc := cc) (maxL := nl) (ret := ret) hy rfl ?_
  intro p e s m args below meth c s₁ B hml hv
  obtain ⟨hargs, hsz, hP, hK, hD0, hSK⟩ := hv
  subst hsz
  have hts := atoms_spec (ws := .code y cc nl ret :: big) B.pre
  have hD := hD0.self (sz := s.heap.size)
  have hb := body ((p, l, e, rmC fr lo, s, m, args, below, meth, c), MQ below (fun _ st oc t => (oc = .returned r ∧ va_P G.1 vwCl (wsW G al w2) t.heap ∧ va_D (va_A (wsW G al w) s.heap.size) (wsW G al w2)) ∧ va_F (va_A (wsW G al w) s.heap.size) st t) args s 0 0 (va_A (wsW G al w) s.heap.size), va_A (wsW G al w) s.heap.size, nl, 0, 0, G)
    ⟨B.exec, B.bytes, hml, findClass_of_methodNamed B.named, fun q hq => hts q (List.mem_cons_of_mem _ hq), hK, fun q hq => Or.inr hq, B.notSynchronized, rfl, rfl, Nat.le_refl _, Nat.le_refl _, hSK⟩
    ⟨B.returns, rfl⟩ rfl rfl rfl
  have he := lv_entry as (n := nl) hlen
  rw [hL] at he
  subst hargs
  rw [lg_entry_eq]
  exact hb s.heap [] _ hP hD va_S.rf he
section RC
variable {K : VC} {own : String} {cc : ByteArray} {fr lo : Nat} {al : Al} {w : Wd} {pc : Nat} {L : List (Nat × Value)} {st : List Value}
theorem vr_end {ret : Option FieldType} {r : Option Value} {H : Heap} {lc : List Loc} (hR : VR K al ret r w) (hP : va_P (kG K).1 vwCl (wsW (kG K) al w) H) (hD : va_D (kA K) (wsW (kG K) al w)) (hS : va_S (kA K) (kS K).heap H lc) : ∀ t : State, t.heap = H → (kS K).WarmedH t.vm → ((Outcome.returned r = .returned r ∧ va_P (kG K).1 vwCl (wsW (kG K) al w) t.heap ∧ va_D (kA K) (wsW (kG K) al w)) ∧ va_F (kA K) (kS K) t) :=
  fun t ht _ => ⟨⟨rfl, by rw [ht]; exact hP, hD⟩, hS.F ht⟩
theorem r_iret (h : VH K own cc fr lo) {r : Int32} {w2 : Wd} {v : Int32} (hR : VR K al (some .int) (some (.int r)) w2) (d : decode cc pc = .ok (.ireturn, 1)) (hv : some (v, w) = some (r, w2)) : V K al w pc L [.int v] := fun H lc ls hP hD hS hl => by
  cases hv
  show W _ _ _ _ _ _ _ _ _ _ _ _ _ _ (kQ K) _
  rw [hR.2]
  exact W.iret h.x h.b hR.1 (vr_end hR hP hD hS) hS.2.2 d h.lk
theorem r_zret (h : VH K own cc fr lo) {r : Int32} {w2 : Wd} {v : Int32} (hR : VR K al (some .boolean) (some (.int r)) w2) (d : decode cc pc = .ok (.ireturn, 1)) (hb : isb v = true) (hv : some (v, w) = some (r, w2)) : V K al w pc L [.int v] := fun H lc ls hP hD hS hl => by
  cases hv
  show W _ _ _ _ _ _ _ _ _ _ _ _ _ _ (kQ K) _
  rw [hR.2]
  exact W.zret h.x h.b hR.1 (isb_b hb).1 (vr_end hR hP hD hS) hS.2.2 d h.lk
theorem r_lret (h : VH K own cc fr lo) {r : Int64} {w2 : Wd} {v : Int64} (hR : VR K al (some .long) (some (.long r)) w2) (d : decode cc pc = .ok (.lreturn, 1)) (hv : some (v, w) = some (r, w2)) : V K al w pc L [.long v] := fun H lc ls hP hD hS hl => by
  cases hv
  show W _ _ _ _ _ _ _ _ _ _ _ _ _ _ (kQ K) _
  rw [hR.2]
  exact W.lret h.x h.b hR.1 (vr_end hR hP hD hS) hS.2.2 d h.lk
theorem r_vret (h : VH K own cc fr lo) {r : Unit} {w2 : Wd} (hR : VR K al none none w2) (d : decode cc pc = .ok (.return_, 1)) (hv : some ((), w) = some (r, w2)) : V K al w pc L [] := fun H lc ls hP hD hS hl => by
  cases hv
  show W _ _ _ _ _ _ _ _ _ _ _ _ _ _ (kQ K) _
  rw [hR.2]
  exact W.vret h.x h.b hR.1 (vr_end hR hP hD hS) hS.2.2 d h.lk
/-- a State, or null -/
theorem r_aret {c q : Nat} {s : String} (h : VH K own cc fr lo) {r : Nat} {w2 : Wd} {v : Value} (hR : VR K al (some (.object s)) (some (pv al c r)) w2) (d : decode cc pc = .ok (.areturn, 1)) (hq : pv al c q = v) (hv : some (q, w) = some (r, w2)) : V K al w pc L [v] := fun H lc ls hP hD hS hl => by
  cases hv
  subst hq
  show W _ _ _ _ _ _ _ _ _ _ _ _ _ _ (kQ K) _
  rw [hR.2]
  refine W.aret h.x h.b hR.1 (Or.inl ⟨s, rfl⟩) ?_ (vr_end hR hP hD hS) hS.2.2 d h.lk
  cases q with
  | zero => exact Or.inl rfl
  | succ n => exact Or.inr ⟨_, rfl⟩
/-- the callee's free cells are the caller's -/
theorem vc_free {H : Heap} {lc : List Loc} (h : VH K own cc fr lo) (hD : va_D (kA K) (wsW (kG K) al w)) (hS : va_S (kA K) (kS K).heap H lc) : ∀ q, va_A (wsW (kG K) al w) H.size q → kA K q := fun q hq => by
  rcases hq with ⟨k, e, hk⟩ | hq
  · exact hD.2 k _ hk
  · exact h.a q (Nat.le_trans hS.1 hq)
theorem vc_pre {H : Heap} {lc : List Loc} (h : VH K own cc fr lo) (hP : va_P (kG K).1 vwCl (wsW (kG K) al w) H) (hD : va_D (kA K) (wsW (kG K) al w)) (hS : va_S (kA K) (kS K).heap H lc) {as : List Value} : ∀ U : State, U.heap = H → (kS K).WarmedH U.vm → (va_Pc as (fun U => U.heap.size = H.size ∧ va_P (kG K).1 vwCl (wsW (kG K) al w) U.heap ∧ va_K (kG K).1 vwCl (tysG (kG K)) U ∧ va_D (fun _ => True) (wsW (kG K) al w) ∧ SK (kG K) (va_A (wsW (kG K) al w) H.size) U U.heap)) as.toArray U :=
  fun U hU hW => ⟨rfl, by rw [hU], by rw [hU]; exact hP, va_K.moved hW.alike h.k, hD.weaken (fun _ _ _ _ => trivial), by rw [hU]; exact SK.call hW hS.2.1 (vc_free h hD hS) h.sk⟩
theorem vc_blind {G : Gx} {as : List Value} {sz : Nat} : FrameBlind (va_Pc as (fun U => U.heap.size = sz ∧ va_P G.1 vwCl (wsW G al w) U.heap ∧ va_K G.1 vwCl (tysG G) U ∧ va_D (fun _ => True) (wsW G al w) ∧ SK G (va_A (wsW G al w) sz) U U.heap)) := fun a U g mk q => by
  obtain ⟨q0, q1, q2, q3, q4, q5⟩ := q
  exact ⟨q0, q1, q2, va_K.moved (u := U) (U := U.calling g mk a) (Vm.Alike.refl U.vm) q3, q4, SK.same (u := U) (U := U.calling g mk a) rfl q5⟩
/-- behind a call -/
theorem vc_back {rest : List Value} {r : Option Value} {w2 : Wd} {H : Heap} {lc : List Loc} {ls : Array Slot} (h : VH K own cc fr lo) (hP : va_P (kG K).1 vwCl (wsW (kG K) al w) H) (hD : va_D (kA K) (wsW (kG K) al w)) (hS : va_S (kA K) (kS K).heap H lc) (hl : lv_has ls (kn K) L)
    (run : va_Run (kp K) (kl K) (ke K) (kR K) (kS K) (km K) (ka K) (kb K) (kt K) (kc K) H lc (kC K) (kT K) 0 0 (F0 (km K) pc ls st) rest (fun st0 oc t => (oc = .returned r ∧ va_P (kG K).1 vwCl (wsW (kG K) al w2) t.heap ∧ va_D (va_A (wsW (kG K) al w) H.size) (wsW (kG K) al w2)) ∧ va_F (va_A (wsW (kG K) al w) H.size) st0 t) (va_A (wsW (kG K) al w) H.size))
    (kk : V K al w2 (pc + 3) L (r.toList ++ rest)) : WK K H lc (F0 (km K) pc ls st) := by
  intro T hT X
  obtain ⟨v, st₀, t, T', L1, h0, X', hL, e1, e2, ⟨⟨hv, hPt, hDt⟩, hz, hk⟩, go⟩ := run T hT X
  cases hv
  rw [h0] at hz hk
  have hF := vc_free h hD hS
  have hS1 : va_S (kA K) (kS K).heap T'.heap (lc ++ L1) := ⟨Nat.le_trans hS.1 (by rw [e1]; exact hz), fun q q1 q2 => by
      rw [e1, hk q (Nat.lt_of_lt_of_le q1 hS.1) (fun z => q2 (hF q z))]
      exact hS.2.1 q q1 q2, fun q hq => by
      rcases List.mem_append.mp hq with h1 | h1
      · exact hS.2.2 q h1
      · exact hF _ (hL q h1)⟩
  obtain ⟨t2, a1, b1⟩ := kk T'.heap (lc ++ L1) ls (by rw [e1]; exact hPt) (hDt.weaken (fun _ q _ hq => hF q.1 hq)) hS1 hl T' rfl X'
  exact ⟨t2, go t2 a1, b1⟩
theorem r_callV (p : Nat) (h : VH K own cc fr lo) {idx n nl fr2 lo2 c j : Nat} {y : MethodName} {cc2 : ByteArray} {ret : Option FieldType} {As rest : List Value} {r : Option Value} {w2 : Wd} (hM : MC (kl K) (kG K) y cc2 nl ret fr2 lo2 al w (.ref (al c j 0) :: As) r w2) (hc : CF own idx y cc2 nl ret n) (hi : Cond.instanceMethod y ∈ big ∧ Cond.selects y.cls y y ∈ big) (hC : ∃ (T : u_T) (N : Nat), vwCl[c]? = some (y.cls, T, N)) (d : decode cc pc = .ok (.invokevirtual idx, 3)) (e : p = pc + 3) (hf : fr2 + 1 ≤ fr) (ho : 8 + (nl + 11) + lo2 ≤ lo) (hj : (c, j, 0) ∈ keys (gN (kG K))) (hn : As.length = n) (hst : st = As.reverse ++ .ref (al c j 0) :: rest) (hr : (rest.map fun v => v.category).sum ≤ 8) (kk : V K al w2 p L (r.toList ++ rest)) : V K al w pc L st := fun H lc ls hP hD hS hl => by
  subst e
  obtain ⟨q, -, hq⟩ := ws_mem (G := kG K) (al := al) hj
  obtain ⟨T, N, hT⟩ := hC
  obtain ⟨⟨hcd, hin⟩, hd, hlk⟩ := hc
  have hrecv := va_recv (fs := flds al (w c j) c j) h.k hP hT hq
  have hG : GoodIn big (.code y cc2 nl ret :: big) := big_in (big_cons hcd)
  have hcells : kC K + 0 ≤ (kR K).cells ∧ kT K + 0 ≤ (kR K).slots := ⟨h.ce, h.sl⟩
  have hroom : (rmC fr2 lo2).frames + 1 ≤ (kR K).frames ∧ 8 + (nl + 11) + (rmC fr2 lo2).locals ≤ (kR K).locals := ⟨by rw [h.fr]; exact hf, by rw [h.lo]; exact ho⟩
  rcases hlk with hlk | ⟨host, hlk⟩
  · exact vc_back h hP hD hS hl (va_runV (Ts := big) (As := As) (rest := rest) ⟨h.x, h.b, h.ml, h.own, h.ts⟩ (hM H.size) ⟨callB_of n h.ts hG rfl rfl rfl (h.ts _ hin) (h.ts _ hlk) hd hroom, h.ts _ hi.1, h.ts _ hi.2⟩ ⟨vc_blind, hrecv, vc_pre h hP hD hS⟩ rfl hn hl.1 hst (lv_room hr) d hcells) kk
  · exact vc_back h hP hD hS hl (va_runVN (Ts := big) (As := As) (rest := rest) ⟨h.x, h.b, h.ml, h.own, h.ts⟩ (hM H.size) ⟨va_cnB n h.ts hG rfl rfl rfl (h.sk.2.2.2.2 _ hlk) (h.ts _ hin) hd hroom, h.ts _ hi.1, h.ts _ hi.2⟩ ⟨vc_blind, hrecv, vc_pre h hP hD hS⟩ rfl hn hl.1 hst (lv_room hr) d hcells) kk
theorem r_callS (p : Nat) (h : VH K own cc fr lo) {idx n nl fr2 lo2 : Nat} {y : MethodName} {cc2 : ByteArray} {ret : Option FieldType} {As rest : List Value} {r : Option Value} {w2 : Wd} (hM : MC (kl K) (kG K) y cc2 nl ret fr2 lo2 al w As r w2) (hc : CF own idx y cc2 nl ret n) (hi : Cond.static y ∈ big) (d : decode cc pc = .ok (.invokestatic idx, 3)) (e : p = pc + 3) (hf : fr2 + 1 ≤ fr) (ho : 8 + (nl + 11) + lo2 ≤ lo) (hn : As.length = n) (hst : st = As.reverse ++ rest) (hr : (rest.map fun v => v.category).sum ≤ 8) (kk : V K al w2 p L (r.toList ++ rest)) : V K al w pc L st := fun H lc ls hP hD hS hl => by
  subst e
  obtain ⟨⟨hcd, hin⟩, hd, hlk⟩ := hc
  have hG : GoodIn big (.code y cc2 nl ret :: big) := big_in (big_cons hcd)
  have hcells : kC K + 0 ≤ (kR K).cells ∧ kT K + 0 ≤ (kR K).slots := ⟨h.ce, h.sl⟩
  have hroom : (rmC fr2 lo2).frames + 1 ≤ (kR K).frames ∧ 8 + (nl + 11) + (rmC fr2 lo2).locals ≤ (kR K).locals := ⟨by rw [h.fr]; exact hf, by rw [h.lo]; exact ho⟩
  rcases hlk with hlk | ⟨host, hlk⟩
  · exact vc_back h hP hD hS hl (va_runS (Ts := big) (As := As) (rest := rest) ⟨h.x, h.b, h.ml, h.own, h.ts⟩ (hM H.size) ⟨callB_of n h.ts hG rfl rfl rfl (h.ts _ hin) (h.ts _ hlk) hd hroom, h.ts _ hi⟩ ⟨vc_blind, vc_pre h hP hD hS⟩ rfl hn hl.1 hst (lv_room hr) d hcells) kk
  · exact vc_back h hP hD hS hl (va_runSN (Ts := big) (As := As) (rest := rest) ⟨h.x, h.b, h.ml, h.own, h.ts⟩ (hM H.size) ⟨va_cnB n h.ts hG rfl rfl rfl (h.sk.2.2.2.2 _ hlk) (h.ts _ hin) hd hroom, h.ts _ hi, trivial⟩ ⟨vc_blind, vc_pre h hP hD hS⟩ rfl hn hl.1 hst (lv_room hr) d hcells) kk
end RC
