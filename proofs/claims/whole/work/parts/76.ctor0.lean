/-! ===== making objects: the cells as they come ===== -/
abbrev rmG (fr lo mc ms : Nat) : Room := { frames := fr, cells := mc, slots := ms, locals := lo }
def VN (K : VC) (ws : va_W) (cs sl pc : Nat) (L : List (Nat × Value)) (st : List Value) : Prop :=
  ∀ (H : Heap) (locs : List Loc) (ls : Array Slot), va_P (kG K).1 vwCl ws H → va_D (kA K) ws → va_S (kA K) (kS K).heap H locs → lv_has ls (kn K) L → W (kp K) (kl K) (ke K) (kR K) (kS K) (km K) (ka K) (kb K) (kt K) (kc K) H locs cs sl (kQ K) (F0 (km K) pc ls st)
def NH (K : VC) (own : String) (cc : ByteArray) (fr lo mc ms : Nat) (z : Bool) : Prop :=
  (kp K).tables.exec = Jvm.exec ∧ (kc K).code = cc ∧ (kc K).maxLocals = kn K ∧ (kS K).vm.findClass own = some (km K).cls ∧ (∀ w ∈ big, w.before (ka K) (kS K) = true) ∧ va_K (kG K).1 vwCl (tysG (kG K)) (kS K) ∧ (∀ q, (kS K).heap.size ≤ q → kA K q) ∧ (kt K).locks = false ∧ (kR K).frames = fr ∧ (kR K).locals = lo ∧ (kR K).cells = mc ∧ (kR K).slots = ms ∧ (∀ w ∈ nst, va_Nw w (kS K)) ∧ (z = true → va_AO "ShingledDisk$State" (kS K))
theorem NH.x {K : VC} {own : String} {cc : ByteArray} {fr lo mc ms : Nat} {z : Bool} (h : NH K own cc fr lo mc ms z) : (kp K).tables.exec = Jvm.exec := h.1
theorem NH.b {K : VC} {own : String} {cc : ByteArray} {fr lo mc ms : Nat} {z : Bool} (h : NH K own cc fr lo mc ms z) : (kc K).code = cc := h.2.1
theorem NH.ml {K : VC} {own : String} {cc : ByteArray} {fr lo mc ms : Nat} {z : Bool} (h : NH K own cc fr lo mc ms z) : (kc K).maxLocals = kn K := h.2.2.1
theorem NH.own {K : VC} {own : String} {cc : ByteArray} {fr lo mc ms : Nat} {z : Bool} (h : NH K own cc fr lo mc ms z) : (kS K).vm.findClass own = some (km K).cls := h.2.2.2.1
theorem NH.ts {K : VC} {own : String} {cc : ByteArray} {fr lo mc ms : Nat} {z : Bool} (h : NH K own cc fr lo mc ms z) : ∀ w ∈ big, w.before (ka K) (kS K) = true := h.2.2.2.2.1
theorem NH.k {K : VC} {own : String} {cc : ByteArray} {fr lo mc ms : Nat} {z : Bool} (h : NH K own cc fr lo mc ms z) : va_K (kG K).1 vwCl (tysG (kG K)) (kS K) := h.2.2.2.2.2.1
theorem NH.a {K : VC} {own : String} {cc : ByteArray} {fr lo mc ms : Nat} {z : Bool} (h : NH K own cc fr lo mc ms z) : ∀ q, (kS K).heap.size ≤ q → kA K q := h.2.2.2.2.2.2.1
theorem NH.lk {K : VC} {own : String} {cc : ByteArray} {fr lo mc ms : Nat} {z : Bool} (h : NH K own cc fr lo mc ms z) : (kt K).locks = false := h.2.2.2.2.2.2.2.1
theorem NH.fr {K : VC} {own : String} {cc : ByteArray} {fr lo mc ms : Nat} {z : Bool} (h : NH K own cc fr lo mc ms z) : (kR K).frames = fr := h.2.2.2.2.2.2.2.2.1
theorem NH.lo {K : VC} {own : String} {cc : ByteArray} {fr lo mc ms : Nat} {z : Bool} (h : NH K own cc fr lo mc ms z) : (kR K).locals = lo := h.2.2.2.2.2.2.2.2.2.1
theorem NH.ce {K : VC} {own : String} {cc : ByteArray} {fr lo mc ms : Nat} {z : Bool} (h : NH K own cc fr lo mc ms z) : (kR K).cells = mc := h.2.2.2.2.2.2.2.2.2.2.1
theorem NH.sl {K : VC} {own : String} {cc : ByteArray} {fr lo mc ms : Nat} {z : Bool} (h : NH K own cc fr lo mc ms z) : (kR K).slots = ms := h.2.2.2.2.2.2.2.2.2.2.2.1
theorem NH.ns {K : VC} {own : String} {cc : ByteArray} {fr lo mc ms : Nat} {z : Bool} (h : NH K own cc fr lo mc ms z) : ∀ w ∈ nst, va_Nw w (kS K) := h.2.2.2.2.2.2.2.2.2.2.2.2.1
theorem NH.ao {K : VC} {own : String} {cc : ByteArray} {fr lo mc ms : Nat} {z : Bool} (h : NH K own cc fr lo mc ms z) : z = true → va_AO "ShingledDisk$State" (kS K) := h.2.2.2.2.2.2.2.2.2.2.2.2.2
/-- from every heap with these cells the constructor returns, and the cells are those of post -/
def MN (l : Launch) (G : Gx) (y : MethodName) (cc : ByteArray) (nl fr lo mc ms : Nat) (z : Bool) (pre : va_W) (as : List Value) (post : va_W → Prop) : Prop :=
  ∀ sz : Nat, Met l y (.code y cc nl none :: big) (rmG fr lo mc ms)
    (va_Pc as (fun U => U.heap.size = sz ∧ va_P G.1 vwCl pre U.heap ∧ va_K G.1 vwCl (tysG G) U ∧ va_D (fun _ => True) pre ∧ (∀ w ∈ nst, va_Nw w U) ∧ (z = true → va_AO "ShingledDisk$State" U)))
    (fun _ st oc t => (∃ P : va_W, oc = .returned none ∧ post P ∧ va_P G.1 vwCl P t.heap ∧ va_D (va_A pre sz) P) ∧ va_F (va_A pre sz) st t)
    mc ms (va_A pre sz)
def NR (K : VC) (mc ms : Nat) (post : va_W → Prop) : Prop :=
  (kt K).sig.returnType = none ∧ kQ K = MQ (kb K) (fun _ st oc t => (∃ P : va_W, oc = .returned none ∧ post P ∧ va_P (kG K).1 vwCl P t.heap ∧ va_D (kA K) P) ∧ va_F (kA K) st t) (ka K) (kS K) mc ms (kA K)
theorem mn_of {l : Launch} {G : Gx} {y : MethodName} {cc : ByteArray} {nl fr lo mc ms : Nat} {z : Bool} {pre : va_W} {as : List Value} {post : va_W → Prop} (L0 : List (Nat × Value)) (hy : plainName y.cls = true) (hlen : (lg_sl as).length ≤ nl) (hL : lv_args 0 as = L0) (hin : y.name = "<init>")
    (body : ∀ K : VC, NH K y.cls cc fr lo mc ms z → NR K mc ms post → (kt K).name = "<init>" → kn K = nl → kl K = l → kG K = G → VN K pre 0 0 0 L0 []) : MN l G y cc nl fr lo mc ms z pre as post := by
  intro sz
  refine Met.ofW (cc := cc) (maxL := nl) (ret := none) hy rfl ?_
  intro p e s m args below meth c s₁ B hml hv
  obtain ⟨hargs, hsz, hP, hK, hD0, hN, hZ⟩ := hv
  subst hsz
  have hts := atoms_spec (ws := .code y cc nl none :: big) B.pre
  have hD := hD0.self (sz := s.heap.size)
  have hin2 : meth.name = "<init>" := (name_of_methodNamed B.named B.method).1.trans hin
  have hb := body ((p, l, e, rmG fr lo mc ms, s, m, args, below, meth, c), MQ below (fun _ st oc t => (∃ P : va_W, oc = .returned none ∧ post P ∧ va_P G.1 vwCl P t.heap ∧ va_D (va_A pre s.heap.size) P) ∧ va_F (va_A pre s.heap.size) st t) args s mc ms (va_A pre s.heap.size), va_A pre s.heap.size, nl, 0, 0, G)
    ⟨B.exec, B.bytes, hml, findClass_of_methodNamed B.named, fun q hq => hts q (List.mem_cons_of_mem _ hq), hK, fun q hq => Or.inr hq, B.notSynchronized, rfl, rfl, rfl, rfl, hN, hZ⟩
    ⟨B.returns, rfl⟩ hin2 rfl rfl rfl
  have he := lv_entry as (n := nl) hlen
  rw [hL] at he
  subst hargs
  rw [lg_entry_eq]
  exact hb s.heap [] _ hP hD va_S.rf he
theorem arrV_cg {cA : ClassId} {n : Nat} {f g : Nat → Value} (h : ∀ j, j < n → f j = g j) : arrV cA n f = arrV cA n g := by
  unfold arrV
  have e : (fun j : Fin n => f j.val) = (fun j : Fin n => g j.val) := funext (fun j => h j.val j.isLt)
  rw [e]
theorem set_P {D : va_G} {ws : va_W} {q a : Nat} {e e2 : va_E} {H : Heap} (hq : q < ws.length) (h : va_P D vwCl (ws.set q (a, e)) H) (he : va_at D vwCl (a, e) H → va_at D vwCl (a, e2) H) : va_P D vwCl (ws.set q (a, e2)) H := fun k x hx => by
  rw [List.getElem?_set] at hx
  by_cases c : q = k
  · subst c
    rw [if_pos rfl, if_pos hq] at hx
    cases hx
    exact he (h q _ (by rw [List.getElem?_set, if_pos rfl, if_pos hq]))
  · rw [if_neg c] at hx
    exact h k x (by rw [List.getElem?_set, if_neg c]; exact hx)
theorem set_D {A : Nat → Prop} {ws : va_W} {q a : Nat} {e e2 : va_E} (hq : q < ws.length) (h : va_D A (ws.set q (a, e))) : va_D A (ws.set q (a, e2)) := by
  have key : ∀ (k : Nat) (x : Nat × va_E), (ws.set q (a, e2))[k]? = some x → ∃ y : Nat × va_E, (ws.set q (a, e))[k]? = some y ∧ y.1 = x.1 := fun k x hx => by
    rw [List.getElem?_set] at hx
    by_cases c : q = k
    · subst c
      rw [if_pos rfl, if_pos hq] at hx
      cases hx
      exact ⟨(a, e), by rw [List.getElem?_set, if_pos rfl, if_pos hq], rfl⟩
    · rw [if_neg c] at hx
      exact ⟨x, by rw [List.getElem?_set, if_neg c]; exact hx, rfl⟩
  refine ⟨fun i j x y hx hy e9 => ?_, fun k x hx => ?_⟩
  · obtain ⟨x2, h1, h2⟩ := key i x hx
    obtain ⟨y2, h3, h4⟩ := key j y hy
    exact h.1 i j x2 y2 h1 h3 (by rw [h2, h4, e9])
  · obtain ⟨x2, h1, h2⟩ := key k x hx
    rw [← h2]
    exact h.2 k x2 h1
section RN
variable {K : VC} {own : String} {cc : ByteArray} {fr lo mc ms : Nat} {z : Bool} {ws R : va_W} {cs sl pc : Nat} {L : List (Nat × Value)} {st : List Value}
theorem n_iconst (p : Nat) (h : NH K own cc fr lo mc ms z) {n : Int} {v : Int32} (d : decode cc pc = .ok (.iconst n, 1)) (e : p = pc + 1) (hv : Int32.ofInt n = v) (kk : VN K ws cs sl p L (.int v :: st)) : VN K ws cs sl pc L st := fun H lc ls hP hD hS hl => by
  subst e
  exact lv_iconst h.x h.b d hv (kk H lc ls hP hD hS hl)
theorem n_bipush (p : Nat) (h : NH K own cc fr lo mc ms z) {n : Int} {v : Int32} (d : decode cc pc = .ok (.bipush n, 2)) (e : p = pc + 2) (hv : (Int8.ofInt n).toInt32 = v) (kk : VN K ws cs sl p L (.int v :: st)) : VN K ws cs sl pc L st := fun H lc ls hP hD hS hl => by
  subst e
  exact lv_bipush h.x h.b d hv (kk H lc ls hP hD hS hl)
theorem n_sipush (p : Nat) (h : NH K own cc fr lo mc ms z) {n : Int} {v : Int32} (d : decode cc pc = .ok (.sipush n, 3)) (e : p = pc + 3) (hv : (Int16.ofInt n).toInt32 = v) (kk : VN K ws cs sl p L (.int v :: st)) : VN K ws cs sl pc L st := fun H lc ls hP hD hS hl => by
  subst e
  exact lv_sipush h.x h.b d hv (kk H lc ls hP hD hS hl)
theorem n_iload_n (p : Nat) (h : NH K own cc fr lo mc ms z) {k : Fin 4} {i : Nat} {x : Int32} (d : decode cc pc = .ok (.iload_n k, 1)) (e : p = pc + 1) (j : Nat) (hi : (k : Nat) = i) (hj : L[j]? = some (i, .int x)) (kk : VN K ws cs sl p L (.int x :: st)) : VN K ws cs sl pc L st := fun H lc ls hP hD hS hl => by
  subst e
  exact lv_iload_n h.x h.b d hi (lv_at hl j hj) (kk H lc ls hP hD hS hl)
theorem n_aload_n (p : Nat) (h : NH K own cc fr lo mc ms z) {k : Fin 4} {i x : Nat} (d : decode cc pc = .ok (.aload_n k, 1)) (e : p = pc + 1) (j : Nat) (hi : (k : Nat) = i) (hj : L[j]? = some (i, .ref x)) (kk : VN K ws cs sl p L (.ref x :: st)) : VN K ws cs sl pc L st := fun H lc ls hP hD hS hl => by
  subst e
  exact lv_aload_n h.x h.b d hi (lv_at hl j hj) (kk H lc ls hP hD hS hl)
theorem n_dup (p : Nat) (h : NH K own cc fr lo mc ms z) {x : Nat} (d : decode cc pc = .ok (.dup, 1)) (e : p = pc + 1) (kk : VN K ws cs sl p L (.ref x :: .ref x :: st)) : VN K ws cs sl pc L (.ref x :: st) := fun H lc ls hP hD hS hl => by
  subst e
  exact lv_dup h.x h.b d rfl (kk H lc ls hP hD hS hl)
theorem n_istore_n (p : Nat) (L2 : List (Nat × Value)) (h : NH K own cc fr lo mc ms z) {k : Fin 4} {i n : Nat} {x : Int32} (d : decode cc pc = .ok (.istore_n k, 1)) (e : p = pc + 1) (hi : (k : Nat) = i) (hk : kn K = n) (hn : i < n) (hL : (i, Value.int x) :: L.filter (fun q => !(q.1 == i) && !(q.1 + 1 == i && q.2.category == 2)) = L2) (kk : VN K ws cs sl p L2 st) : VN K ws cs sl pc L (.int x :: st) := fun H lc ls hP hD hS hl => by
  subst e; subst hk
  exact lv_istore_n h.x h.b d hi hl hn hL (fun ls2 hl2 => kk H lc ls2 hP hD hS hl2)
theorem n_goto (p : Nat) (h : NH K own cc fr lo mc ms z) {off : Int} (d : decode cc pc = .ok (.goto off, 3)) (e : (pc : Int) + off = (p : Int)) (kk : VN K ws cs sl p L st) : VN K ws cs sl pc L st := fun H lc ls hP hD hS hl =>
  lv_goto h.x h.b d e (kk H lc ls hP hD hS hl)
theorem n_icmp_ge (p q : Nat) (h : NH K own cc fr lo mc ms z) {x y : Int32} {off : Int} (d : decode cc pc = .ok (.if_icmp .ge off, 3)) (e : (pc : Int) + off = (p : Int)) (e2 : q = pc + 3) (kt : y ≤ x → VN K ws cs sl p L st) (kf : ¬ (y ≤ x) → VN K ws cs sl q L st) : VN K ws cs sl pc L (.int y :: .int x :: st) := fun H lc ls hP hD hS hl => by
  subst e2
  exact lv_icmp_ge h.x h.b d e (fun z => kt z H lc ls hP hD hS hl) (fun z => kf z H lc ls hP hD hS hl)
theorem wd_oi : Cond.instanceMethod objectInit ∈ big ∧ Cond.code objectInit ⟨#[0xb1]⟩ 1 none ∈ big := ⟨big_t 29 (by decide +kernel) rfl, big_t 30 (by decide +kernel) rfl⟩
theorem n_obj (p : Nat) (h : NH K own cc fr lo mc ms z) {idx a : Nat} (hlk : Cond.methodLink own idx objectInit ∈ big) (d : decode cc pc = .ok (.invokespecial idx, 3)) (e : p = pc + 3) (hf : 1 ≤ fr) (ho : (st.map fun v => v.category).sum + 12 ≤ lo) (kk : VN K ws cs sl p L st) : VN K ws cs sl pc L (.ref a :: st) := fun H lc ls hP hD hS hl => by
  subst e
  exact W.objInit h.x h.b h.own (h.ts _ hlk) (h.ts _ wd_oi.1) (h.ts _ wd_oi.2) rfl (by rw [h.ml]; exact hl.1) rfl d (by rw [h.fr]; exact hf) (by rw [h.lo]; show 2 * 0 + _ + 12 ≤ lo; omega) (kk H lc ls hP hD hS hl)
theorem n_max (p : Nat) (h : NH K own cc fr lo mc ms z) {idx : Nat} {x y : Int32} (d : decode cc pc = .ok (.invokestatic idx, 3)) (e : p = pc + 3) (h1 : Cond.methodLink own idx Lib.Math.max.name ∈ big ∧ Cond.static Lib.Math.max.name ∈ big ∧ Cond.initialized "java/lang/Math" ∈ big ∧ Cond.code Lib.Math.max.name Lib.Math.max.code 2 (some .int) ∈ big) (hf : 1 ≤ fr) (ho : (st.map fun v => v.category).sum + 13 ≤ lo) (hc : cs ≤ mc) (hs : sl ≤ ms) (kk : VN K ws cs sl p L (.int (if x < y then y else x) :: st)) : VN K ws cs sl pc L (.int y :: .int x :: st) := fun H lc ls hP hD hS hl => by
  subst e
  exact va_mmax h.x h.b (h.ml.trans hl.1.symm) h.own (h.ts _ h1.1) (h.ts _ h1.2.1) (h.ts _ h1.2.2.1) (h.ts _ h1.2.2.2) (by rw [h.fr]; exact hf) (by rw [h.lo]; exact ho) (by rw [h.ce]; exact hc) (by rw [h.sl]; exact hs) d (kk H lc ls hP hD hS hl)
theorem n_newa (p : Nat) (h : NH K own cc fr lo mc ms z) {atype : ArrayType} {ty : FieldType} (t : Nat) (hty : newarray.typeOf atype = ty) (ht : (tysG (kG K))[t]? = some ((kG K).2.1 t, ty)) (harr : Cond.arrayClass ty ∈ big) {n : Int32} {N : Nat} {a0 : vp_A} (ha : ∀ cA : ClassId, vp_cell cA a0 = arrV cA N (fun _ => defaultValue ty)) (hn : ¬ n < 0) (hN : n.toNatClampNeg = N) (hb : N * componentBytes ty ≤ 536870912) (hc : cs + 1 ≤ mc) (hs : sl + N ≤ ms) (d : decode cc pc = .ok (.newarray atype, 2)) (e : p = pc + 2) (kk : ∀ q : Nat, VN K (ws ++ [(q, .inl ((kG K).2.1 t, a0))]) (cs + 1) (sl + N) p L (.ref q :: st)) : VN K ws cs sl pc L (.int n :: st) := fun H lc ls hP hD hS hl => by
  subst e; subst hty
  refine va_newa h.x h.b (h.ts _ harr) rfl h.k hP hD hS h.a ha hn hN hb (by rw [h.ce]; exact hc) (by rw [h.sl]; exact hs) d (fun q cA H1 hK1 hP1 hD1 hS1 => ?_)
  have e : cA = (kG K).2.1 t := by
    have k1 := (hK1.2 (tysG (kG K)).length (cA, newarray.typeOf atype) (by simp)).2
    have k2 := (h.k.2 t _ ht).2
    cases atype <;> exact Option.some.inj (k1.symm.trans k2)
  rw [e] at hP1 hD1
  exact kk q H1 lc ls hP1 hD1 hS1 hl
theorem n_new (p : Nat) (h : NH K own cc fr lo mc ms z) {idx ci N : Nat} {C : String} {T : u_T} (t0 : Nat → FieldType) (hc : vwCl[ci]? = some (C, T, N)) (hu : ∀ w ∈ u_ws C T N, w ∈ big) (hty : ∀ k, k < N → parseFieldDescriptor (T k).2.2.1 = some (t0 k)) (h1 : Cond.classLink own idx C ∈ big) (h2 : Cond.instantiable C N ∈ big) (h3 : Cond.initialized C ∈ big) {fs : List Value} (hfs : ∀ j, j < N → defaultValue (t0 j) = vp_V fs j) (hcs : cs + 1 ≤ mc) (hsl : sl + N ≤ ms) (d : decode cc pc = .ok (.new idx, 3)) (e : p = pc + 3) (kk : ∀ q : Nat, VN K (ws ++ [(q, .inr (ci, fs))]) (cs + 1) (sl + N) p L (.ref q :: st)) : VN K ws cs sl pc L st := fun H lc ls hP hD hS hl => by
  subst e
  exact va_new h.x h.b h.ts hu t0 hty h.own (h.ts _ h1) (h.ts _ h2) (h.ts _ h3) h.k hP hD hS h.a hc hfs (by rw [h.ce]; exact hcs) (by rw [h.sl]; exact hsl) d (fun q H1 hP1 hD1 hS1 => kk q H1 lc ls hP1 hD1 hS1 hl)
theorem n_putF (p : Nat) (h : NH K own cc fr lo mc ms z) (hin : (kt K).name = "<init>") {idx ci N a : Nat} {C : String} {T : u_T} (t0 : Nat → FieldType) (hc : vwCl[ci]? = some (C, T, N)) (hu : ∀ w ∈ u_ws C T N, w ∈ big) (hty : ∀ k, k < N → parseFieldDescriptor (T k).2.2.1 = some (t0 k)) (hnm : ∀ a, a < N → ∀ b, b < N → a ≠ b → (T a).2.1 ≠ (T b).2.1) (k : Nat) (hk : k < N) (hlk : Cond.fieldLink own idx (T k).1 (T k).2.1 (T k).2.2.1 ∈ big) (hfin : (T k).2.2.2 = true) (hdecl : (T k).1 = own) {ty : FieldType} {v : Value} (hd : parseFieldDescriptor (T k).2.2.1 = some ty) (hn : narrow ty v = v) (hfit : fits ty v = true) {fs fs2 : List Value} (hl0 : k < fs.length) (d : decode cc pc = .ok (.putfield idx, 3)) (e : p = pc + 3) (hfs : fs.set k v = fs2) (kk : VN K ((a, .inr (ci, fs2)) :: R) cs sl p L st) : VN K ((a, .inr (ci, fs)) :: R) cs sl pc L (v :: .ref a :: st) := fun H lc ls hP hD hS hl => by
  subst e; subst hfs
  exact va_putF h.x h.b h.ts hu t0 hty hnm h.own h.k hP hD hS 0 rfl hc k hk (h.ts _ hlk) (fun _ z => z) hfin hin hdecl hd hn hfit hl0 d (fun H1 lc1 hP1 hD1 hS1 => kk H1 lc1 ls hP1 hD1 hS1 hl)
theorem n_put (p : Nat) (h : NH K own cc fr lo mc ms z) {idx ci N a : Nat} {C : String} {T : u_T} (t0 : Nat → FieldType) (hc : vwCl[ci]? = some (C, T, N)) (hu : ∀ w ∈ u_ws C T N, w ∈ big) (hty : ∀ k, k < N → parseFieldDescriptor (T k).2.2.1 = some (t0 k)) (hnm : ∀ a, a < N → ∀ b, b < N → a ≠ b → (T a).2.1 ≠ (T b).2.1) (k : Nat) (hk : k < N) (hlk : Cond.fieldLink own idx (T k).1 (T k).2.1 (T k).2.2.1 ∈ big) (hfin : (T k).2.2.2 = false) {ty : FieldType} {v : Value} (hd : parseFieldDescriptor (T k).2.2.1 = some ty) (hn : narrow ty v = v) (hfit : fits ty v = true) {fs fs2 : List Value} (hl0 : k < fs.length) (d : decode cc pc = .ok (.putfield idx, 3)) (e : p = pc + 3) (hfs : fs.set k v = fs2) (kk : VN K ((a, .inr (ci, fs2)) :: R) cs sl p L st) : VN K ((a, .inr (ci, fs)) :: R) cs sl pc L (v :: .ref a :: st) := fun H lc ls hP hD hS hl => by
  subst e; subst hfs
  exact va_put h.x h.b h.ts hu t0 hty hnm h.own h.k hP hD hS 0 rfl hc k hk (h.ts _ hlk) (fun _ z => z) hfin hd hn hfit hl0 d (fun H1 lc1 hP1 hD1 hS1 => kk H1 lc1 ls hP1 hD1 hS1 hl)
theorem n_get (p : Nat) (h : NH K own cc fr lo mc ms z) {idx ci N a : Nat} {C : String} {T : u_T} (hc : vwCl[ci]? = some (C, T, N)) (hu : ∀ w ∈ u_ws C T N, w ∈ big) (k : Nat) (hk : k < N) (hlk : Cond.fieldLink own idx (T k).1 (T k).2.1 (T k).2.2.1 ∈ big) {v : Value} {fs : List Value} (hv : fs[k]? = some v) (d : decode cc pc = .ok (.getfield idx, 3)) (e : p = pc + 3) (kk : VN K ((a, .inr (ci, fs)) :: R) cs sl p L (v :: st)) : VN K ((a, .inr (ci, fs)) :: R) cs sl pc L (.ref a :: st) := fun H lc ls hP hD hS hl => by
  subst e
  exact va_get h.x h.b h.ts hu h.own h.k hP 0 rfl hc k hk (h.ts _ hlk) (fun _ z => z) hv d (kk H lc ls hP hD hS hl)
theorem n_vret (h : NH K own cc fr lo mc ms z) {post : va_W → Prop} (hR : NR K mc ms post) (hw : post ws) (hc : cs ≤ mc) (hs : sl ≤ ms) (d : decode cc pc = .ok (.return_, 1)) : VN K ws cs sl pc L [] := fun H lc ls hP hD hS hl => by
  refine W.widen (k := mc) (n := ms) hc hs ?_
  show W _ _ _ _ _ _ _ _ _ _ _ _ _ _ (kQ K) _
  rw [hR.2]
  exact W.vret h.x h.b hR.1 (fun t ht _ => ⟨⟨ws, rfl, hw, by rw [ht]; exact hP, hD⟩, hS.F ht⟩) hS.2.2 d h.lk
/-- the cells of a call beside the rest -/
theorem jn_P {D : va_G} {A : Nat → Prop} {c : Nat × va_E} {P : va_W} {H H1 : Heap} (hP : va_P D vwCl (ws ++ [c]) H) (hD : va_D A (ws ++ [c])) (hk : ∀ q : Nat, q < H.size → ¬ va_A [c] H.size q → H1[q]? = H[q]?) (hF : ∀ q, va_A [c] H.size q → A q) (hP1 : va_P D vwCl P H1) (hD1 : va_D (va_A [c] H.size) P) : va_P D vwCl (ws ++ P) H1 ∧ va_D A (ws ++ P) := by
  have hl : ∀ (k : Nat) (q : Nat × va_E), ws[k]? = some q → (ws ++ [c])[k]? = some q := fun k q hq => by
    rw [List.getElem?_append_left (List.getElem?_eq_some_iff.mp hq).1]; exact hq
  have hc : (ws ++ [c])[ws.length]? = some c := by simp
  have ap : ∀ (k : Nat) (q : Nat × va_E), ws[k]? = some q → q.1 < H.size ∧ ¬ va_A [c] H.size q.1 := fun k q hq => by
    have h1 := (hP k q (hl k q hq)).lt
    refine ⟨h1, fun z => ?_⟩
    rcases z with ⟨j, e, hj⟩ | z
    · have hj0 : j = 0 := by
        have := (List.getElem?_eq_some_iff.mp hj).1
        simp at this
        exact this
      subst hj0
      have hcc : c = (q.1, e) := by simpa using hj
      have := hD.1 k ws.length q c (hl k q hq) hc (by rw [hcc])
      have h2 := (List.getElem?_eq_some_iff.mp hq).1
      omega
    · omega
  have hPw : va_P D vwCl ws H := fun k q hq => hP k q (hl k q hq)
  refine ⟨(hPw.kept (fun k q hq => hk q.1 (ap k q hq).1 (ap k q hq).2)).app hP1, va_D.app ⟨fun i j p q hp hq e => hD.1 i j p q (hl i p hp) (hl j q hq) e, fun k q hq => hD.2 k q (hl k q hq)⟩ (hD1.weaken (fun _ q _ hq => hF q.1 hq)) (fun i j p q hp hq e => ?_)⟩
  have h1 := (ap i p hp).2
  have h2 := hD1.2 j q hq
  rw [← e] at h2
  exact h1 h2
theorem mn_blind {z : Bool} {G : Gx} {pre : va_W} {as : List Value} {sz : Nat} : FrameBlind (va_Pc as (fun U => U.heap.size = sz ∧ va_P G.1 vwCl pre U.heap ∧ va_K G.1 vwCl (tysG G) U ∧ va_D (fun _ => True) pre ∧ (∀ w ∈ nst, va_Nw w U) ∧ (z = true → va_AO "ShingledDisk$State" U))) := fun a U g mk q => by
  obtain ⟨q0, q1, q2, q3, q4, q5, q6⟩ := q
  exact ⟨q0, q1, q2, va_K.moved (u := U) (U := U.calling g mk a) (Vm.Alike.refl U.vm) q3, q4, fun w hw => nst_same (s := U) (U := U.calling g mk a) hw rfl (q5 w hw), fun hz => va_AO.moved (u := U) (U := U.calling g mk a) (Vm.Alike.refl U.vm) (q6 hz)⟩
/-- a constructor is called on the last cell -/
theorem n_call (p : Nat) (h : NH K own cc fr lo mc ms z) {z2 : Bool} (hz : z2 = true → z = true) {idx n nl fr2 lo2 mc2 ms2 q : Nat} {E : va_E} {y : MethodName} {cc2 : ByteArray} {As rest : List Value} {post : va_W → Prop} (hM : MN (kl K) (kG K) y cc2 nl fr2 lo2 mc2 ms2 z2 [(q, E)] (.ref q :: As) post) (hcf : CF own idx y cc2 nl none n) (hi : Cond.instanceMethod y ∈ big) (hy : y.name = "<init>") (d : decode cc pc = .ok (.invokespecial idx, 3)) (e : p = pc + 3) (hf : fr2 + 1 ≤ fr) (ho : 8 + (nl + 11) + lo2 ≤ lo) (hcs : cs + mc2 ≤ mc) (hsl : sl + ms2 ≤ ms) (hn : As.length = n) (hst : st = As.reverse ++ .ref q :: rest) (hr : (rest.map fun v => v.category).sum ≤ 8) (kk : ∀ P : va_W, post P → VN K (ws ++ P) (cs + mc2) (sl + ms2) p L rest) : VN K (ws ++ [(q, E)]) cs sl pc L st := fun H lc ls hP hD hS hl => by
  subst e
  obtain ⟨⟨hcd, hin⟩, hd, hlk⟩ := hcf
  have hG : GoodIn big (.code y cc2 nl none :: big) := big_in (big_cons hcd)
  have hcells : cs + mc2 ≤ (kR K).cells ∧ sl + ms2 ≤ (kR K).slots := ⟨by rw [h.ce]; exact hcs, by rw [h.sl]; exact hsl⟩
  have hroom : (rmG fr2 lo2 mc2 ms2).frames + 1 ≤ (kR K).frames ∧ 8 + (nl + 11) + (rmG fr2 lo2 mc2 ms2).locals ≤ (kR K).locals := ⟨by rw [h.fr]; exact hf, by rw [h.lo]; exact ho⟩
  have hc1 : (ws ++ [(q, E)])[ws.length]? = some (q, E) := by simp
  have hF : ∀ x, va_A [(q, E)] H.size x → kA K x := fun x hx => by
    rcases hx with ⟨k, e, hk⟩ | hx
    · have hm := List.mem_of_getElem? hk
      have : (x, e) = (q, E) := by simpa using hm
      rw [show x = q from congrArg Prod.fst this]
      exact hD.2 ws.length (q, E) hc1
    · exact h.a x (Nat.le_trans hS.1 hx)
  have hpre : ∀ U : State, U.heap = H → (kS K).WarmedH U.vm → (va_Pc (.ref q :: As) (fun U => U.heap.size = H.size ∧ va_P (kG K).1 vwCl [(q, E)] U.heap ∧ va_K (kG K).1 vwCl (tysG (kG K)) U ∧ va_D (fun _ => True) [(q, E)] ∧ (∀ w ∈ nst, va_Nw w U) ∧ (z2 = true → va_AO "ShingledDisk$State" U))) (Value.ref q :: As).toArray U := fun U hU hW => by
    have hPq : va_P (kG K).1 vwCl [(q, E)] H := fun k x hx => by
      have hm := List.mem_of_getElem? hx
      rw [show x = (q, E) by simpa using hm]
      exact hP ws.length _ hc1
    have hDq : va_D (fun _ => True) [(q, E)] := ⟨fun i j a b ha hb _ => by
      have h1 := (List.getElem?_eq_some_iff.mp ha).1
      have h2 := (List.getElem?_eq_some_iff.mp hb).1
      simp at h1 h2
      omega, fun _ _ _ => trivial⟩
    exact ⟨rfl, by rw [hU], by rw [hU]; exact hPq, va_K.moved hW.alike h.k, hDq, fun w hw => nst_warm hw hW (h.ns w hw), fun y => va_AO.moved hW.alike (h.ao (hz y))⟩
  have run : va_Run (kp K) (kl K) (ke K) (kR K) (kS K) (km K) (ka K) (kb K) (kt K) (kc K) H lc cs sl mc2 ms2 (F0 (km K) pc ls st) rest (fun st0 oc t => (∃ P : va_W, oc = .returned none ∧ post P ∧ va_P (kG K).1 vwCl P t.heap ∧ va_D (va_A [(q, E)] H.size) P) ∧ va_F (va_A [(q, E)] H.size) st0 t) (va_A [(q, E)] H.size) := by
    rcases hlk with hlk | ⟨host, hlk⟩
    · exact va_runI (Ts := big) (As := As) (rest := rest) ⟨h.x, h.b, h.ml, h.own, h.ts⟩ (hM H.size) ⟨callB_of n h.ts hG rfl rfl rfl (h.ts _ hin) (h.ts _ hlk) hd hroom, hy, h.ts _ hi⟩ ⟨mn_blind, hpre⟩ rfl hn hl.1 hst (lv_room hr) d hcells
    · exact va_runIN (Ts := big) (As := As) (rest := rest) ⟨h.x, h.b, h.ml, h.own, h.ts⟩ (hM H.size) ⟨va_cnB n h.ts hG rfl rfl rfl (h.ns _ hlk) (h.ts _ hin) hd hroom, hy, h.ts _ hi⟩ ⟨mn_blind, hpre⟩ rfl hn hl.1 hst (lv_room hr) d hcells
  intro T hT X
  obtain ⟨v, st₀, t, T', L1, h0, X', hL, e1, e2, ⟨⟨P, hv, hpo, hPt, hDt⟩, hsz, hk⟩, go⟩ := run T hT X
  cases hv
  rw [h0] at hsz hk
  have hS1 : va_S (kA K) (kS K).heap T'.heap (lc ++ L1) := ⟨Nat.le_trans hS.1 (by rw [e1]; exact hsz), fun x q1 q2 => by
      rw [e1, hk x (Nat.lt_of_lt_of_le q1 hS.1) (fun y => q2 (hF x y))]
      exact hS.2.1 x q1 q2, fun x hx => by
      rcases List.mem_append.mp hx with h1 | h1
      · exact hS.2.2 x h1
      · exact hF _ (hL x h1)⟩
  obtain ⟨j1, j2⟩ := jn_P hP hD hk hF hPt hDt
  obtain ⟨t2, a1, b1⟩ := kk P hpo T'.heap (lc ++ L1) ls (by rw [e1]; exact j1) j2 hS1 hl T' rfl X'
  exact ⟨t2, go t2 a1, b1⟩
theorem n_newq (p : Nat) (h : NH K own cc fr lo mc ms z) (hz : z = true) {idx : Nat} (h1 : Cond.classLink own idx "ShingledDisk$State" ∈ big) {n : Int32} {N : Nat} (hn : ¬ n < 0) (hN : n.toNatClampNeg = N) (hb : N * 4 ≤ 536870912) (hc : cs + 1 ≤ mc) (hs : sl + N ≤ ms) (d : decode cc pc = .ok (.anewarray idx, 3)) (e : p = pc + 3) (kk : ∀ q : Nat, VN K (ws ++ [(q, .inl ((kG K).2.1 4, N, .inr (.inr (.inr (.inr (fun _ => none))))))]) (cs + 1) (sl + N) p L (.ref q :: st)) : VN K ws cs sl pc L (.int n :: st) := fun H lc ls hP hD hS hl => by
  subst e
  refine va_newq h.x h.b h.own (h.ts _ h1) (h.ao hz) h.k hP hD hS h.a hn hN hb (by rw [h.ce]; exact hc) (by rw [h.sl]; exact hs) d (fun q cA H1 hK1 hP1 hD1 hS1 => ?_)
  have e : cA = (kG K).2.1 4 := by
    obtain ⟨a1, a2, a3, a4, a5, a6⟩ := (hK1.2 (tysG (kG K)).length (cA, .object "ShingledDisk$State") (by simp)).2
    obtain ⟨b1, b2, b3, b4, b5, b6⟩ := (h.k.2 4 ((kG K).2.1 4, .object "ShingledDisk$State") rfl).2
    exact Option.some.inj (a6.symm.trans b6)
  rw [e] at hP1 hD1
  exact kk q H1 lc ls hP1 hD1 hS1 hl
theorem n_alen1 (p : Nat) (h : NH K own cc fr lo mc ms z) {c0 : Nat × va_E} {r t N : Nat} {x : vp_A} {v : Int32} (ty : FieldType) (ht : (tysG (kG K))[t]? = some ((kG K).2.1 t, ty)) (hv : Int32.ofNat x.1 = v) (d : decode cc pc = .ok (.arraylength, 1)) (e : p = pc + 1) (kk : VN K (c0 :: (r, .inl ((kG K).2.1 t, x)) :: R) cs sl p L (.int v :: st)) : VN K (c0 :: (r, .inl ((kG K).2.1 t, x)) :: R) cs sl pc L (.ref r :: st) := fun H lc ls hP hD hS hl => by
  subst e
  exact va_alen h.x h.b h.k hP 1 t rfl ht hv d (kk H lc ls hP hD hS hl)
/-- a State is laid into the row, which is the second cell -/
theorem n_astq1 (p : Nat) (h : NH K own cc fr lo mc ms z) {c0 : Nat × va_E} {r N v k : Nat} {vs : List Value} {f g : Nat → Option Nat} {i : Int32} (hin : vp_in i N) (hv : R[k]? = some (v, .inr (7, vs))) (hg : va_up f i.toNatClampNeg (some v) = g) (d : decode cc pc = .ok (.aastore, 1)) (e : p = pc + 1) (kk : VN K (c0 :: (r, .inl ((kG K).2.1 4, N, .inr (.inr (.inr (.inr g))))) :: R) cs sl p L st) : VN K (c0 :: (r, .inl ((kG K).2.1 4, N, .inr (.inr (.inr (.inr f))))) :: R) cs sl pc L (.ref v :: .int i :: .ref r :: st) := fun H lc ls hP hD hS hl => by
  subst e; subst hg
  exact va_astq (r := (RX7, TX7, 11)) h.x h.b h.k hP hD hS 1 4 (k + 2) 7 rfl rfl hv rfl hin d (fun H1 lc1 hP1 hD1 hS1 => kk H1 lc1 ls hP1 hD1 hS1 hl)
theorem n_iinc (p : Nat) (L2 : List (Nat × Value)) (h : NH K own cc fr lo mc ms z) {i j n : Nat} {v : Int} {x y : Int32} (d : decode cc pc = .ok (.iinc i v, 3)) (e : p = pc + 3) (hj : L[j]? = some (i, .int x)) (hk : kn K = n) (hn : i < n) (hy : x + Int32.ofInt v = y) (hL : (i, Value.int y) :: L.filter (fun q => !(q.1 == i) && !(q.1 + 1 == i && q.2.category == 2)) = L2) (kk : VN K ws cs sl p L2 st) : VN K ws cs sl pc L st := fun H lc ls hP hD hS hl => by
  subst e; subst hk; subst hy
  exact lv_iinc h.x h.b d hl hj rfl hn hL (fun ls2 hl2 => kk H lc ls2 hP hD hS hl2)
theorem n_cs {c : Nat × va_E} {P : va_W} (kk : VN K (c :: (R ++ P)) cs sl pc L st) : VN K ((c :: R) ++ P) cs sl pc L st := kk
/-- the row of the second cell, by what it holds -/
theorem n_cg1 {c0 : Nat × va_E} {r N : Nat} {cA : ClassId} {f g : Nat → Option Nat} (h : ∀ j, j < N → f j = g j) (kk : VN K (c0 :: (r, .inl (cA, N, .inr (.inr (.inr (.inr g))))) :: R) cs sl pc L st) : VN K (c0 :: (r, .inl (cA, N, .inr (.inr (.inr (.inr f))))) :: R) cs sl pc L st := fun H lc ls hP hD hS hl => by
  have hP2 : va_P (kG K).1 vwCl (c0 :: (r, .inl (cA, N, .inr (.inr (.inr (.inr g))))) :: R) H := set_P (ws := c0 :: (r, .inl (cA, N, .inr (.inr (.inr (.inr f))))) :: R) (q := 1) (a := r) (e := .inl (cA, N, .inr (.inr (.inr (.inr f))))) (e2 := .inl (cA, N, .inr (.inr (.inr (.inr g))))) (by simp) hP (fun y => by
    have y : H[r]? = some (arrV cA N (fun j => va_rf (f j))) := y
    show H[r]? = some (arrV cA N (fun j => va_rf (g j)))
    rw [y]
    exact congrArg some (arrV_cg (fun j hj => congrArg va_rf (h j hj))))
  have hD2 : va_D (kA K) (c0 :: (r, .inl (cA, N, .inr (.inr (.inr (.inr g))))) :: R) := set_D (ws := c0 :: (r, .inl (cA, N, .inr (.inr (.inr (.inr f))))) :: R) (q := 1) (a := r) (e := .inl (cA, N, .inr (.inr (.inr (.inr f))))) (e2 := .inl (cA, N, .inr (.inr (.inr (.inr g))))) (by simp) hD
  exact kk H lc ls hP2 hD2 hS hl
theorem n_astore_n (p : Nat) (L2 : List (Nat × Value)) (h : NH K own cc fr lo mc ms z) {k : Fin 4} {i n x : Nat} (d : decode cc pc = .ok (.astore_n k, 1)) (e : p = pc + 1) (hi : (k : Nat) = i) (hk : kn K = n) (hn : i < n) (hL : (i, Value.ref x) :: L.filter (fun q => !(q.1 == i) && !(q.1 + 1 == i && q.2.category == 2)) = L2) (kk : VN K ws cs sl p L2 st) : VN K ws cs sl pc L (.ref x :: st) := fun H lc ls hP hD hS hl => by
  subst e; subst hk
  exact lv_astore_n h.x h.b d hi hl hn hL (fun ls2 hl2 => kk H lc ls2 hP hD hS hl2)
theorem n_istore (p : Nat) (L2 : List (Nat × Value)) (h : NH K own cc fr lo mc ms z) {i n : Nat} {x : Int32} (d : decode cc pc = .ok (.istore i, 2)) (e : p = pc + 2) (hk : kn K = n) (hn : i < n) (hL : (i, Value.int x) :: L.filter (fun q => !(q.1 == i) && !(q.1 + 1 == i && q.2.category == 2)) = L2) (kk : VN K ws cs sl p L2 st) : VN K ws cs sl pc L (.int x :: st) := fun H lc ls hP hD hS hl => by
  subst e; subst hk
  exact lv_istore h.x h.b d hl hn hL (fun ls2 hl2 => kk H lc ls2 hP hD hS hl2)
end RN
