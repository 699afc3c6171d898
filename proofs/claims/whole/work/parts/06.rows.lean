/-! ===== the judgement ===== -/
abbrev VC : Type := (Program × Launch × Env × Room × State × MethodId × Array Value × List Frame × Method × Code) × (State → Prop) × (Nat → Prop) × Nat × Nat × Nat × Gx
abbrev kp (K : VC) : Program := K.1.1
abbrev kl (K : VC) : Launch := K.1.2.1
abbrev ke (K : VC) : Env := K.1.2.2.1
abbrev kR (K : VC) : Room := K.1.2.2.2.1
abbrev kS (K : VC) : State := K.1.2.2.2.2.1
abbrev km (K : VC) : MethodId := K.1.2.2.2.2.2.1
abbrev ka (K : VC) : Array Value := K.1.2.2.2.2.2.2.1
abbrev kb (K : VC) : List Frame := K.1.2.2.2.2.2.2.2.1
abbrev kt (K : VC) : Method := K.1.2.2.2.2.2.2.2.2.1
abbrev kc (K : VC) : Code := K.1.2.2.2.2.2.2.2.2.2
abbrev kQ (K : VC) : State → Prop := K.2.1
abbrev kA (K : VC) : Nat → Prop := K.2.2.1
abbrev kn (K : VC) : Nat := K.2.2.2.1
abbrev kC (K : VC) : Nat := K.2.2.2.2.1
abbrev kT (K : VC) : Nat := K.2.2.2.2.2.1
abbrev kG (K : VC) : Gx := K.2.2.2.2.2.2
abbrev WK (K : VC) (H : Heap) (locs : List Loc) (g : JFrame) : Prop := W (kp K) (kl K) (ke K) (kR K) (kS K) (km K) (ka K) (kb K) (kt K) (kc K) H locs (kC K) (kT K) (kQ K) g
def V (K : VC) (al : Al) (w : Wd) (pc : Nat) (L : List (Nat × Value)) (st : List Value) : Prop :=
  ∀ (H : Heap) (locs : List Loc) (ls : Array Slot), va_P (kG K).1 vwCl (wsW (kG K) al w) H → va_D (kA K) (wsW (kG K) al w) → va_S (kA K) (kS K).heap H locs → lv_has ls (kn K) L → WK K H locs (F0 (km K) pc ls st)
/-- the words of the texts, and of the compact strings -/
def stx (i : Nat) : String := match i with
  | 0 => "disk" | 1 => "band" | 2 => "has" | 3 => "write" | 4 => "unsure" | 5 => "read" | 6 => "overlap" | 7 => "log" | 8 => "oldest" | _ => "fullest"
def sxi (i : Nat) : Nat := match i with
  | 0 => 73 | 1 => 82 | 2 => 87 | 3 => 97 | 4 => 102 | 5 => 111 | 6 => 122 | 7 => 135 | 8 => 140 | _ => 144
def smi (i : Nat) : Nat := match i with
  | 0 => 158 | 1 => 163 | 2 => 168 | 3 => 173 | 4 => 178 | 5 => 183 | 6 => 187 | 7 => 192 | 8 => 194 | _ => 196
def slen : List Nat := [4, 4, 3, 5, 6, 4, 7, 3, 6, 7]
def sbyt : List (List Int32) := [[100, 105, 115, 107], [98, 97, 110, 100], [104, 97, 115], [119, 114, 105, 116, 101], [117, 110, 115, 117, 114, 101], [114, 101, 97, 100], [111, 118, 101, 114, 108, 97, 112], [108, 111, 103], [111, 108, 100, 101, 115, 116], [102, 117, 108, 108, 101, 115, 116]]
def SK (G : Gx) (A : Nat → Prop) (U : State) (H : Heap) : Prop := vk_S 10 slen sbyt G.2.2.1 G.2.2.2.1 A U H ∧ (∀ i, i < 10 → vk_R RX4 (sxi i) (stx i) (G.2.2.1 i) U) ∧ (∀ i, i < 10 → vk_R RX11 (smi i) (stx i) (G.2.2.1 i) U) ∧ (va_Z "java/lang/String" "COMPACT_STRINGS" "Z" (.int 1) A U H ∧ va_Zq "jdk/internal/util/Preconditions" "SIOOBE_FORMATTER" "Ljava/util/function/BiFunction;" A U H) ∧ ∀ w ∈ nst, va_Nw w U
theorem SK.same {G : Gx} {A : Nat → Prop} {u U : State} {H : Heap} (hv : U.vm = u.vm) (h : SK G A u H) : SK G A U H :=
  have ha : u.vm.Alike U.vm := by rw [hv]; exact Vm.Alike.refl _
  ⟨h.1.moved ha, fun i hi => (h.2.1 i hi).same hv, fun i hi => (h.2.2.1 i hi).same hv, ⟨h.2.2.2.1.1.moved ha, h.2.2.2.1.2.moved ha⟩, fun w hw => nst_same hw hv.symm (h.2.2.2.2 w hw)⟩
theorem SK.call {G : Gx} {A B : Nat → Prop} {s U : State} {H : Heap} (hW : s.WarmedH U.vm) (hq : ∀ a : Nat, a < s.heap.size → ¬ A a → H[a]? = s.heap[a]?) (hAB : ∀ q, B q → A q) (h : SK G A s s.heap) : SK G B U H :=
  ⟨((h.1.kept hq).moved hW.alike).narrow hAB, fun i hi => (h.2.1 i hi).warm hW, fun i hi => (h.2.2.1 i hi).warm hW, ⟨((h.2.2.2.1.1.kept hq).moved hW.alike).narrow hAB, ((h.2.2.2.1.2.kept hq).moved hW.alike).narrow hAB⟩, fun w hw => nst_warm hw hW (h.2.2.2.2 w hw)⟩
def VH (K : VC) (own : String) (cc : ByteArray) (fr lo : Nat) : Prop :=
  (kp K).tables.exec = Jvm.exec ∧ (kc K).code = cc ∧ (kc K).maxLocals = kn K ∧ (kS K).vm.findClass own = some (km K).cls ∧ (∀ w ∈ big, w.before (ka K) (kS K) = true) ∧ va_K (kG K).1 vwCl (tysG (kG K)) (kS K) ∧ (∀ q, (kS K).heap.size ≤ q → kA K q) ∧ (kt K).locks = false ∧ (kR K).frames = fr ∧ (kR K).locals = lo ∧ kC K ≤ (kR K).cells ∧ kT K ≤ (kR K).slots ∧ SK (kG K) (kA K) (kS K) (kS K).heap
theorem VH.x {K : VC} {own : String} {cc : ByteArray} {fr lo : Nat} (h : VH K own cc fr lo) : (kp K).tables.exec = Jvm.exec := h.1
theorem VH.b {K : VC} {own : String} {cc : ByteArray} {fr lo : Nat} (h : VH K own cc fr lo) : (kc K).code = cc := h.2.1
theorem VH.ml {K : VC} {own : String} {cc : ByteArray} {fr lo : Nat} (h : VH K own cc fr lo) : (kc K).maxLocals = kn K := h.2.2.1
theorem VH.own {K : VC} {own : String} {cc : ByteArray} {fr lo : Nat} (h : VH K own cc fr lo) : (kS K).vm.findClass own = some (km K).cls := h.2.2.2.1
theorem VH.ts {K : VC} {own : String} {cc : ByteArray} {fr lo : Nat} (h : VH K own cc fr lo) : ∀ w ∈ big, w.before (ka K) (kS K) = true := h.2.2.2.2.1
theorem VH.k {K : VC} {own : String} {cc : ByteArray} {fr lo : Nat} (h : VH K own cc fr lo) : va_K (kG K).1 vwCl (tysG (kG K)) (kS K) := h.2.2.2.2.2.1
theorem VH.a {K : VC} {own : String} {cc : ByteArray} {fr lo : Nat} (h : VH K own cc fr lo) : ∀ q, (kS K).heap.size ≤ q → kA K q := h.2.2.2.2.2.2.1
theorem VH.lk {K : VC} {own : String} {cc : ByteArray} {fr lo : Nat} (h : VH K own cc fr lo) : (kt K).locks = false := h.2.2.2.2.2.2.2.1
theorem VH.fr {K : VC} {own : String} {cc : ByteArray} {fr lo : Nat} (h : VH K own cc fr lo) : (kR K).frames = fr := h.2.2.2.2.2.2.2.2.1
theorem VH.lo {K : VC} {own : String} {cc : ByteArray} {fr lo : Nat} (h : VH K own cc fr lo) : (kR K).locals = lo := h.2.2.2.2.2.2.2.2.2.1
theorem VH.ce {K : VC} {own : String} {cc : ByteArray} {fr lo : Nat} (h : VH K own cc fr lo) : kC K ≤ (kR K).cells := h.2.2.2.2.2.2.2.2.2.2.1
theorem VH.sl {K : VC} {own : String} {cc : ByteArray} {fr lo : Nat} (h : VH K own cc fr lo) : kT K ≤ (kR K).slots := h.2.2.2.2.2.2.2.2.2.2.2.1
theorem VH.sk {K : VC} {own : String} {cc : ByteArray} {fr lo : Nat} (h : VH K own cc fr lo) : SK (kG K) (kA K) (kS K) (kS K).heap := h.2.2.2.2.2.2.2.2.2.2.2.2
section RW
variable {K : VC} {own : String} {cc : ByteArray} {fr lo : Nat} {al : Al} {w : Wd} {pc : Nat} {L : List (Nat × Value)} {st : List Value}
theorem r_iconst (p : Nat) (h : VH K own cc fr lo) {n : Int} {v : Int32} (d : decode cc pc = .ok (.iconst n, 1)) (e : p = pc + 1) (hv : Int32.ofInt n = v) (kk : V K al w p L (.int v :: st)) : V K al w pc L (st) := fun H lc ls hP hD hS hl => by
  subst e
  exact lv_iconst h.x h.b d hv (kk H lc ls hP hD hS hl)
theorem r_bipush (p : Nat) (h : VH K own cc fr lo) {n : Int} {v : Int32} (d : decode cc pc = .ok (.bipush n, 2)) (e : p = pc + 2) (hv : (Int8.ofInt n).toInt32 = v) (kk : V K al w p L (.int v :: st)) : V K al w pc L (st) := fun H lc ls hP hD hS hl => by
  subst e
  exact lv_bipush h.x h.b d hv (kk H lc ls hP hD hS hl)
theorem r_sipush (p : Nat) (h : VH K own cc fr lo) {n : Int} {v : Int32} (d : decode cc pc = .ok (.sipush n, 3)) (e : p = pc + 3) (hv : (Int16.ofInt n).toInt32 = v) (kk : V K al w p L (.int v :: st)) : V K al w pc L (st) := fun H lc ls hP hD hS hl => by
  subst e
  exact lv_sipush h.x h.b d hv (kk H lc ls hP hD hS hl)
theorem r_lconst (p : Nat) (h : VH K own cc fr lo) {n : Fin 2} {v : Int64} (d : decode cc pc = .ok (.lconst n, 1)) (e : p = pc + 1) (hv : Int64.ofNat (n : Nat) = v) (kk : V K al w p L (.long v :: st)) : V K al w pc L (st) := fun H lc ls hP hD hS hl => by
  subst e
  exact lv_lconst h.x h.b d hv (kk H lc ls hP hD hS hl)
theorem r_iload_n (p : Nat) (h : VH K own cc fr lo) {k : Fin 4} {i : Nat} {x : Int32} (d : decode cc pc = .ok (.iload_n k, 1)) (e : p = pc + 1) (j : Nat) (hi : (k : Nat) = i) (hj : L[j]? = some (i, .int x)) (kk : V K al w p L (.int x :: st)) : V K al w pc L (st) := fun H lc ls hP hD hS hl => by
  subst e
  exact lv_iload_n h.x h.b d hi (lv_at hl j hj) (kk H lc ls hP hD hS hl)
theorem r_iload (p : Nat) (h : VH K own cc fr lo) {i : Nat} {x : Int32} (d : decode cc pc = .ok (.iload i, 2)) (e : p = pc + 2) (j : Nat) (hj : L[j]? = some (i, .int x)) (kk : V K al w p L (.int x :: st)) : V K al w pc L (st) := fun H lc ls hP hD hS hl => by
  subst e
  exact lv_iload h.x h.b d (lv_at hl j hj) (kk H lc ls hP hD hS hl)
theorem r_lload_n (p : Nat) (h : VH K own cc fr lo) {k : Fin 4} {i : Nat} {x : Int64} (d : decode cc pc = .ok (.lload_n k, 1)) (e : p = pc + 1) (j : Nat) (hi : (k : Nat) = i) (hj : L[j]? = some (i, .long x)) (kk : V K al w p L (.long x :: st)) : V K al w pc L (st) := fun H lc ls hP hD hS hl => by
  subst e
  exact lv_lload_n h.x h.b d hi (lv_at hl j hj) (kk H lc ls hP hD hS hl)
theorem r_lload (p : Nat) (h : VH K own cc fr lo) {i : Nat} {x : Int64} (d : decode cc pc = .ok (.lload i, 2)) (e : p = pc + 2) (j : Nat) (hj : L[j]? = some (i, .long x)) (kk : V K al w p L (.long x :: st)) : V K al w pc L (st) := fun H lc ls hP hD hS hl => by
  subst e
  exact lv_lload h.x h.b d (lv_at hl j hj) (kk H lc ls hP hD hS hl)
theorem r_aload_n (p : Nat) (h : VH K own cc fr lo) {k : Fin 4} {i : Nat} {x : Nat} (d : decode cc pc = .ok (.aload_n k, 1)) (e : p = pc + 1) (j : Nat) (hi : (k : Nat) = i) (hj : L[j]? = some (i, .ref x)) (kk : V K al w p L (.ref x :: st)) : V K al w pc L (st) := fun H lc ls hP hD hS hl => by
  subst e
  exact lv_aload_n h.x h.b d hi (lv_at hl j hj) (kk H lc ls hP hD hS hl)
theorem r_aload (p : Nat) (h : VH K own cc fr lo) {i : Nat} {x : Nat} (d : decode cc pc = .ok (.aload i, 2)) (e : p = pc + 2) (j : Nat) (hj : L[j]? = some (i, .ref x)) (kk : V K al w p L (.ref x :: st)) : V K al w pc L (st) := fun H lc ls hP hD hS hl => by
  subst e
  exact lv_aload h.x h.b d (lv_at hl j hj) (kk H lc ls hP hD hS hl)
theorem r_aload_nN (p : Nat) (h : VH K own cc fr lo) {k : Fin 4} {i : Nat} (d : decode cc pc = .ok (.aload_n k, 1)) (e : p = pc + 1) (j : Nat) (hi : (k : Nat) = i) (hj : L[j]? = some (i, .null)) (kk : V K al w p L (.null :: st)) : V K al w pc L (st) := fun H lc ls hP hD hS hl => by
  subst e
  exact lv_aload_nN h.x h.b d hi (lv_at hl j hj) (kk H lc ls hP hD hS hl)
theorem r_iadd (p : Nat) (h : VH K own cc fr lo) {x y : Int32} (d : decode cc pc = .ok (.iadd, 1)) (e : p = pc + 1)  (kk : V K al w p L (.int (x + y) :: st)) : V K al w pc L (.int y :: .int x :: st) := fun H lc ls hP hD hS hl => by
  subst e
  exact lv_iadd h.x h.b d  (kk H lc ls hP hD hS hl)
theorem r_isub (p : Nat) (h : VH K own cc fr lo) {x y : Int32} (d : decode cc pc = .ok (.isub, 1)) (e : p = pc + 1)  (kk : V K al w p L (.int (x - y) :: st)) : V K al w pc L (.int y :: .int x :: st) := fun H lc ls hP hD hS hl => by
  subst e
  exact lv_isub h.x h.b d  (kk H lc ls hP hD hS hl)
theorem r_imul (p : Nat) (h : VH K own cc fr lo) {x y : Int32} (d : decode cc pc = .ok (.imul, 1)) (e : p = pc + 1)  (kk : V K al w p L (.int (x * y) :: st)) : V K al w pc L (.int y :: .int x :: st) := fun H lc ls hP hD hS hl => by
  subst e
  exact lv_imul h.x h.b d  (kk H lc ls hP hD hS hl)
theorem r_iand (p : Nat) (h : VH K own cc fr lo) {x y : Int32} (d : decode cc pc = .ok (.iand, 1)) (e : p = pc + 1)  (kk : V K al w p L (.int (x &&& y) :: st)) : V K al w pc L (.int y :: .int x :: st) := fun H lc ls hP hD hS hl => by
  subst e
  exact lv_iand h.x h.b d  (kk H lc ls hP hD hS hl)
theorem r_ior (p : Nat) (h : VH K own cc fr lo) {x y : Int32} (d : decode cc pc = .ok (.ior, 1)) (e : p = pc + 1)  (kk : V K al w p L (.int (x ||| y) :: st)) : V K al w pc L (.int y :: .int x :: st) := fun H lc ls hP hD hS hl => by
  subst e
  exact lv_ior h.x h.b d  (kk H lc ls hP hD hS hl)
theorem r_ixor (p : Nat) (h : VH K own cc fr lo) {x y : Int32} (d : decode cc pc = .ok (.ixor, 1)) (e : p = pc + 1)  (kk : V K al w p L (.int (x ^^^ y) :: st)) : V K al w pc L (.int y :: .int x :: st) := fun H lc ls hP hD hS hl => by
  subst e
  exact lv_ixor h.x h.b d  (kk H lc ls hP hD hS hl)
theorem r_ishl (p : Nat) (h : VH K own cc fr lo) {x y : Int32} (d : decode cc pc = .ok (.ishl, 1)) (e : p = pc + 1)  (kk : V K al w p L (.int (x <<< (y &&& 31)) :: st)) : V K al w pc L (.int y :: .int x :: st) := fun H lc ls hP hD hS hl => by
  subst e
  exact lv_ishl h.x h.b d  (kk H lc ls hP hD hS hl)
theorem r_ishr (p : Nat) (h : VH K own cc fr lo) {x y : Int32} (d : decode cc pc = .ok (.ishr, 1)) (e : p = pc + 1)  (kk : V K al w p L (.int (x >>> (y &&& 31)) :: st)) : V K al w pc L (.int y :: .int x :: st) := fun H lc ls hP hD hS hl => by
  subst e
  exact lv_ishr h.x h.b d  (kk H lc ls hP hD hS hl)
theorem r_idiv (p : Nat) (h : VH K own cc fr lo) {x y : Int32} (d : decode cc pc = .ok (.idiv, 1)) (e : p = pc + 1) (hn : ¬ y = 0) (kk : V K al w p L (.int (x / y) :: st)) : V K al w pc L (.int y :: .int x :: st) := fun H lc ls hP hD hS hl => by
  subst e
  exact lv_idiv h.x h.b d hn (kk H lc ls hP hD hS hl)
theorem r_irem (p : Nat) (h : VH K own cc fr lo) {x y : Int32} (d : decode cc pc = .ok (.irem, 1)) (e : p = pc + 1) (hn : ¬ y = 0) (kk : V K al w p L (.int (x - x / y * y) :: st)) : V K al w pc L (.int y :: .int x :: st) := fun H lc ls hP hD hS hl => by
  subst e
  exact lv_irem h.x h.b d hn (kk H lc ls hP hD hS hl)
theorem r_ladd (p : Nat) (h : VH K own cc fr lo) {x y : Int64} (d : decode cc pc = .ok (.ladd, 1)) (e : p = pc + 1)  (kk : V K al w p L (.long (x + y) :: st)) : V K al w pc L (.long y :: .long x :: st) := fun H lc ls hP hD hS hl => by
  subst e
  exact lv_ladd h.x h.b d  (kk H lc ls hP hD hS hl)
theorem r_lsub (p : Nat) (h : VH K own cc fr lo) {x y : Int64} (d : decode cc pc = .ok (.lsub, 1)) (e : p = pc + 1)  (kk : V K al w p L (.long (x - y) :: st)) : V K al w pc L (.long y :: .long x :: st) := fun H lc ls hP hD hS hl => by
  subst e
  exact lv_lsub h.x h.b d  (kk H lc ls hP hD hS hl)
theorem r_lmul (p : Nat) (h : VH K own cc fr lo) {x y : Int64} (d : decode cc pc = .ok (.lmul, 1)) (e : p = pc + 1)  (kk : V K al w p L (.long (x * y) :: st)) : V K al w pc L (.long y :: .long x :: st) := fun H lc ls hP hD hS hl => by
  subst e
  exact lv_lmul h.x h.b d  (kk H lc ls hP hD hS hl)
theorem r_ldiv (p : Nat) (h : VH K own cc fr lo) {x y : Int64} (d : decode cc pc = .ok (.ldiv, 1)) (e : p = pc + 1) (hn : ¬ y = 0) (kk : V K al w p L (.long (x / y) :: st)) : V K al w pc L (.long y :: .long x :: st) := fun H lc ls hP hD hS hl => by
  subst e
  exact lv_ldiv h.x h.b d hn (kk H lc ls hP hD hS hl)
theorem r_lrem (p : Nat) (h : VH K own cc fr lo) {x y : Int64} (d : decode cc pc = .ok (.lrem, 1)) (e : p = pc + 1) (hn : ¬ y = 0) (kk : V K al w p L (.long (x - x / y * y) :: st)) : V K al w pc L (.long y :: .long x :: st) := fun H lc ls hP hD hS hl => by
  subst e
  exact lv_lrem h.x h.b d hn (kk H lc ls hP hD hS hl)
theorem r_lcmp (p : Nat) (h : VH K own cc fr lo) {x y : Int64} (d : decode cc pc = .ok (.lcmp, 1)) (e : p = pc + 1)  (kk : V K al w p L (.int (lg_cmp x y) :: st)) : V K al w pc L (.long y :: .long x :: st) := fun H lc ls hP hD hS hl => by
  subst e
  exact W.lcmp h.x h.b d  (kk H lc ls hP hD hS hl)
theorem r_i2l (p : Nat) (h : VH K own cc fr lo) {x : Int32} (d : decode cc pc = .ok (.i2l, 1)) (e : p = pc + 1)  (kk : V K al w p L (.long x.toInt64 :: st)) : V K al w pc L (.int x :: st) := fun H lc ls hP hD hS hl => by
  subst e
  exact lv_i2l h.x h.b d rfl (kk H lc ls hP hD hS hl)
theorem r_l2i (p : Nat) (h : VH K own cc fr lo) {x : Int64} (d : decode cc pc = .ok (.l2i, 1)) (e : p = pc + 1)  (kk : V K al w p L (.int x.toInt32 :: st)) : V K al w pc L (.long x :: st) := fun H lc ls hP hD hS hl => by
  subst e
  exact lv_l2i h.x h.b d rfl (kk H lc ls hP hD hS hl)
theorem r_i2b (p : Nat) (h : VH K own cc fr lo) {x : Int32} (d : decode cc pc = .ok (.i2b, 1)) (e : p = pc + 1)  (kk : V K al w p L (.int x.toInt8.toInt32 :: st)) : V K al w pc L (.int x :: st) := fun H lc ls hP hD hS hl => by
  subst e
  exact lv_i2b h.x h.b d rfl (kk H lc ls hP hD hS hl)
theorem r_dup (p : Nat) (h : VH K own cc fr lo) {va : Value} (d : decode cc pc = .ok (.dup, 1)) (e : p = pc + 1) (hc : va.category = 1) (kk : V K al w p L (va :: va :: st)) : V K al w pc L (va :: st) := fun H lc ls hP hD hS hl => by
  subst e
  exact lv_dup h.x h.b d hc (kk H lc ls hP hD hS hl)
theorem r_pop (p : Nat) (h : VH K own cc fr lo) {va : Value} (d : decode cc pc = .ok (.pop, 1)) (e : p = pc + 1) (hc : va.category = 1) (kk : V K al w p L (st)) : V K al w pc L (va :: st) := fun H lc ls hP hD hS hl => by
  subst e
  exact lv_pop h.x h.b d hc (kk H lc ls hP hD hS hl)
theorem r_dup2 (p : Nat) (h : VH K own cc fr lo) {va vb : Value} (d : decode cc pc = .ok (.dup2, 1)) (e : p = pc + 1) (hc : va.category = 1) (hc2 : vb.category = 1) (kk : V K al w p L (va :: vb :: va :: vb :: st)) : V K al w pc L (va :: vb :: st) := fun H lc ls hP hD hS hl => by
  subst e
  exact lv_dup2_11 h.x h.b d hc hc2 (kk H lc ls hP hD hS hl)
theorem r_null (p : Nat) (h : VH K own cc fr lo)  (d : decode cc pc = .ok (.aconst_null, 1)) (e : p = pc + 1)  (kk : V K al w p L (.null :: st)) : V K al w pc L (st) := fun H lc ls hP hD hS hl => by
  subst e
  exact lv_null h.x h.b d  (kk H lc ls hP hD hS hl)
theorem r_ifnonnull0 (p : Nat) (h : VH K own cc fr lo) {off : Int} (d : decode cc pc = .ok (.ifnonnull off, 3)) (e : p = pc + 3)  (kk : V K al w p L (st)) : V K al w pc L (.null :: st) := fun H lc ls hP hD hS hl => by
  subst e
  exact lv_ifnonnullN h.x h.b d  (kk H lc ls hP hD hS hl)
theorem r_ifnull0 (p : Nat) (h : VH K own cc fr lo) {off : Int} {x : Nat} (d : decode cc pc = .ok (.ifnull off, 3)) (e : p = pc + 3)  (kk : V K al w p L (st)) : V K al w pc L (.ref x :: st) := fun H lc ls hP hD hS hl => by
  subst e
  exact lv_ifnull h.x h.b d  (kk H lc ls hP hD hS hl)
theorem r_ifnonnull1 (p : Nat) (h : VH K own cc fr lo) {x : Nat} {off : Int} (d : decode cc pc = .ok (.ifnonnull off, 3)) (e : (pc : Int) + off = (p : Int)) (kk : V K al w p L (st)) : V K al w pc L (.ref x :: st) := fun H lc ls hP hD hS hl =>
  lv_ifnonnull h.x h.b d e (kk H lc ls hP hD hS hl)
theorem r_ifnull1 (p : Nat) (h : VH K own cc fr lo) {x : Nat} {off : Int} (d : decode cc pc = .ok (.ifnull off, 3)) (e : (pc : Int) + off = (p : Int)) (kk : V K al w p L (st)) : V K al w pc L (.null :: st) := fun H lc ls hP hD hS hl =>
  lv_ifnullN h.x h.b d e (kk H lc ls hP hD hS hl)
theorem r_goto (p : Nat) (h : VH K own cc fr lo) {x : Nat} {off : Int} (d : decode cc pc = .ok (.goto off, 3)) (e : (pc : Int) + off = (p : Int)) (kk : V K al w p L (st)) : V K al w pc L (st) := fun H lc ls hP hD hS hl =>
  lv_goto h.x h.b d e (kk H lc ls hP hD hS hl)
theorem r_istore_n (p : Nat) (L2 : List (Nat × Value)) (h : VH K own cc fr lo) {k : Fin 4} {i n : Nat} {x y : Int32} (d : decode cc pc = .ok (.istore_n k, 1)) (e : p = pc + 1) (hi : (k : Nat) = i) (hk : kn K = n) (hn : i < n) (hy : y = x) (hL : (i, Value.int y) :: L.filter (fun q => !(q.1 == i) && !(q.1 + 1 == i && q.2.category == 2)) = L2) (kk : V K al w p L2 st) : V K al w pc L (.int x :: st) := fun H lc ls hP hD hS hl => by
  subst e; subst hy; subst hk
  exact lv_istore_n h.x h.b d hi hl hn hL (fun ls2 hl2 => kk H lc ls2 hP hD hS hl2)
theorem r_istore (p : Nat) (L2 : List (Nat × Value)) (h : VH K own cc fr lo) {i n : Nat} {x y : Int32} (d : decode cc pc = .ok (.istore i, 2)) (e : p = pc + 2) (hk : kn K = n) (hn : i < n) (hy : y = x) (hL : (i, Value.int y) :: L.filter (fun q => !(q.1 == i) && !(q.1 + 1 == i && q.2.category == 2)) = L2) (kk : V K al w p L2 st) : V K al w pc L (.int x :: st) := fun H lc ls hP hD hS hl => by
  subst e; subst hy; subst hk
  exact lv_istore h.x h.b d hl hn hL (fun ls2 hl2 => kk H lc ls2 hP hD hS hl2)
theorem r_astore_n (p : Nat) (L2 : List (Nat × Value)) (h : VH K own cc fr lo) {k : Fin 4} {i n : Nat} {x y : Nat} (d : decode cc pc = .ok (.astore_n k, 1)) (e : p = pc + 1) (hi : (k : Nat) = i) (hk : kn K = n) (hn : i < n) (hy : y = x) (hL : (i, Value.ref y) :: L.filter (fun q => !(q.1 == i) && !(q.1 + 1 == i && q.2.category == 2)) = L2) (kk : V K al w p L2 st) : V K al w pc L (.ref x :: st) := fun H lc ls hP hD hS hl => by
  subst e; subst hy; subst hk
  exact lv_astore_n h.x h.b d hi hl hn hL (fun ls2 hl2 => kk H lc ls2 hP hD hS hl2)
theorem r_astore (p : Nat) (L2 : List (Nat × Value)) (h : VH K own cc fr lo) {i n : Nat} {x y : Nat} (d : decode cc pc = .ok (.astore i, 2)) (e : p = pc + 2) (hk : kn K = n) (hn : i < n) (hy : y = x) (hL : (i, Value.ref y) :: L.filter (fun q => !(q.1 == i) && !(q.1 + 1 == i && q.2.category == 2)) = L2) (kk : V K al w p L2 st) : V K al w pc L (.ref x :: st) := fun H lc ls hP hD hS hl => by
  subst e; subst hy; subst hk
  exact lv_astore h.x h.b d hl hn hL (fun ls2 hl2 => kk H lc ls2 hP hD hS hl2)
theorem r_lstore_n (p : Nat) (L2 : List (Nat × Value)) (h : VH K own cc fr lo) {k : Fin 4} {i n : Nat} {x y : Int64} (d : decode cc pc = .ok (.lstore_n k, 1)) (e : p = pc + 1) (hi : (k : Nat) = i) (hk : kn K = n) (hn : i + 1 < n) (hy : y = x) (hL : (i, Value.long y) :: L.filter (fun q => !(q.1 == i) && (!(q.1 == i + 1) && !(q.1 + 1 == i && q.2.category == 2))) = L2) (kk : V K al w p L2 st) : V K al w pc L (.long x :: st) := fun H lc ls hP hD hS hl => by
  subst e; subst hy; subst hk
  exact lv_lstore_n h.x h.b d hi hl hn hL (fun ls2 hl2 => kk H lc ls2 hP hD hS hl2)
theorem r_lstore (p : Nat) (L2 : List (Nat × Value)) (h : VH K own cc fr lo) {i n : Nat} {x y : Int64} (d : decode cc pc = .ok (.lstore i, 2)) (e : p = pc + 2) (hk : kn K = n) (hn : i + 1 < n) (hy : y = x) (hL : (i, Value.long y) :: L.filter (fun q => !(q.1 == i) && (!(q.1 == i + 1) && !(q.1 + 1 == i && q.2.category == 2))) = L2) (kk : V K al w p L2 st) : V K al w pc L (.long x :: st) := fun H lc ls hP hD hS hl => by
  subst e; subst hy; subst hk
  exact lv_lstore h.x h.b d hl hn hL (fun ls2 hl2 => kk H lc ls2 hP hD hS hl2)
theorem r_astore_nN (p : Nat) (L2 : List (Nat × Value)) (h : VH K own cc fr lo) {k : Fin 4} {i n : Nat} (d : decode cc pc = .ok (.astore_n k, 1)) (e : p = pc + 1) (hi : (k : Nat) = i) (hk : kn K = n) (hn : i < n) (hL : (i, Value.null) :: L.filter (fun q => !(q.1 == i) && !(q.1 + 1 == i && q.2.category == 2)) = L2) (kk : V K al w p L2 st) : V K al w pc L (.null :: st) := fun H lc ls hP hD hS hl => by
  subst e; subst hk
  exact lv_astore_nN h.x h.b d hi hl hn hL (fun ls2 hl2 => kk H lc ls2 hP hD hS hl2)
theorem r_iinc (p : Nat) (L2 : List (Nat × Value)) (h : VH K own cc fr lo) {i j n : Nat} {m : Int} {x y : Int32} (d : decode cc pc = .ok (.iinc i m, 3)) (e : p = pc + 3) (hk : kn K = n) (hn : i < n) (hj : L[j]? = some (i, .int x)) (hy : y = x + Int32.ofInt m) (hL : (i, Value.int y) :: L.filter (fun q => !(q.1 == i) && !(q.1 + 1 == i && q.2.category == 2)) = L2) (kk : V K al w p L2 st) : V K al w pc L st := fun H lc ls hP hD hS hl => by
  subst e; subst hk
  exact lv_iinc h.x h.b d hl hj hy.symm hn hL (fun ls2 hl2 => kk H lc ls2 hP hD hS hl2)
theorem r_if_eq (p q : Nat) (h : VH K own cc fr lo) {x : Int32} {off : Int} (d : decode cc pc = .ok (.ifCond .eq off, 3)) (e : (pc : Int) + off = (p : Int)) (e2 : q = pc + 3) (kt : x = 0 → V K al w p L st) (kf : ¬ (x = 0) → V K al w q L st) : V K al w pc L (.int x :: st) := fun H lc ls hP hD hS hl => by
  subst e2
  exact lv_if_eq h.x h.b d e (fun z => kt z H lc ls hP hD hS hl) (fun z => kf z H lc ls hP hD hS hl)
theorem r_icmp_eq (p q : Nat) (h : VH K own cc fr lo) {x y : Int32} {off : Int} (d : decode cc pc = .ok (.if_icmp .eq off, 3)) (e : (pc : Int) + off = (p : Int)) (e2 : q = pc + 3) (kt : x = y → V K al w p L st) (kf : ¬ (x = y) → V K al w q L st) : V K al w pc L (.int y :: .int x :: st) := fun H lc ls hP hD hS hl => by
  subst e2
  exact lv_icmp_eq h.x h.b d e (fun z => kt z H lc ls hP hD hS hl) (fun z => kf z H lc ls hP hD hS hl)
theorem r_if_ne (p q : Nat) (h : VH K own cc fr lo) {x : Int32} {off : Int} (d : decode cc pc = .ok (.ifCond .ne off, 3)) (e : (pc : Int) + off = (p : Int)) (e2 : q = pc + 3) (kt : ¬ x = 0 → V K al w p L st) (kf : x = 0 → V K al w q L st) : V K al w pc L (.int x :: st) := fun H lc ls hP hD hS hl => by
  subst e2
  exact lv_if_ne h.x h.b d e (fun z => kt z H lc ls hP hD hS hl) (fun z => kf z H lc ls hP hD hS hl)
theorem r_icmp_ne (p q : Nat) (h : VH K own cc fr lo) {x y : Int32} {off : Int} (d : decode cc pc = .ok (.if_icmp .ne off, 3)) (e : (pc : Int) + off = (p : Int)) (e2 : q = pc + 3) (kt : ¬ x = y → V K al w p L st) (kf : x = y → V K al w q L st) : V K al w pc L (.int y :: .int x :: st) := fun H lc ls hP hD hS hl => by
  subst e2
  exact lv_icmp_ne h.x h.b d e (fun z => kt z H lc ls hP hD hS hl) (fun z => kf z H lc ls hP hD hS hl)
theorem r_if_lt (p q : Nat) (h : VH K own cc fr lo) {x : Int32} {off : Int} (d : decode cc pc = .ok (.ifCond .lt off, 3)) (e : (pc : Int) + off = (p : Int)) (e2 : q = pc + 3) (kt : x < 0 → V K al w p L st) (kf : ¬ (x < 0) → V K al w q L st) : V K al w pc L (.int x :: st) := fun H lc ls hP hD hS hl => by
  subst e2
  exact lv_if_lt h.x h.b d e (fun z => kt z H lc ls hP hD hS hl) (fun z => kf z H lc ls hP hD hS hl)
theorem r_icmp_lt (p q : Nat) (h : VH K own cc fr lo) {x y : Int32} {off : Int} (d : decode cc pc = .ok (.if_icmp .lt off, 3)) (e : (pc : Int) + off = (p : Int)) (e2 : q = pc + 3) (kt : x < y → V K al w p L st) (kf : ¬ (x < y) → V K al w q L st) : V K al w pc L (.int y :: .int x :: st) := fun H lc ls hP hD hS hl => by
  subst e2
  exact lv_icmp_lt h.x h.b d e (fun z => kt z H lc ls hP hD hS hl) (fun z => kf z H lc ls hP hD hS hl)
theorem r_if_ge (p q : Nat) (h : VH K own cc fr lo) {x : Int32} {off : Int} (d : decode cc pc = .ok (.ifCond .ge off, 3)) (e : (pc : Int) + off = (p : Int)) (e2 : q = pc + 3) (kt : 0 ≤ x → V K al w p L st) (kf : ¬ (0 ≤ x) → V K al w q L st) : V K al w pc L (.int x :: st) := fun H lc ls hP hD hS hl => by
  subst e2
  exact lv_if_ge h.x h.b d e (fun z => kt z H lc ls hP hD hS hl) (fun z => kf z H lc ls hP hD hS hl)
theorem r_icmp_ge (p q : Nat) (h : VH K own cc fr lo) {x y : Int32} {off : Int} (d : decode cc pc = .ok (.if_icmp .ge off, 3)) (e : (pc : Int) + off = (p : Int)) (e2 : q = pc + 3) (kt : y ≤ x → V K al w p L st) (kf : ¬ (y ≤ x) → V K al w q L st) : V K al w pc L (.int y :: .int x :: st) := fun H lc ls hP hD hS hl => by
  subst e2
  exact lv_icmp_ge h.x h.b d e (fun z => kt z H lc ls hP hD hS hl) (fun z => kf z H lc ls hP hD hS hl)
theorem r_if_gt (p q : Nat) (h : VH K own cc fr lo) {x : Int32} {off : Int} (d : decode cc pc = .ok (.ifCond .gt off, 3)) (e : (pc : Int) + off = (p : Int)) (e2 : q = pc + 3) (kt : 0 < x → V K al w p L st) (kf : ¬ (0 < x) → V K al w q L st) : V K al w pc L (.int x :: st) := fun H lc ls hP hD hS hl => by
  subst e2
  exact lv_if_gt h.x h.b d e (fun z => kt z H lc ls hP hD hS hl) (fun z => kf z H lc ls hP hD hS hl)
theorem r_icmp_gt (p q : Nat) (h : VH K own cc fr lo) {x y : Int32} {off : Int} (d : decode cc pc = .ok (.if_icmp .gt off, 3)) (e : (pc : Int) + off = (p : Int)) (e2 : q = pc + 3) (kt : y < x → V K al w p L st) (kf : ¬ (y < x) → V K al w q L st) : V K al w pc L (.int y :: .int x :: st) := fun H lc ls hP hD hS hl => by
  subst e2
  exact lv_icmp_gt h.x h.b d e (fun z => kt z H lc ls hP hD hS hl) (fun z => kf z H lc ls hP hD hS hl)
theorem r_if_le (p q : Nat) (h : VH K own cc fr lo) {x : Int32} {off : Int} (d : decode cc pc = .ok (.ifCond .le off, 3)) (e : (pc : Int) + off = (p : Int)) (e2 : q = pc + 3) (kt : x ≤ 0 → V K al w p L st) (kf : ¬ (x ≤ 0) → V K al w q L st) : V K al w pc L (.int x :: st) := fun H lc ls hP hD hS hl => by
  subst e2
  exact lv_if_le h.x h.b d e (fun z => kt z H lc ls hP hD hS hl) (fun z => kf z H lc ls hP hD hS hl)
theorem r_icmp_le (p q : Nat) (h : VH K own cc fr lo) {x y : Int32} {off : Int} (d : decode cc pc = .ok (.if_icmp .le off, 3)) (e : (pc : Int) + off = (p : Int)) (e2 : q = pc + 3) (kt : x ≤ y → V K al w p L st) (kf : ¬ (x ≤ y) → V K al w q L st) : V K al w pc L (.int y :: .int x :: st) := fun H lc ls hP hD hS hl => by
  subst e2
  exact lv_icmp_le h.x h.b d e (fun z => kt z H lc ls hP hD hS hl) (fun z => kf z H lc ls hP hD hS hl)
theorem r_get (p : Nat) (h : VH K own cc fr lo) {idx c j k : Nat} {v : Value} (d : decode cc pc = .ok (.getfield idx, 3)) (e : p = pc + 3) (hf : FF own idx c k) (hj : (c, j, 0) ∈ keys (gN (kG K))) (hv : (flds al (w c j) c j)[k]? = some v) (kk : V K al w p L (v :: st)) : V K al w pc L (.ref (al c j 0) :: st) := fun H lc ls hP hD hS hl => by
  subst e
  obtain ⟨C, T, N, hc, hk, hu, hl1⟩ := hf
  obtain ⟨q, -, hq⟩ := ws_mem (G := kG K) (al := al) hj
  rcases hl1 with hl1 | ⟨host, hl1⟩
  · exact va_get (fs := flds al (w c j) c j) h.x h.b h.ts hu h.own h.k hP q hq hc k hk (h.ts _ hl1) (fun _ z => z) hv d (kk H lc ls hP hD hS hl)
  · exact va_getN (fs := flds al (w c j) c j) h.x h.b h.ts hu h.own h.k hP q hq hc k hk (va_Nw.use rfl (h.sk.2.2.2.2 _ hl1)) (fun _ z => z) hv d (kk H lc ls hP hD hS hl)
/-- a field put: any object value o whose rows are the old ones -/
theorem r_putO (p : Nat) (w2 : Wd) (h : VH K own cc fr lo) {idx c j k : Nat} {v : Value} {ty : FieldType} {o : Ob} (d : decode cc pc = .ok (.putfield idx, 3)) (e : p = pc + 3) (hf : FF own idx c k) (ht : FT c k ty) (hn : narrow ty v = v) (hfit : fits ty v = true) (hj : (c, j, 0) ∈ keys (gN (kG K))) (hw : w2 = sO w c j o) (hr : ∀ k, acell (kG K) al o c j k = acell (kG K) al (w c j) c j k) (ho : flds al o c j = (flds al (w c j) c j).set k v) (hlen : k < (flds al (w c j) c j).length) (kk : V K al w2 p L st) : V K al w pc L (v :: .ref (al c j 0) :: st) := fun H lc ls hP hD hS hl => by
  subst e; subst hw
  obtain ⟨C, T, N, hc, hk, hu, hl1⟩ := hf
  obtain ⟨C2, T2, N2, t0, hc2, hfin, hpd, hty, hnm⟩ := ht
  have he := Option.some.inj (hc.symm.trans hc2)
  cases he
  obtain ⟨q, hqk, hq⟩ := ws_mem (G := kG K) (al := al) hj
  have hset : (wsW (kG K) al w).set q (al c j 0, .inr (c, (flds al (w c j) c j).set k v)) = wsW (kG K) al (sO w c j o) := by
    rw [← ws_set (w' := sO w c j o) hD hqk (cell_f hr)]
    congr 1
    show _ = (al c j 0, Sum.inr (c, flds al ((sO w c j o) c j) c j))
    rw [sO_at, ho]
  rcases hl1 with hl1 | ⟨host, hl1⟩
  · refine va_put (fs := flds al (w c j) c j) h.x h.b h.ts hu t0 hty hnm h.own h.k hP hD hS q hq hc k hk (h.ts _ hl1) (fun _ z => z) hfin hpd hn hfit hlen d (fun H1 l1 hP1 hD1 hS1 => ?_)
    rw [hset] at hP1 hD1
    exact kk H1 l1 ls hP1 hD1 hS1 hl
  · refine va_putN (fs := flds al (w c j) c j) h.x h.b h.ts hu t0 hty hnm h.own h.k hP hD hS q hq hc k hk (va_Nw.use rfl (h.sk.2.2.2.2 _ hl1)) (fun _ z => z) hfin hpd hn hfit hlen d (fun H1 l1 hP1 hD1 hS1 => ?_)
    rw [hset] at hP1 hD1
    exact kk H1 l1 ls hP1 hD1 hS1 hl
theorem r_putI (p : Nat) (w2 : Wd) (h : VH K own cc fr lo) {idx c j k : Nat} {v : Int32} (d : decode cc pc = .ok (.putfield idx, 3)) (e : p = pc + 3) (hf : FF own idx c k) (ht : FI c k) (hj : (c, j, 0) ∈ keys (gN (kG K))) (hw : w2 = sI w c j k v) (kk : V K al w2 p L st) : V K al w pc L (.int v :: .ref (al c j 0) :: st) :=
  r_putO p w2 h d e hf ht.1 rfl rfl hj hw (fun _ => rfl) (ht.2 al _ j v).1 (ht.2 al (w c j) j v).2 kk
theorem r_putZ (p : Nat) (w2 : Wd) (h : VH K own cc fr lo) {idx c j k : Nat} {v : Int32} (d : decode cc pc = .ok (.putfield idx, 3)) (e : p = pc + 3) (hf : FF own idx c k) (ht : FZ c k) (hb : isb v = true) (hj : (c, j, 0) ∈ keys (gN (kG K))) (hw : w2 = sI w c j k v) (kk : V K al w2 p L st) : V K al w pc L (.int v :: .ref (al c j 0) :: st) :=
  r_putO p w2 h d e hf ht.1 (isb_b hb).1 (isb_b hb).2 hj hw (fun _ => rfl) (ht.2 al _ j v).1 (ht.2 al (w c j) j v).2 kk
theorem acell_J {G : Gx} {al : Al} {o : Ob} {c j k : Nat} {v : Int64} (hc : c ≠ 12) (k2 : Nat) : acell G al (oJ o k v) c j k2 = acell G al o c j k2 := by
  unfold acell
  split
  · rfl
  · rename_i h5
    exfalso
    revert h5
    unfold aty
    split <;> simp_all
  · rfl
theorem r_putJ (p : Nat) (w2 : Wd) (h : VH K own cc fr lo) {idx c j k : Nat} {v : Int64} (d : decode cc pc = .ok (.putfield idx, 3)) (e : p = pc + 3) (hf : FF own idx c k) (ht : FJ c k) (hc : c ≠ 12) (hj : (c, j, 0) ∈ keys (gN (kG K))) (hw : w2 = sJ w c j k v) (kk : V K al w2 p L st) : V K al w pc L (.long v :: .ref (al c j 0) :: st) :=
  r_putO p w2 h d e hf ht.1 rfl rfl hj hw (acell_J hc) (ht.2 al _ j v).1 (ht.2 al (w c j) j v).2 kk
theorem r_putP (p : Nat) (w2 : Wd) (h : VH K own cc fr lo) {idx c j k c2 j2 : Nat} (d : decode cc pc = .ok (.putfield idx, 3)) (e : p = pc + 3) (hf : FF own idx c k) (ht : FP c k c2) (hj : (c, j, 0) ∈ keys (gN (kG K))) (hw : w2 = sP w c j k (j2 + 1)) (kk : V K al w2 p L st) : V K al w pc L (.ref (al c2 j2 0) :: .ref (al c j 0) :: st) := by
  obtain ⟨⟨s, hs⟩, h2⟩ := ht
  exact r_putO p w2 h d e hf hs rfl rfl hj hw (fun _ => rfl) (h2 al _ j (j2 + 1)).1 (h2 al (w c j) j 0).2 kk
/-- a pointer on the stack that isn't null, or is -/
theorem r_pv1 {c q j : Nat} (hq : q = j + 1) (kk : V K al w pc L (.ref (al c j 0) :: st)) : V K al w pc L (pv al c q :: st) := by subst hq; exact kk
theorem r_pv0 {c q : Nat} (hq : q = 0) (kk : V K al w pc L (.null :: st)) : V K al w pc L (pv al c q :: st) := by subst hq; exact kk
/-! rows of ints, bytes, booleans -/
theorem acell_t {G : Gx} {al : Al} {o : Ob} {c j k t : Nat} (ht : aty c k = t) (h4 : t ≠ 4) (h5 : t ≠ 5) : acell G al o c j k = .inl (G.2.1 t, aln c j k, .inl (o.2.1 k)) := by
  unfold acell
  rw [ht]
  split
  · exact absurd rfl h4
  · exact absurd rfl h5
  · rfl
theorem flds_a {al : Al} {o : Ob} {f : Nat → Nat → Int32} {c j : Nat} : flds al (o.1, f, o.2.2) c j = flds al o c j := by
  unfold flds
  split <;> rfl
theorem acell_a {G : Gx} {al : Al} {o : Ob} {c j k k0 : Nat} {f : Nat → Int32} (hk : k ≠ k0) : acell G al (o.1, va_up o.2.1 k0 f, o.2.2) c j k = acell G al o c j k := by
  unfold acell
  split
  · rfl
  · rfl
  · show Sum.inl (_, _, Sum.inl (va_up o.2.1 k0 f k)) = _
    rw [va_up_ne _ _ hk]
theorem ws_row {G : Gx} {al : Al} {w : Wd} {A : Nat → Prop} {q c j k t : Nat} {f : Nat → Int32} (hD : va_D A (wsW G al w)) (hq : (keys (gN G))[q]? = some (c, j, k + 1)) (ht : aty c k = t) (h4 : t ≠ 4) (h5 : t ≠ 5) : (wsW G al w).set q (al c j (k + 1), .inl (G.2.1 t, aln c j k, .inl f)) = wsW G al (sR w c j k f) := by
  rw [← ws_set (w' := sR w c j k f) hD hq (cell_a flds_a (fun k2 h2 => acell_a h2))]
  congr 1
  show _ = (al c j (k + 1), acell G al ((sR w c j k f) c j) c j k)
  unfold sR
  rw [sO_at, acell_t ht h4 h5]
  show _ = (al c j (k + 1), Sum.inl (G.2.1 t, aln c j k, Sum.inl (va_up (w c j).2.1 k f k)))
  rw [va_up_self]
theorem ws_acell {G : Gx} {al : Al} {w : Wd} {q c j k t : Nat} (hq : (wsW G al w)[q]? = some (cellK G al w (c, j, k + 1))) (ht : aty c k = t) (h4 : t ≠ 4) (h5 : t ≠ 5) : (wsW G al w)[q]? = some (al c j (k + 1), .inl (G.2.1 t, aln c j k, .inl ((w c j).2.1 k))) := by
  rw [hq]
  show some (al c j (k + 1), acell G al (w c j) c j k) = _
  rw [acell_t ht h4 h5]
theorem r_iald (p : Nat) (h : VH K own cc fr lo) {c j k n : Nat} {i : Int32} (d : decode cc pc = .ok (.iaload, 1)) (e : p = pc + 1) (ht : aty c k = 1) (hj : (c, j, k + 1) ∈ keys (gN (kG K))) (hn : aln c j k = n) (hi : inb i n = true) (kk : V K al w p L (.int ((w c j).2.1 k i.toNatClampNeg) :: st)) : V K al w pc L (.int i :: .ref (al c j (k + 1)) :: st) := fun H lc ls hP hD hS hl => by
  subst e; subst hn
  obtain ⟨q, -, hq⟩ := ws_mem (G := kG K) (al := al) hj
  exact va_iald h.x h.b h.k hP q 1 (ws_acell hq ht (by decide) (by decide)) rfl (inb_in hi) d (kk H lc ls hP hD hS hl)
theorem r_bald (p : Nat) (h : VH K own cc fr lo) {c j k n : Nat} {i : Int32} (d : decode cc pc = .ok (.baload, 1)) (e : p = pc + 1) (ht : aty c k = 2) (hj : (c, j, k + 1) ∈ keys (gN (kG K))) (hn : aln c j k = n) (hi : inb i n = true) (kk : V K al w p L (.int ((w c j).2.1 k i.toNatClampNeg) :: st)) : V K al w pc L (.int i :: .ref (al c j (k + 1)) :: st) := fun H lc ls hP hD hS hl => by
  subst e; subst hn
  obtain ⟨q, -, hq⟩ := ws_mem (G := kG K) (al := al) hj
  exact va_bald h.x h.b h.k hP q 2 (ws_acell hq ht (by decide) (by decide)) rfl (inb_in hi) d (kk H lc ls hP hD hS hl)
theorem r_zald (p : Nat) (h : VH K own cc fr lo) {c j k n : Nat} {i : Int32} (d : decode cc pc = .ok (.baload, 1)) (e : p = pc + 1) (ht : aty c k = 3) (hj : (c, j, k + 1) ∈ keys (gN (kG K))) (hn : aln c j k = n) (hi : inb i n = true) (kk : V K al w p L (.int ((w c j).2.1 k i.toNatClampNeg) :: st)) : V K al w pc L (.int i :: .ref (al c j (k + 1)) :: st) := fun H lc ls hP hD hS hl => by
  subst e; subst hn
  obtain ⟨q, -, hq⟩ := ws_mem (G := kG K) (al := al) hj
  exact va_zald h.x h.b h.k hP q 3 (ws_acell hq ht (by decide) (by decide)) rfl (inb_in hi) d (kk H lc ls hP hD hS hl)
theorem r_iast (p : Nat) (w2 : Wd) (h : VH K own cc fr lo) {c j k n : Nat} {i x : Int32} (d : decode cc pc = .ok (.iastore, 1)) (e : p = pc + 1) (ht : aty c k = 1) (hj : (c, j, k + 1) ∈ keys (gN (kG K))) (hn : aln c j k = n) (hi : inb i n = true) (hw : w2 = sA w c j k i.toNatClampNeg x) (kk : V K al w2 p L st) : V K al w pc L (.int x :: .int i :: .ref (al c j (k + 1)) :: st) := fun H lc ls hP hD hS hl => by
  subst e; subst hn; subst hw
  obtain ⟨q, hqk, hq⟩ := ws_mem (G := kG K) (al := al) hj
  refine va_iast h.x h.b h.k hP hD hS q 1 (ws_acell hq ht (by decide) (by decide)) rfl (inb_in hi) d (fun H1 l1 hP1 hD1 hS1 => ?_)
  rw [ws_row hD hqk ht (by decide) (by decide)] at hP1 hD1
  exact kk H1 l1 ls hP1 hD1 hS1 hl
theorem r_bast (p : Nat) (w2 : Wd) (h : VH K own cc fr lo) {c j k n : Nat} {i x : Int32} (d : decode cc pc = .ok (.bastore, 1)) (e : p = pc + 1) (ht : aty c k = 2) (hj : (c, j, k + 1) ∈ keys (gN (kG K))) (hn : aln c j k = n) (hi : inb i n = true) (hw : w2 = sA w c j k i.toNatClampNeg x.toInt8.toInt32) (kk : V K al w2 p L st) : V K al w pc L (.int x :: .int i :: .ref (al c j (k + 1)) :: st) := fun H lc ls hP hD hS hl => by
  subst e; subst hn; subst hw
  obtain ⟨q, hqk, hq⟩ := ws_mem (G := kG K) (al := al) hj
  refine va_bast h.x h.b h.k hP hD hS q 2 (ws_acell hq ht (by decide) (by decide)) rfl (inb_in hi) d (fun H1 l1 hP1 hD1 hS1 => ?_)
  rw [vp_nar_byte, ws_row hD hqk ht (by decide) (by decide)] at hP1 hD1
  exact kk H1 l1 ls hP1 hD1 hS1 hl
theorem nar_z {x : Int32} (hb : isb x = true) : vp_nar .boolean x = x := by
  rcases of_decide_eq_true hb with e | e
  · subst e; rfl
  · subst e; rfl
theorem r_zast (p : Nat) (w2 : Wd) (h : VH K own cc fr lo) {c j k n : Nat} {i x : Int32} (d : decode cc pc = .ok (.bastore, 1)) (e : p = pc + 1) (ht : aty c k = 3) (hj : (c, j, k + 1) ∈ keys (gN (kG K))) (hn : aln c j k = n) (hi : inb i n = true) (hb : isb x = true) (hw : w2 = sA w c j k i.toNatClampNeg x) (kk : V K al w2 p L st) : V K al w pc L (.int x :: .int i :: .ref (al c j (k + 1)) :: st) := fun H lc ls hP hD hS hl => by
  subst e; subst hn; subst hw
  obtain ⟨q, hqk, hq⟩ := ws_mem (G := kG K) (al := al) hj
  refine va_zast h.x h.b h.k hP hD hS q 3 (ws_acell hq ht (by decide) (by decide)) rfl (inb_in hi) d (fun H1 l1 hP1 hD1 hS1 => ?_)
  rw [nar_z hb, ws_row hD hqk ht (by decide) (by decide)] at hP1 hD1
  exact kk H1 l1 ls hP1 hD1 hS1 hl
theorem acell_inl {G : Gx} {al : Al} {o : Ob} {c j k : Nat} : ∃ x : vp_A, acell G al o c j k = .inl (G.2.1 (aty c k), x) ∧ x.1 = aln c j k := by
  unfold acell
  split
  · rename_i h4; rw [h4]; exact ⟨_, rfl, rfl⟩
  · rename_i h5; rw [h5]; exact ⟨_, rfl, rfl⟩
  · exact ⟨_, rfl, rfl⟩
theorem tys_at {G : Gx} {t : Nat} (ht : t < 6) : ∃ ty, (tysG G)[t]? = some (G.2.1 t, ty) := by
  rcases (show t = 0 ∨ t = 1 ∨ t = 2 ∨ t = 3 ∨ t = 4 ∨ t = 5 by omega) with rfl | rfl | rfl | rfl | rfl | rfl <;> exact ⟨_, rfl⟩
theorem aty_lt {c k : Nat} : aty c k < 6 := by
  unfold aty
  split <;> decide
theorem r_alen (p : Nat) (h : VH K own cc fr lo) {c j k n : Nat} (d : decode cc pc = .ok (.arraylength, 1)) (e : p = pc + 1) (hj : (c, j, k + 1) ∈ keys (gN (kG K))) (hn : aln c j k = n) (kk : V K al w p L (.int (nI n) :: st)) : V K al w pc L (.ref (al c j (k + 1)) :: st) := fun H lc ls hP hD hS hl => by
  subst e; subst hn
  obtain ⟨q, -, hq⟩ := ws_mem (G := kG K) (al := al) hj
  obtain ⟨x, hx, hx1⟩ := acell_inl (G := kG K) (al := al) (o := w c j) (c := c) (j := j) (k := k)
  obtain ⟨ty, hty⟩ := tys_at (G := kG K) (aty_lt (c := c) (k := k))
  have hq2 : (wsW (kG K) al w)[q]? = some (al c j (k + 1), .inl ((kG K).2.1 (aty c k), x)) := by
    rw [hq]
    show some (al c j (k + 1), acell (kG K) al (w c j) c j k) = _
    rw [hx]
  exact va_alen h.x h.b h.k hP q (aty c k) hq2 hty (v := nI (aln c j k)) (by rw [hx1]; rfl) d (kk H lc ls hP hD hS hl)
/-- a State out of a Shelf -/
theorem r_aald (p : Nat) (h : VH K own cc fr lo) {j n : Nat} {i : Int32} (d : decode cc pc = .ok (.aaload, 1)) (e : p = pc + 1) (hj : (6, j, 0 + 1) ∈ keys (gN (kG K))) (hn : aln 6 j 0 = n) (hi : inb i n = true) (kk : V K al w p L (.ref (al 7 (sbase j + i.toNatClampNeg) 0) :: st)) : V K al w pc L (.int i :: .ref (al 6 j (0 + 1)) :: st) := fun H lc ls hP hD hS hl => by
  subst e; subst hn
  obtain ⟨q, -, hq⟩ := ws_mem (G := kG K) (al := al) hj
  exact va_aldq (f := fun i => some (al 7 (sbase j + i) 0)) h.x h.b h.k hP q 4 hq rfl (inb_in hi) d (kk H lc ls hP hD hS hl)
theorem r_ldc (p : Nat) (h : VH K own cc fr lo) {idx : Nat} {v : Int32} (d : decode cc pc = .ok (.ldc idx, 2)) (e : p = pc + 2) (hc : Cond.constant own idx v ∈ big) (kk : V K al w p L (.int v :: st)) : V K al w pc L st := fun H lc ls hP hD hS hl => by
  subst e
  exact lv_ldc h.x h.b h.own (h.ts _ hc) d (kk H lc ls hP hD hS hl)
theorem r_ldcw (p : Nat) (h : VH K own cc fr lo) {idx : Nat} {v : Int32} (d : decode cc pc = .ok (.ldc_w idx, 3)) (e : p = pc + 3) (hc : Cond.constant own idx v ∈ big) (kk : V K al w p L (.int v :: st)) : V K al w pc L st := fun H lc ls hP hD hS hl => by
  subst e
  exact lv_ldcw h.x h.b h.own (h.ts _ hc) d (kk H lc ls hP hD hS hl)
theorem r_ldc2 (p : Nat) (h : VH K own cc fr lo) {idx : Nat} {v : Int64} (d : decode cc pc = .ok (.ldc2_w idx, 3)) (e : p = pc + 3) (hc : Cond.constantLong own idx v ∈ big) (kk : V K al w p L (.long v :: st)) : V K al w pc L st := fun H lc ls hP hD hS hl => by
  subst e
  exact lv_ldc2 h.x h.b h.own (h.ts _ hc) d (kk H lc ls hP hD hS hl)
theorem r_ldcS4 (p : Nat) (h : VH K RX4 cc fr lo) {idx i : Nat} (d : decode cc pc = .ok (.ldc idx, 2)) (e : p = pc + 2) (hi : i < 10) (hx : sxi i = idx) (kk : V K al w p L (.ref ((kG K).2.2.1 i) :: st)) : V K al w pc L st := fun H lc ls hP hD hS hl => by
  subst e; subst hx
  exact va_ldcS h.x h.b h.own (h.sk.2.1 i hi) d (kk H lc ls hP hD hS hl)
theorem r_ldcS11 (p : Nat) (h : VH K RX11 cc fr lo) {idx i : Nat} (d : decode cc pc = .ok (.ldc idx, 2)) (e : p = pc + 2) (hi : i < 10) (hx : smi i = idx) (kk : V K al w p L (.ref ((kG K).2.2.1 i) :: st)) : V K al w pc L st := fun H lc ls hP hD hS hl => by
  subst e; subst hx
  exact va_ldcS h.x h.b h.own (h.sk.2.2.1 i hi) d (kk H lc ls hP hD hS hl)
/-- Math.min, Math.max -/
theorem r_min (p : Nat) (h : VH K own cc fr lo) {idx : Nat} {x y : Int32} (d : decode cc pc = .ok (.invokestatic idx, 3)) (e : p = pc + 3) (h1 : Cond.methodLink own idx Lib.Math.min.name ∈ big ∧ Cond.static Lib.Math.min.name ∈ big ∧ Cond.initialized "java/lang/Math" ∈ big ∧ Cond.code Lib.Math.min.name Lib.Math.min.code 2 (some .int) ∈ big) (hf : 1 ≤ fr) (ho : (st.map fun v => v.category).sum + 13 ≤ lo) (kk : V K al w p L (.int (if y < x then y else x) :: st)) : V K al w pc L (.int y :: .int x :: st) := fun H lc ls hP hD hS hl => by
  subst e
  exact va_mmin h.x h.b (h.ml.trans hl.1.symm) h.own (h.ts _ h1.1) (h.ts _ h1.2.1) (h.ts _ h1.2.2.1) (h.ts _ h1.2.2.2) (by rw [h.fr]; exact hf) (by rw [h.lo]; exact ho) h.ce h.sl d (kk H lc ls hP hD hS hl)
theorem r_max (p : Nat) (h : VH K own cc fr lo) {idx : Nat} {x y : Int32} (d : decode cc pc = .ok (.invokestatic idx, 3)) (e : p = pc + 3) (h1 : Cond.methodLink own idx Lib.Math.max.name ∈ big ∧ Cond.static Lib.Math.max.name ∈ big ∧ Cond.initialized "java/lang/Math" ∈ big ∧ Cond.code Lib.Math.max.name Lib.Math.max.code 2 (some .int) ∈ big) (hf : 1 ≤ fr) (ho : (st.map fun v => v.category).sum + 13 ≤ lo) (kk : V K al w p L (.int (if x < y then y else x) :: st)) : V K al w pc L (.int y :: .int x :: st) := fun H lc ls hP hD hS hl => by
  subst e
  exact va_mmax h.x h.b (h.ml.trans hl.1.symm) h.own (h.ts _ h1.1) (h.ts _ h1.2.1) (h.ts _ h1.2.2.1) (h.ts _ h1.2.2.2) (by rw [h.fr]; exact hf) (by rw [h.lo]; exact ho) h.ce h.sl d (kk H lc ls hP hD hS hl)
/-- System.arraycopy from 0 to 0 of a row of ints -/
theorem r_copy (p : Nat) (w2 : Wd) (h : VH K own cc fr lo) {idx c j k c2 j2 k2 n : Nat} {m : Int32} (d : decode cc pc = .ok (.invokestatic idx, 3)) (e : p = pc + 3) (h1 : Cond.methodLink own idx arraycopyName ∈ big ∧ Cond.native arraycopyName ∈ big ∧ Cond.static arraycopyName ∈ big ∧ Cond.initialized "java/lang/System" ∈ big) (ht : aty c k = 1) (ht2 : aty c2 k2 = 1) (hj : (c, j, k + 1) ∈ keys (gN (kG K))) (hj2 : (c2, j2, k2 + 1) ∈ keys (gN (kG K))) (hm : m.toNatClampNeg = n) (hm0 : ¬ m < 0) (hn : aln c j k = n) (hn2 : aln c2 j2 k2 = n) (hf : 1 ≤ fr) (ho : (st.map fun v => v.category).sum + (nativeFrameWords "java/lang/System" "arraycopy" 5 + 11) ≤ lo) (hw : w2 = sR w c2 j2 k2 (va_cpy ((w c j).2.1 k) ((w c2 j2).2.1 k2) 0 0 n)) (kk : V K al w2 p L st) : V K al w pc L (.int m :: .int 0 :: .ref (al c2 j2 (k2 + 1)) :: .int 0 :: .ref (al c j (k + 1)) :: st) := fun H lc ls hP hD hS hl => by
  subst e; subst hw
  obtain ⟨q, -, hq⟩ := ws_mem (G := kG K) (al := al) hj
  obtain ⟨q2, hqk2, hq2⟩ := ws_mem (G := kG K) (al := al) hj2
  have hz : (0 : Int32).toNatClampNeg = 0 := rfl
  refine va_copyi h.x h.b (h.ml.trans hl.1.symm) h.own (h.ts _ h1.1) (h.ts _ h1.2.1) (h.ts _ h1.2.2.1) (h.ts _ h1.2.2.2) h.k hP hD hS q q2 1 1 (ws_acell hq ht (by decide) (by decide)) (ws_acell hq2 ht2 (by decide) (by decide)) rfl rfl rfl (by decide) (by decide) hm0 (by rw [hz, hm, hn]; omega) (by rw [hz, hm, hn2]; omega) (fun _ _ => rfl) (by rw [h.fr]; exact hf) (by rw [h.lo]; exact ho) d (fun H1 l1 hP1 hD1 hS1 => ?_)
  rw [hz, hm, ws_row hD hqk2 ht2 (by decide) (by decide)] at hP1 hD1
  exact kk H1 l1 ls hP1 hD1 hS1 hl
end RW
