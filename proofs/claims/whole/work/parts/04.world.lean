/-! ===== the words that hold everywhere: of the tables, those that keep ===== -/
def big : List Cond := lw_tbl.filter goodWord
theorem big_of {w : Cond} (h : w ∈ lw_tbl) (g : goodWord w = true) : w ∈ big := List.mem_filter.mpr ⟨h, g⟩
theorem big_t {w : Cond} (i : Nat) (h : tables_1[i]? = some w) (g : goodWord w = true) : w ∈ big := big_of (List.mem_append_right _ (List.mem_of_getElem? h)) g
theorem big_s {w : Cond} (i : Nat) (h : (k2_sels lw_privs)[i]? = some w) (g : goodWord w = true) : w ∈ big := big_of (List.mem_append_left _ (List.mem_of_getElem? h)) g
theorem big_good {w : Cond} (h : w ∈ big) : (w.onTables && w.keeps) = true ∨ ∃ ty, w = .arrayClass ty := good_of_word (List.mem_filter.mp h).2
theorem big_in {ws : List Cond} (h : ∀ w ∈ ws, w ∈ big) : GoodIn big ws := fun w hw => ⟨h w hw, big_good (h w hw)⟩
theorem big_cons {c : Cond} (h : c ∈ big) : ∀ w ∈ (c :: big), w ∈ big := fun w hw => by
  rcases List.mem_cons.mp hw with e | e
  · rw [e]; exact h
  · exact e
/-- words of nest mates: they keep, but by rows of their own -/
def isN : Cond → Bool
  | .fieldLinkNest _ _ _ _ _ _ => true
  | .methodLinkNest _ _ _ _ => true
  | _ => false
def nst : List Cond := tables_1.filter isN
theorem nst_t {w : Cond} (i : Nat) (h : tables_1[i]? = some w) (g : isN w = true) : w ∈ nst := List.mem_filter.mpr ⟨List.mem_of_getElem? h, g⟩
theorem nst_warm {w : Cond} {s U : State} (hw : w ∈ nst) (hW : s.WarmedH U.vm) (h : va_Nw w s) : va_Nw w U := by
  have g := (List.mem_filter.mp hw).2
  cases w <;> first | exact va_Nw.warmF hW h | exact va_Nw.warmM hW h | cases g
theorem nst_same {w : Cond} {s U : State} (hw : w ∈ nst) (hv : s.vm = U.vm) (h : va_Nw w s) : va_Nw w U := by
  have g := (List.mem_filter.mp hw).2
  cases w <;> first | exact va_Nw.same rfl hv h | cases g
/-! ===== the world: every object by its kind and number ===== -/
abbrev Ob : Type := (Nat → Int32) × (Nat → Nat → Int32) × (Nat → Nat) × (Nat → Int64)
abbrev Wd : Type := Nat → Nat → Ob
abbrev Al : Type := Nat → Nat → Nat → Nat
abbrev Gx : Type := va_G × (Nat → ClassId) × (Nat → Nat) × (Nat → Nat) × (Nat → Nat)
/-- how many objects of each kind -/
abbrev gN (G : Gx) : Nat → Nat := G.2.2.2.2
def up2 {α : Type} (f : Nat → Nat → α) (a b : Nat) (v : α) : Nat → Nat → α := fun x y => if x = a ∧ y = b then v else f x y
theorem up2_self {α : Type} (f : Nat → Nat → α) (a b : Nat) (v : α) : up2 f a b v a b = v := by simp [up2]
theorem up2_ne {α : Type} (f : Nat → Nat → α) {a b x y : Nat} (v : α) (h : ¬ (x = a ∧ y = b)) : up2 f a b v x y = f x y := by simp [up2, h]
/-- an object anew -/
def sO (w : Wd) (c j : Nat) (o : Ob) : Wd := up2 w c j o
def oI (o : Ob) (k : Nat) (v : Int32) : Ob := (va_up o.1 k v, o.2)
def oA (o : Ob) (k i : Nat) (v : Int32) : Ob := (o.1, va_up o.2.1 k (upd (o.2.1 k) i v), o.2.2)
def oR (o : Ob) (k : Nat) (f : Nat → Int32) : Ob := (o.1, va_up o.2.1 k f, o.2.2)
def oP (o : Ob) (k v : Nat) : Ob := (o.1, o.2.1, va_up o.2.2.1 k v, o.2.2.2)
def oJ (o : Ob) (k : Nat) (v : Int64) : Ob := (o.1, o.2.1, o.2.2.1, va_up o.2.2.2 k v)
def sI (w : Wd) (c j k : Nat) (v : Int32) : Wd := sO w c j (oI (w c j) k v)
def sA (w : Wd) (c j k i : Nat) (v : Int32) : Wd := sO w c j (oA (w c j) k i v)
def sR (w : Wd) (c j k : Nat) (f : Nat → Int32) : Wd := sO w c j (oR (w c j) k f)
def sP (w : Wd) (c j k v : Nat) : Wd := sO w c j (oP (w c j) k v)
def sJ (w : Wd) (c j k : Nat) (v : Int64) : Wd := sO w c j (oJ (w c j) k v)
/-- a pointer: 0 is null -/
def pv (al : Al) (c p : Nat) : Value := match p with
  | 0 => .null
  | n + 1 => .ref (al c n 0)
/-- checks: what fails is none -/
def ck {α : Type} (b : Bool) (x : Option α) : Option α := match b with
  | true => x
  | false => none
def ckp {α : Type} (p n : Nat) (f : Nat → Option α) : Option α := match p with
  | 0 => none
  | j + 1 => if j < n then f j else none
def lw {α β : Type} (x : α) (f : α → β) : β := f x
def ob {α β : Type} (o : Option (α × Wd)) (f : α → Wd → Option β) : Option β := match o with
  | some (a, w) => f a w
  | none => none
def inb (i : Int32) (n : Nat) : Bool := decide (0 ≤ i.toInt ∧ i.toInt < n)
def isb (v : Int32) : Bool := decide (v = 0 ∨ v = 1)
theorem ck_e {α : Type} {b : Bool} {x : Option α} {r : α} (h : ck b x = some r) : b = true ∧ x = some r := by
  cases b with
  | true => exact ⟨rfl, h⟩
  | false => cases h
theorem ckp_e {α : Type} {p n : Nat} {f : Nat → Option α} {r : α} (h : ckp p n f = some r) : ∃ j, p = j + 1 ∧ j < n ∧ f j = some r := by
  cases p with
  | zero => cases h
  | succ j =>
    by_cases hj : j < n
    · exact ⟨j, rfl, hj, by simpa [ckp, hj] using h⟩
    · simp [ckp, hj] at h
theorem lw_e {α β : Type} {x : α} {f : α → β} {r : β} (h : lw x f = r) : ∃ y, y = x ∧ f y = r := ⟨x, rfl, h⟩
theorem ob_e {α β : Type} {o : Option (α × Wd)} {f : α → Wd → Option β} {r : β} (h : ob o f = some r) : ∃ a w, o = some (a, w) ∧ f a w = some r := by
  cases o with
  | none => cases h
  | some q => exact ⟨q.1, q.2, rfl, h⟩
theorem if_t {c : Prop} [Decidable c] {α : Type} {x y : Option α} {r : α} (hc : c) (h : (if c then x else y) = some r) : x = some r := by rwa [if_pos hc] at h
theorem if_f {c : Prop} [Decidable c] {α : Type} {x y : Option α} {r : α} (hc : ¬ c) (h : (if c then x else y) = some r) : y = some r := by rwa [if_neg hc] at h
theorem inb_in {i : Int32} {n : Nat} (h : inb i n = true) : vp_in i n := vp_in_iff.mpr (of_decide_eq_true h)
theorem isb_b {v : Int32} (h : isb v = true) : narrow .boolean (.int v) = .int v ∧ fits .boolean (.int v) = true := by
  rcases of_decide_eq_true h with e | e
  · subst e; exact ⟨rfl, rfl⟩
  · subst e; exact ⟨rfl, rfl⟩
/-! ===== the layout of the two graphs, by program ===== -/
def pln (j : Nat) : Nat := if j % 4 = 0 then 12 else if j % 4 = 1 then 16 else if j % 4 = 2 then 4 else 6
def sbase (j : Nat) : Nat := if j = 0 then 2 else 18
def flds (al : Al) (o : Ob) (c j : Nat) : List Value := match c with
  | 0 => [.int (o.1 0)]
  | 1 => [.ref (al 1 j 1), .int (o.1 1)]
  | 2 => [.ref (al 6 0 0), .int (o.1 1), .int (o.1 2)]
  | 3 => [.ref (al 3 j 1), .ref (al 3 j 2), .int (o.1 2)]
  | 4 => [.ref (al 9 0 1), .int (o.1 1), pv al 8 (o.2.2.1 2), .int (o.1 3), .int (o.1 4), .int (o.1 5), .int (o.1 6), .int (o.1 7), .int (o.1 8), .int (o.1 9)]
  | 5 => [.ref (al 5 j 1), .ref (al 5 j 2), .ref (al 5 j 3), .int (o.1 3), .int (o.1 4), .int (o.1 5), .int (o.1 6), .int (o.1 7)]
  | 6 => [.ref (al 6 j 1)]
  | 7 => [.ref (al 7 j 1), .ref (al 7 j 2), .ref (al 7 j 3), .ref (al 7 j 4), .int (o.1 4), .int (o.1 5), .int (o.1 6), .int (o.1 7), .int (o.1 8), .int (o.1 9), .int (o.1 10)]
  | 8 => [.ref (al 5 j 0), .ref (al 3 (4 * j) 0), .ref (al 3 (4 * j + 1) 0), .ref (al 3 (4 * j + 2) 0), .ref (al 3 (4 * j + 3) 0)]
  | 9 => [.ref (al 9 j 1), .int (o.1 1), pv al 8 (o.2.2.1 2), pv al 8 (o.2.2.1 3), .ref (al 4 0 0), .ref (al 1 0 0), .ref (al 7 0 0), .ref (al 7 1 0), .ref (al 5 2 0), .ref (al 0 0 0), .ref (al 2 0 0), .ref (al 6 1 0), .int (o.1 12), .int (o.1 13), .int (o.1 14), .int (o.1 15)]
  | 10 => [.int (o.1 0), .int (o.1 1), .int (o.1 2), .int (o.1 3), .int (o.1 4), .int (o.1 5), .int (o.1 6), .int (o.1 7), .int (o.1 8), .ref (al 10 j 10), .ref (al 10 j 11), .ref (al 10 j 12), .ref (al 10 j 13), .ref (al 10 j 14), .ref (al 10 j 15), .ref (al 10 j 16), .ref (al 10 j 17), .ref (al 10 j 18)]
  | 11 => [.int (o.1 0), .int (o.1 1), .int (o.1 2), pv al 10 (o.2.2.1 3), pv al 10 (o.2.2.1 4), .ref (al 11 j 6), .int (o.1 6), .int (o.1 7), .int (o.1 8), .int (o.1 9), .int (o.1 10), .int (o.1 11), .int (o.1 12), .int (o.1 13), .long (o.2.2.2 14), .ref (al 11 j 16), .ref (al 11 j 17), .ref (al 11 j 18), .ref (al 11 j 19), .int (o.1 19), .int (o.1 20), .ref (al 11 j 22), .ref (al 11 j 23), .int (o.1 23), .int (o.1 24), .int (o.1 25), .ref (al 11 j 27), .ref (al 11 j 28), .int (o.1 28), .int (o.1 29), .int (o.1 30), .int (o.1 31), .ref (al 11 j 33), .int (o.1 33), .int (o.1 34), .int (o.1 35)]
  | _ => []
/-- the kind of an owned row: 1 int, 2 byte, 3 boolean, 4 State, 5 long; 0 none -/
def aty (c k : Nat) : Nat := match c, k with
  | 1, 0 => 1
  | 3, 0 => 1
  | 3, 1 => 1
  | 5, 0 => 1
  | 5, 1 => 1
  | 5, 2 => 1
  | 6, 0 => 4
  | 7, 0 => 1
  | 7, 1 => 1
  | 7, 2 => 1
  | 7, 3 => 1
  | 9, 0 => 2
  | 10, 9 => 1
  | 10, 10 => 1
  | 10, 11 => 1
  | 10, 12 => 1
  | 10, 13 => 1
  | 10, 14 => 1
  | 10, 15 => 1
  | 10, 16 => 1
  | 10, 17 => 3
  | 11, 5 => 2
  | 11, 15 => 1
  | 11, 16 => 1
  | 11, 17 => 1
  | 11, 18 => 1
  | 11, 21 => 1
  | 11, 22 => 1
  | 11, 26 => 1
  | 11, 27 => 1
  | 11, 32 => 1
  | 12, 0 => 5
  | _, _ => 0
def aln (c j k : Nat) : Nat := match c, k with
  | 1, 0 => 16
  | 3, 0 => pln j
  | 3, 1 => pln j
  | 5, 0 => 24
  | 5, 1 => 24
  | 5, 2 => 48
  | 6, 0 => (if j = 0 then 16 else 3)
  | 7, 0 => 48
  | 7, 1 => 24
  | 7, 2 => 24
  | 7, 3 => 8
  | 9, 0 => 700
  | 10, 9 => 6
  | 10, 10 => 48
  | 10, 11 => 16
  | 10, 12 => 16
  | 10, 13 => 4
  | 10, 14 => 4
  | 10, 15 => 6
  | 10, 16 => 6
  | 10, 17 => 48
  | 11, 5 => 700
  | 11, 15 => 110
  | 11, 16 => 110
  | 11, 17 => 1760
  | 11, 18 => 330
  | 11, 21 => 24
  | 11, 22 => 24
  | 11, 26 => 48
  | 11, 27 => 48
  | 11, 32 => 4
  | 12, 0 => 1
  | _, _ => 0
def ksl (c : Nat) : List Nat := match c with
  | 0 => [0]
  | 1 => [0, 1]
  | 2 => [0]
  | 3 => [0, 1, 2]
  | 4 => [0]
  | 5 => [0, 1, 2, 3]
  | 6 => [0, 1]
  | 7 => [0, 1, 2, 3, 4]
  | 8 => [0]
  | 9 => [0, 1]
  | 10 => [0, 10, 11, 12, 13, 14, 15, 16, 17, 18]
  | 11 => [0, 6, 16, 17, 18, 19, 22, 23, 27, 28, 33]
  | 12 => [1]
  | _ => []
/-- what an owned row holds -/
def acell (G : Gx) (al : Al) (o : Ob) (c j k : Nat) : va_E := match aty c k with
  | 4 => .inl (G.2.1 4, aln c j k, .inr (.inr (.inr (.inr (fun i => some (al 7 (sbase j + i) 0))))))
  | 5 => .inl (G.2.1 5, aln c j k, .inr (.inl (fun _ => o.2.2.2 k)))
  | t => .inl (G.2.1 t, aln c j k, .inl (o.2.1 k))
def cellE (G : Gx) (al : Al) (w : Wd) (c j k : Nat) : va_E := match k with
  | 0 => .inr (c, flds al (w c j) c j)
  | k + 1 => acell G al (w c j) c j k
def cellK (G : Gx) (al : Al) (w : Wd) (q : Nat × Nat × Nat) : Nat × va_E := (al q.1 q.2.1 q.2.2, cellE G al w q.1 q.2.1 q.2.2)
def keys (n : Nat → Nat) : List (Nat × Nat × Nat) := (List.range 13).flatMap fun c => (List.range (n c)).flatMap fun j => (ksl c).map fun k => (c, j, k)
def wsW (G : Gx) (al : Al) (w : Wd) : va_W := (keys (gN G)).map (cellK G al w)
def tysG (G : Gx) : List (ClassId × FieldType) := [(G.2.1 0, .int), (G.2.1 1, .int), (G.2.1 2, .byte), (G.2.1 3, .boolean), (G.2.1 4, .object "ShingledDisk$State"), (G.2.1 5, .long)]
theorem mem_keys {n : Nat → Nat} {c j k : Nat} (hc : c < 13) (hj : j < n c) (hk : k ∈ ksl c) : (c, j, k) ∈ keys n :=
  List.mem_flatMap.mpr ⟨c, List.mem_range.mpr hc, List.mem_flatMap.mpr ⟨j, List.mem_range.mpr hj, List.mem_map.mpr ⟨k, hk, rfl⟩⟩⟩
theorem ws_at {G : Gx} {al : Al} {w : Wd} {q : Nat} {x : Nat × Nat × Nat} (h : (keys (gN G))[q]? = some x) : (wsW G al w)[q]? = some (cellK G al w x) := by
  unfold wsW
  rw [List.getElem?_map, h]
  rfl
theorem ws_mem {G : Gx} {al : Al} {w : Wd} {x : Nat × Nat × Nat} (h : x ∈ keys (gN G)) : ∃ q : Nat, (keys (gN G))[q]? = some x ∧ (wsW G al w)[q]? = some (cellK G al w x) := by
  obtain ⟨q, hq⟩ := List.getElem?_of_mem h
  exact ⟨q, hq, ws_at hq⟩
theorem ws_set {G : Gx} {al : Al} {w w' : Wd} {A : Nat → Prop} {q : Nat} {x : Nat × Nat × Nat} (hD : va_D A (wsW G al w)) (hq : (keys (gN G))[q]? = some x) (ho : ∀ y, y ≠ x → cellK G al w' y = cellK G al w y) : (wsW G al w).set q (cellK G al w' x) = wsW G al w' := by
  apply List.ext_getElem?
  intro i
  rw [List.getElem?_set]
  by_cases hi : q = i
  · subst hi
    have hl : q < (wsW G al w).length := (List.getElem?_eq_some_iff.mp (ws_at (G := G) (al := al) hq)).1
    rw [if_pos rfl, if_pos hl]
    rw [ws_at (G := G) (al := al) (w := w') (x := x) hq]
  · rw [if_neg hi]
    unfold wsW
    rw [List.getElem?_map, List.getElem?_map]
    cases hk : (keys (gN G))[i]? with
    | none => rfl
    | some y =>
      have hne : y ≠ x := fun e => hi (by
        subst e
        exact hD.1 q i _ _ (ws_at hq) (ws_at hk) rfl)
      simp only [Option.map_some]
      rw [ho y hne]
/-- only the object (c, j) differs -/
theorem sO_at {w : Wd} {c j : Nat} {o : Ob} : (sO w c j o) c j = o := up2_self _ _ _ _
theorem sO_ne {w : Wd} {c j c' j' : Nat} {o : Ob} (h : ¬ (c' = c ∧ j' = j)) : (sO w c j o) c' j' = w c' j' := up2_ne _ _ h
theorem cell_ne {G : Gx} {al : Al} {w : Wd} {c j : Nat} {o : Ob} {y : Nat × Nat × Nat} (h : ¬ (y.1 = c ∧ y.2.1 = j)) : cellK G al (sO w c j o) y = cellK G al w y := by
  unfold cellK cellE
  rw [sO_ne h]
/-- a field written: the rows stay -/
theorem cell_f {G : Gx} {al : Al} {w : Wd} {c j : Nat} {o : Ob} (hr : ∀ k, acell G al o c j k = acell G al (w c j) c j k) : ∀ y, y ≠ (c, j, 0) → cellK G al (sO w c j o) y = cellK G al w y := by
  intro y hy
  obtain ⟨a, b, k⟩ := y
  by_cases h : a = c ∧ b = j
  · obtain ⟨rfl, rfl⟩ := h
    cases k with
    | zero => exact absurd rfl hy
    | succ k =>
      show (al a b (k + 1), acell G al ((sO w a b o) a b) a b k) = (al a b (k + 1), acell G al (w a b) a b k)
      rw [sO_at, hr]
  · exact cell_ne h
/-- an element written: the fields and the other rows stay -/
theorem cell_a {G : Gx} {al : Al} {w : Wd} {c j k0 : Nat} {o : Ob} (hf : flds al o c j = flds al (w c j) c j) (hr : ∀ k, k ≠ k0 → acell G al o c j k = acell G al (w c j) c j k) : ∀ y, y ≠ (c, j, k0 + 1) → cellK G al (sO w c j o) y = cellK G al w y := by
  intro y hy
  obtain ⟨a, b, k⟩ := y
  by_cases h : a = c ∧ b = j
  · obtain ⟨rfl, rfl⟩ := h
    cases k with
    | zero =>
      show (al a b 0, Sum.inr (a, flds al ((sO w a b o) a b) a b)) = (al a b 0, Sum.inr (a, flds al (w a b) a b))
      rw [sO_at, hf]
    | succ k =>
      have hk : k ≠ k0 := fun e => hy (by rw [e])
      show (al a b (k + 1), acell G al ((sO w a b o) a b) a b k) = (al a b (k + 1), acell G al (w a b) a b k)
      rw [sO_at, hr k hk]
  · exact cell_ne h
/-- a field by its place in the pool of a class -/
def FF (own : String) (idx c k : Nat) : Prop := ∃ (C : String) (T : u_T) (N : Nat), vwCl[c]? = some (C, T, N) ∧ k < N ∧ (∀ w ∈ u_ws C T N, w ∈ big) ∧ (Cond.fieldLink own idx (T k).1 (T k).2.1 (T k).2.2.1 ∈ big ∨ ∃ host, Cond.fieldLinkNest own idx (T k).1 (T k).2.1 (T k).2.2.1 host ∈ nst)
/-- a field that may be written, of a type -/
def FT (c k : Nat) (ty : FieldType) : Prop := ∃ (C : String) (T : u_T) (N : Nat) (t0 : Nat → FieldType), vwCl[c]? = some (C, T, N) ∧ (T k).2.2.2 = false ∧ parseFieldDescriptor (T k).2.2.1 = some ty ∧ (∀ k, k < N → parseFieldDescriptor (T k).2.2.1 = some (t0 k)) ∧ (∀ a, a < N → ∀ b, b < N → a ≠ b → (T a).2.1 ≠ (T b).2.1)
/-- an int field -/
def FI (c k : Nat) : Prop := FT c k .int ∧ ∀ (al : Al) (o : Ob) (j : Nat) (v : Int32), flds al (oI o k v) c j = (flds al o c j).set k (.int v) ∧ k < (flds al o c j).length
def FZ (c k : Nat) : Prop := FT c k .boolean ∧ ∀ (al : Al) (o : Ob) (j : Nat) (v : Int32), flds al (oI o k v) c j = (flds al o c j).set k (.int v) ∧ k < (flds al o c j).length
def FJ (c k : Nat) : Prop := FT c k .long ∧ ∀ (al : Al) (o : Ob) (j : Nat) (v : Int64), flds al (oJ o k v) c j = (flds al o c j).set k (.long v) ∧ k < (flds al o c j).length
def FP (c k c2 : Nat) : Prop := (∃ s, FT c k (.object s)) ∧ ∀ (al : Al) (o : Ob) (j v : Nat), flds al (oP o k v) c j = (flds al o c j).set k (pv al c2 v) ∧ k < (flds al o c j).length
/-- the words of a call -/
def CF (own : String) (idx : Nat) (y : MethodName) (cc : ByteArray) (nl : Nat) (ret : Option FieldType) (n : Nat) : Prop :=
  (Cond.code y cc nl ret ∈ big ∧ Cond.initialized y.cls ∈ big) ∧ (y.cls ≠ "java/lang/invoke/MethodHandle" ∧ y.cls ≠ "java/lang/invoke/VarHandle" ∧ (parseMethodDescriptor y.desc).map (fun d => d.parameters.length) = some n) ∧ (Cond.methodLink own idx y ∈ big ∨ ∃ host, Cond.methodLinkNest own idx y host ∈ nst)
