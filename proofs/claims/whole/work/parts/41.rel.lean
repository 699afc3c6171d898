/-! ===== what class and reference hold, side by side ===== -/
/-- a disk: its bands, what is told, now, what can be undone, images -/
abbrev Dd : Type := Dk × Tk × Sd × (Nat × (Nat → Sd)) × (Nat × (Nat → Sd))
/-- trouble, fault, its place, tape, disk -/
abbrev Ab : Type := Int32 × Int32 × Int32 × (Nat × (Nat → Int32)) × Option Dd
def wrR (D : Dk) (T : Tk) (s : Sd) : Nat → Option Nat
  | 0 => none
  | k + 1 => match wrR D T s k with
    | some i => some i
    | none => if vaS s (T.2.2.2.2.1 k) = T.2.2.2.2.2 k then none else some k
/-- the first read that a set doesn't bear out -/
def wrS (D : Dk) (T : Tk) (S : Int32) : Option Nat := wrR D T (goS D T S T.2.1.1) T.2.2.2.1
def fitB (D : Dk) (T : Tk) (k : Nat) : Bool := match wrS D T (nI k) with
  | none => true
  | some _ => false
/-- the sets that fit: how many, which -/
def fitL (D : Dk) (T : Tk) (n : Nat) : Nat × (Nat → Nat) := ((flt (fitB D T) (fun i => i) (fun _ => 0) n).1, (flt (fitB D T) (fun i => i) (fun _ => 0) n).2.1)
def fitA (D : Dk) (T : Tk) : Nat × (Nat → Nat) := fitL D T (2 ^ T.2.2.1.1)
def RF (o : Ob) (l : Nat × (Nat → Nat)) : Prop := o.1 1 = nI l.1 ∧ ∀ i, i < l.1 → o.2.1 0 i = nI (l.2 i)
def XH (w : Wd) (h : Nat × (Nat → Sd)) : Prop := (w 2 0).1 2 = nI h.1 ∧ ∃ p, p < 16 ∧ (w 2 0).1 1 = nI p ∧ ∀ i, i < h.1 → RX (w 7 (2 + (p + 16 - h.1 + i) % 16)) (h.2 i)
def XD (w : Wd) (q : Nat) (d : Option Dd) : Prop := match d with
  | none => ((w 5 q).1 3 = nI 0 ∧ (w 5 q).1 4 = nI 0 ∧ (w 5 q).1 5 = nI 0 ∧ (w 5 q).1 6 = nI 0 ∧ (w 5 q).1 7 = nI 0) ∧ ((w 3 (4 * q + 1)).1 2 = nI 0 ∧ (w 3 (4 * q + 2)).1 2 = nI 0 ∧ (w 3 (4 * q + 3)).1 2 = nI 0) ∧ ((w 7 0).1 4 = nI 0 ∧ (w 7 0).1 9 = nI 0) ∧ XH w (0, fun _ => bgS ((0, fun _ => 0, fun _ => 0), (0, fun _ => 0, fun _ => 0), (0, fun _ => 0, fun _ => 0), (0, fun _ => 0, fun _ => 0))) ∧ (w 9 0).1 12 = nI 0
  | some (D, T, s, h, im) => RSh (w 5 q) D ∧ RT w q T ∧ RX (w 7 0) s ∧ RF (w 1 0) (fitA D T) ∧ XH w h ∧ (w 9 0).1 12 = nI im.1 ∧ ∀ i, i < im.1 → RX (w 7 (18 + i)) (im.2 i)
def XRel (w : Wd) (A : Ab) : Prop := ∃ q, q < 2 ∧ (w 9 0).2.2.1 2 = q + 1 ∧ (w 9 0).2.2.1 3 = (1 - q) + 1 ∧ (w 9 0).1 13 = A.1 ∧ (w 9 0).1 14 = A.2.1 ∧ (w 9 0).1 15 = A.2.2.1 ∧ (w 9 0).1 1 = nI A.2.2.2.1.1 ∧ (∀ i, i < A.2.2.2.1.1 → (w 9 0).2.1 0 i = A.2.2.2.1.2 i) ∧ XD w q A.2.2.2.2
def MD (nd : Nat) (w : Wd) (d : Option Dd) : Prop := match d with
  | none => (w 11 0).2.2.1 3 = 0
  | some (D, T, s, h, im) => ∃ d, (w 11 0).2.2.1 3 = d + 1 ∧ d < nd ∧ RDm (w 10 d) D ∧ RTm (w 10 d) D T ∧ RM ((w 11 0).2.1 15) s ∧ (w 11 0).1 19 = nI h.1 ∧ (∀ i, i < h.1 → RM (fun t => (w 11 0).2.1 17 (110 * i + t)) (h.2 i)) ∧ (w 11 0).1 20 = nI im.1 ∧ ∀ i, i < im.1 → RM (fun t => (w 11 0).2.1 18 (110 * i + t)) (im.2 i)
def MRel (nd : Nat) (w : Wd) (A : Ab) : Prop := (w 11 0).1 1 = A.1 ∧ (w 11 0).1 12 = A.2.1 ∧ (w 11 0).1 2 = (if A.1 = nI 4 then A.2.2.1 else m1) ∧ (w 11 0).1 6 = nI A.2.2.2.1.1 ∧ (∀ i, i < A.2.2.2.1.1 → (w 11 0).2.1 5 i = A.2.2.2.1.2 i) ∧ MD nd w A.2.2.2.2
def DOK (d : Option Dd) : Prop := match d with
  | none => True
  | some (D, T, s, h, im) => WFD D ∧ D.1 ≤ 6 ∧ WFT D T ∧ WFS D s ∧ QT s ∧ (h.1 ≤ 16 ∧ ∀ i, i < h.1 → WFS D (h.2 i) ∧ QT (h.2 i)) ∧ (im.1 ≤ 3 ∧ ∀ i, i < im.1 → WFS D (im.2 i) ∧ QT (im.2 i))
def AOK (A : Ab) : Prop := A.2.2.2.1.1 ≤ 700 ∧ (∀ i, i < A.2.2.2.1.1 → -128 ≤ (A.2.2.2.1.2 i).toInt ∧ (A.2.2.2.1.2 i).toInt < 128) ∧ DOK A.2.2.2.2
def FX (w w1 : Wd) : Prop := ∀ c j, 10 ≤ c → w1 c j = w c j
def FM (w w1 : Wd) : Prop := ∀ c j, c ≠ 10 → c ≠ 11 → w1 c j = w c j
/-- a call: class and reference answer alike -/
def Cl {α : Type} (F : Wd → Option (α × Wd)) (H : Nat → Wd → Option (α × Wd)) : Prop := ∀ A, AOK A → ∃ r A2, AOK A2 ∧ (∀ w, XRel w A → ∃ w1, F w = some (r, w1) ∧ XRel w1 A2 ∧ FX w w1) ∧ ∀ nd w, MRel nd w A → ∃ w2, H nd w = some (r, w2) ∧ MRel nd w2 A2 ∧ FM w w2
/-- what a question may leave behind in the class -/
def XS (w w1 : Wd) : Prop := ∀ c j, ¬ (c = 7 ∧ j = 1) → ¬ (c = 5 ∧ j = 2) → c ≠ 0 → w1 c j = w c j
section REL
variable {w w1 w2 : Wd} {q nd : Nat} {d : Option Dd} {A : Ab}
theorem XS.rf : XS w w := fun _ _ _ _ _ => rfl
theorem XS.tr (h : XS w w1) (h2 : XS w1 w2) : XS w w2 := fun c j a b e => (h2 c j a b e).trans (h c j a b e)
theorem XS.t {o : Ob} : XS w (sO w 7 1 o) := fun _ _ a _ _ => sO_ne a
theorem XS.s {o : Ob} : XS w (sO w 5 2 o) := fun _ _ _ a _ => sO_ne a
theorem XS.dr {o : Ob} {j : Nat} : XS w (sO w 0 j o) := fun _ _ _ _ a => sO_nc a
/-- the disk's part of the class stands when these stand -/
theorem XD.cg (hq : q < 2) (h : XD w q d) (e5 : w1 5 q = w 5 q) (e3 : ∀ j, w1 3 j = w 3 j) (e7 : ∀ j, j ≠ 1 → w1 7 j = w 7 j) (e1 : w1 1 0 = w 1 0) (e2 : w1 2 0 = w 2 0) (e9 : (w1 9 0).1 12 = (w 9 0).1 12) : XD w1 q d := by
  cases d with
  | none =>
    obtain ⟨a1, a2, a3, a4, a5⟩ := h
    refine ⟨by rw [e5]; exact a1, by rw [e3, e3, e3]; exact a2, by rw [e7 0 (by decide)]; exact a3, ?_, by rw [e9]; exact a5⟩
    obtain ⟨b1, p, b2, b3, b4⟩ := a4
    exact ⟨by rw [e2]; exact b1, p, b2, by rw [e2]; exact b3, fun i hi => absurd hi (Nat.not_lt_zero i)⟩
  | some x =>
    obtain ⟨D, T, s, h, im⟩ := x
    obtain ⟨a1, a2, a3, a4, ⟨b1, p, b2, b3, b4⟩, a6, a7⟩ := h
    refine ⟨by rw [e5]; exact a1, ?_, by rw [e7 0 (by decide)]; exact a3, by rw [e1]; exact a4, ⟨by rw [e2]; exact b1, p, b2, by rw [e2]; exact b3, fun i hi => by rw [e7 _ (by omega)]; exact b4 i hi⟩, by rw [e9]; exact a6, fun i hi => by rw [e7 _ (by omega)]; exact a7 i hi⟩
    unfold RT
    rw [e3, e3, e3, e3]
    exact a2
theorem XD.xs (hq : q < 2) (h : XD w q d) (hs : XS w w1) : XD w1 q d :=
  XD.cg hq h (hs 5 q (by omega) (by omega) (by decide)) (fun j => hs 3 j (by omega) (by omega) (by decide)) (fun j hj => hs 7 j (by omega) (by omega) (by decide)) (hs 1 0 (by omega) (by omega) (by decide)) (hs 2 0 (by omega) (by omega) (by decide)) (by rw [hs 9 0 (by omega) (by omega) (by decide)])
theorem sI_nc {c j k c2 j2 : Nat} {v : Int32} (h : c2 ≠ c) : sI w c j k v c2 j2 = w c2 j2 := sO_nc h
theorem sI_nj {c j k j2 : Nat} {v : Int32} (h : j2 ≠ j) : sI w c j k v c j2 = w c j2 := sO_nj h
theorem sI_i {c j k : Nat} {v : Int32} : (sI w c j k v c j).1 k = v := by unfold sI; rw [sO_at]; exact oI_a
theorem sI_n {c j k m : Nat} {v : Int32} (h : m ≠ k) : (sI w c j k v c j).1 m = (w c j).1 m := by unfold sI; rw [sO_at]; exact oI_n h
theorem sI_2 {c j k : Nat} {v : Int32} : (sI w c j k v c j).2 = (w c j).2 := by unfold sI; rw [sO_at]; rfl
theorem XRel.qy (h : XRel w A) (hs : XS w w1) {k : Int32} : XRel (sI w1 9 0 13 k) (k, A.2) := by
  obtain ⟨q, h1, h2, h3, h4, h5, h6, h7, h8, h9⟩ := h
  have e : w1 9 0 = w 9 0 := hs 9 0 (by omega) (by omega) (by decide)
  refine ⟨q, h1, by rw [sI_2, e]; exact h2, by rw [sI_2, e]; exact h3, sI_i, by rw [sI_n (by decide), e]; exact h5, by rw [sI_n (by decide), e]; exact h6, by rw [sI_n (by decide), e]; exact h7, by rw [sI_2, e]; exact h8, ?_⟩
  exact XD.cg h1 (h9.xs h1 hs) (sI_nc (by decide)) (fun j => sI_nc (by decide)) (fun j _ => sI_nc (by decide)) (sI_nc (by decide)) (sI_nc (by decide)) (sI_n (by decide))
theorem SM.p1 {k : Nat} {v : Int32} : (∀ c i, ¬ (c = 11 ∧ i = 0) → sI w 11 0 k v c i = w c i) ∧ (sI w 11 0 k v 11 0).2 = (w 11 0).2 := ⟨fun c i z => sO_ne z, sI_2⟩
theorem MD.cg (h : MD nd w d) (e10 : ∀ j, w1 10 j = w 10 j) (ep : (w1 11 0).2.2.1 3 = (w 11 0).2.2.1 3) (ei : ∀ k, k ∈ [19, 20] → (w1 11 0).1 k = (w 11 0).1 k) (er : ∀ k, k ∈ [15, 17, 18] → (w1 11 0).2.1 k = (w 11 0).2.1 k) : MD nd w1 d := by
  cases d with
  | none => exact ep.trans h
  | some x =>
    obtain ⟨D, T, s, h, im⟩ := x
    obtain ⟨d, a1, a2, a3, a4, a5, a6, a7, a8, a9⟩ := h
    exact ⟨d, by rw [ep]; exact a1, a2, by rw [e10]; exact a3, by rw [e10]; exact a4, by rw [er 15 (by decide)]; exact a5, by rw [ei 19 (by decide)]; exact a6, by rw [er 17 (by decide)]; exact a7, by rw [ei 20 (by decide)]; exact a8, by rw [er 18 (by decide)]; exact a9⟩
theorem MD.sm (h : MD nd w d) (hs : SM w w1) : MD nd w1 d :=
  MD.cg h (fun j => hs.1 10 j (by omega)) (by rw [hs.2.1]) (fun k hk => hs.2.2.1 k (by simp only [List.mem_cons, List.not_mem_nil, or_false] at hk ⊢; omega)) (fun k hk => hs.2.2.2 k (by simp only [List.mem_cons, List.not_mem_nil, or_false] at hk ⊢; omega))
/-- trouble told by the reference -/
def mT (w : Wd) (k : Int32) : Wd := sI (sI w 11 0 1 k) 11 0 2 m1
theorem MRel.qy (h : MRel nd w A) (hs : SM w w1) {k : Nat} (hk : k < 4 ∨ 4 < k) (hk2 : k < 9) : MRel nd (mT w1 (nI k)) (nI k, A.2) := by
  obtain ⟨h1, h2, h3, h4, h5, h6⟩ := h
  unfold mT
  refine ⟨by rw [sI_n (by decide), sI_i], by rw [sI_n (by decide), sI_n (by decide), hs.2.2.1 12 (by decide)]; exact h2, ?_, by rw [sI_n (by decide), sI_n (by decide), hs.2.2.1 6 (by decide)]; exact h4, by rw [sI_2, sI_2, hs.2.2.2 5 (by decide)]; exact h5, ?_⟩
  · show _ = if nI k = nI 4 then A.2.2.1 else m1
    rw [sI_i, if_neg (fun z => by have := (nI_eq (by omega) (by omega)).mp z; omega)]
  · refine MD.cg (h6.sm hs) (fun j => by rw [sI_nc (by decide), sI_nc (by decide)]) (by rw [sI_2, sI_2]) (fun k hk => ?_) (fun k hk => by rw [sI_2, sI_2])
    have : k ≠ 1 ∧ k ≠ 2 := by simp only [List.mem_cons, List.not_mem_nil, or_false] at hk; omega
    rw [sI_n this.2, sI_n this.1]
/-- a question: it may be refused, and changes nothing else -/
def Qy {α : Type} (F : Wd → Option (α × Wd)) (H : Nat → Wd → Option (α × Wd)) : Prop := ∀ d, DOK d → ∃ r k, (k < 4 ∨ 4 < k) ∧ k < 9 ∧ (∀ w q, q < 2 → (w 9 0).2.2.1 2 = q + 1 → XD w q d → ∃ w1, XS w w1 ∧ F w = some (r, sI w1 9 0 13 (nI k))) ∧ ∀ nd w w1, w1 = sI w 11 0 0 (nI 0) → MD nd w1 d → ∃ w2, SM w1 w2 ∧ H nd w = some (r, mT w2 (nI k))
theorem SM.fm (h : SM w w1) : FM w w1 := fun c j _ b => h.1 c j (by omega)
theorem Qy.cl {α : Type} {F : Wd → Option (α × Wd)} {H : Nat → Wd → Option (α × Wd)} (h : Qy F H) : Cl F H := by
  intro A hA
  obtain ⟨r, k, h1, h2, h3, h4⟩ := h A.2.2.2.2 hA.2.2
  refine ⟨r, (nI k, A.2), hA, fun w hw => ?_, fun nd w hw => ?_⟩
  · have hw' := hw
    obtain ⟨q, a1, a2, a3, a4, a5, a6, a7, a8, a9⟩ := hw'
    obtain ⟨w1, b1, b2⟩ := h3 w q a1 a2 a9
    refine ⟨_, b2, hw.qy b1, fun c j hc => ?_⟩
    rw [sI_nc (by omega)]
    exact b1 c j (by omega) (by omega) (by omega)
  · have s1 : SM w (sI w 11 0 0 (nI 0)) := SM.i (by decide)
    obtain ⟨w2, b1, b2⟩ := h4 nd w _ rfl (hw.2.2.2.2.2.sm s1)
    refine ⟨_, b2, hw.qy (s1.tr b1) h1 h2, fun c j hc hd => ?_⟩
    unfold mT
    rw [sI_nc hd, sI_nc hd]
    exact (s1.tr b1).fm c j hc hd
/-- what a question of what fits may leave behind -/
def SW (w w2 : Wd) : Prop := (∀ c i, ¬ (c = 11 ∧ i = 0) → w2 c i = w c i) ∧ (w2 11 0).2.2.1 = (w 11 0).2.2.1 ∧ (∀ k, k ∈ [1, 2, 6, 12, 19, 20] → (w2 11 0).1 k = (w 11 0).1 k) ∧ ∀ k, k ∈ [5, 15, 17, 18] → (w2 11 0).2.1 k = (w 11 0).2.1 k
theorem SM.sw (h : SM w w1) : SW w w1 := ⟨h.1, h.2.1, fun k hk => h.2.2.1 k (by simp only [List.mem_cons, List.not_mem_nil, or_false] at hk ⊢; omega), fun k hk => h.2.2.2 k (by simp only [List.mem_cons, List.not_mem_nil, or_false] at hk ⊢; omega)⟩
theorem SW.tr {w1 w2 w3 : Wd} (h : SW w1 w2) (h2 : SW w2 w3) : SW w1 w3 := ⟨fun c i z => (h2.1 c i z).trans (h.1 c i z), h2.2.1.trans h.2.1, fun k z => (h2.2.2.1 k z).trans (h.2.2.1 k z), fun k z => (h2.2.2.2 k z).trans (h.2.2.2 k z)⟩
theorem SW.i {k : Nat} {v : Int32} (hk : k ∉ [1, 2, 6, 12, 19, 20]) : SW w (sI w 11 0 k v) := by
  unfold sI
  refine ⟨fun c i z => sO_ne z, by rw [sO_at]; rfl, fun q hq => ?_, fun q _ => by rw [sO_at]; rfl⟩
  rw [sO_at]
  exact oI_n (fun e => hk (by rw [← e]; exact hq))
theorem SW.a {k i : Nat} {v : Int32} (hk : k ∉ [5, 15, 17, 18]) : SW w (sA w 11 0 k i v) := by
  unfold sA
  refine ⟨fun c i z => sO_ne z, by rw [sO_at]; rfl, fun q hq => by rw [sO_at]; rfl, fun q hq => ?_⟩
  rw [sO_at]
  exact oA_n (fun e => hk (by rw [← e]; exact hq))
theorem SW.rf : SW w w := SM.rf.sw
theorem MD.sw (h : MD nd w d) (hs : SW w w1) : MD nd w1 d :=
  MD.cg h (fun j => hs.1 10 j (by omega)) (by rw [hs.2.1]) (fun k hk => hs.2.2.1 k (by simp only [List.mem_cons, List.not_mem_nil, or_false] at hk ⊢; omega)) (fun k hk => hs.2.2.2 k (by simp only [List.mem_cons, List.not_mem_nil, or_false] at hk ⊢; omega))
theorem MRel.qw (h : MRel nd w A) (hs : SW w w1) {k : Nat} (hk : k < 4 ∨ 4 < k) (hk2 : k < 9) : MRel nd (mT w1 (nI k)) (nI k, A.2) := by
  obtain ⟨h1, h2, h3, h4, h5, h6⟩ := h
  unfold mT
  refine ⟨by rw [sI_n (by decide), sI_i], by rw [sI_n (by decide), sI_n (by decide), hs.2.2.1 12 (by decide)]; exact h2, ?_, by rw [sI_n (by decide), sI_n (by decide), hs.2.2.1 6 (by decide)]; exact h4, by rw [sI_2, sI_2, hs.2.2.2 5 (by decide)]; exact h5, ?_⟩
  · show _ = if nI k = nI 4 then A.2.2.1 else m1
    rw [sI_i, if_neg (fun z => by have := (nI_eq (by omega) (by omega)).mp z; omega)]
  · refine MD.cg (h6.sw hs) (fun j => by rw [sI_nc (by decide), sI_nc (by decide)]) (by rw [sI_2, sI_2]) (fun k hk => ?_) (fun k hk => by rw [sI_2, sI_2])
    have : k ≠ 1 ∧ k ≠ 2 := by simp only [List.mem_cons, List.not_mem_nil, or_false] at hk; omega
    rw [sI_n this.2, sI_n this.1]
def Qw {α : Type} (F : Wd → Option (α × Wd)) (H : Nat → Wd → Option (α × Wd)) : Prop := ∀ d, DOK d → ∃ r k, (k < 4 ∨ 4 < k) ∧ k < 9 ∧ (∀ w q, q < 2 → (w 9 0).2.2.1 2 = q + 1 → XD w q d → ∃ w1, XS w w1 ∧ F w = some (r, sI w1 9 0 13 (nI k))) ∧ ∀ nd w w1, w1 = sI w 11 0 0 (nI 0) → MD nd w1 d → ∃ w2, SW w1 w2 ∧ H nd w = some (r, mT w2 (nI k))
theorem Qw.cl {α : Type} {F : Wd → Option (α × Wd)} {H : Nat → Wd → Option (α × Wd)} (h : Qw F H) : Cl F H := by
  intro A hA
  obtain ⟨r, k, h1, h2, h3, h4⟩ := h A.2.2.2.2 hA.2.2
  refine ⟨r, (nI k, A.2), hA, fun w hw => ?_, fun nd w hw => ?_⟩
  · have hw' := hw
    obtain ⟨q, a1, a2, a3, a4, a5, a6, a7, a8, a9⟩ := hw'
    obtain ⟨w1, b1, b2⟩ := h3 w q a1 a2 a9
    refine ⟨_, b2, hw.qy b1, fun c j hc => ?_⟩
    rw [sI_nc (by omega)]
    exact b1 c j (by omega) (by omega) (by omega)
  · have s1 : SW w (sI w 11 0 0 (nI 0)) := SW.i (by decide)
    obtain ⟨w2, b1, b2⟩ := h4 nd w _ rfl (hw.2.2.2.2.2.sw s1)
    refine ⟨_, b2, hw.qw (s1.tr b1) h1 h2, fun c j hc hd => ?_⟩
    unfold mT
    rw [sI_nc hd, sI_nc hd]
    exact (s1.tr b1).1 c j (by omega)
/-! the small methods -/
theorem x_refuse {k : Int32} : fX9_refuse w k = some (m1, sI w 9 0 13 k) := rfl
theorem x_accept {k : Int32} : fX9_accept w k = some (k, sI w 9 0 13 (nI 0)) := rfl
theorem m_refused {k : Int32} : fX11_refused nd w k = some (m1, mT w k) := rfl
theorem m_good {k : Int32} : fX11_good nd w k = some (k, mT w (nI 0)) := rfl
theorem rng (x : Int32) {n : Nat} (hn : n < 2 ^ 31) : (∃ t, t < n ∧ x = nI t) ∨ (x < nI 0 ∨ ¬ x < nI 0 ∧ nI n ≤ x) := by
  by_cases h0 : x < nI 0
  · exact Or.inr (Or.inl h0)
  · by_cases h1 : nI n ≤ x
    · exact Or.inr (Or.inr ⟨h0, h1⟩)
    · refine Or.inl ⟨x.toInt.toNat, ?_, ?_⟩
      · rw [Int32.lt_iff_toInt_lt, nI_toInt (by omega)] at h0
        rw [Int32.le_iff_toInt_le, nI_toInt hn] at h1
        omega
      · rw [Int32.lt_iff_toInt_lt, nI_toInt (by omega)] at h0
        rw [Int32.le_iff_toInt_le, nI_toInt hn] at h1
        apply Int32.toInt_inj.mp
        rw [nI_toInt (by omega)]
        omega
theorem x_hD0 (hp : (w 9 0).2.2.1 2 = q + 1) (hq : q < 2) (h : (w 5 q).1 3 = nI 0) : fX9_hasDisk w = some (nI 0, w) := by
  unfold fX9_hasDisk
  rw [hp, ckp_su hq, h]
  rfl
theorem x_hD1 (hp : (w 9 0).2.2.1 2 = q + 1) (hq : q < 2) {n : Nat} (h : (w 5 q).1 3 = nI n) (h1 : 1 ≤ n) (h2 : n < 2 ^ 31) : fX9_hasDisk w = some (nI 1, w) := by
  unfold fX9_hasDisk
  simp (disch := omega) only [↓mo_1, ↓mo_2, ad_m1, ite_m1_lt, ite_m2_lt, ite_le_m1, ite_eq_m1, ite_eq_m2, ite_m1_m1, ite_m2_m2, ite_T, ite_F, ite_nz, ite_zz, ite_m1_le, ite_m1_eq, oi_none, oi_some, ob_some, lw_def, ck_true, ckp_su, ite_lt_t, ite_lt_f, ite_le_t, ite_le_f, ite_eq_t, ite_eq_f, ck_inb, nI_add, sb_nI, mu_nI, nI_clamp, sO_at, sO_sO, Nat.add_sub_cancel, Nat.zero_add, Nat.add_zero, li_0, li_1, li_2, li_3, li_4, li_5, li_6, li_7, li_8, li_9, li_10, li_11, li_12, li_16, li_20, li_24, li_31, li_32, li_48, li_49, li_73, li_74, li_75, li_97, li_98, li_99, li_100, li_101, li_109, li_110, li_255, li_680, li_700, li_9999, li_65536, li_65537, hp, h]
theorem x_hT0 (hp : (w 9 0).2.2.1 2 = q + 1) (hq : q < 2) {n : Nat} {x : Int32} (h : (w 5 q).1 4 = nI n) (hx : x < nI 0 ∨ ¬ x < nI 0 ∧ nI n ≤ x) : fX9_hasTrack w x = some (nI 0, w) := by
  unfold fX9_hasTrack
  rw [hp, ckp_su hq, h]
  rcases hx with hx | ⟨hx, hy⟩
  · exact if_pos hx
  · exact (if_neg hx).trans (if_pos hy)
theorem x_hT1 (hp : (w 9 0).2.2.1 2 = q + 1) (hq : q < 2) {n t : Nat} (h : (w 5 q).1 4 = nI n) (hn : n < 2 ^ 31) (ht : t < n) : fX9_hasTrack w (nI t) = some (nI 1, w) := by
  unfold fX9_hasTrack
  rw [hp, ckp_su hq, h]
  simp (disch := omega) only [↓mo_1, ↓mo_2, ad_m1, ite_m1_lt, ite_m2_lt, ite_le_m1, ite_eq_m1, ite_eq_m2, ite_m1_m1, ite_m2_m2, ite_T, ite_F, ite_nz, ite_zz, ite_m1_le, ite_m1_eq, oi_none, oi_some, ob_some, lw_def, ck_true, ckp_su, ite_lt_t, ite_lt_f, ite_le_t, ite_le_f, ite_eq_t, ite_eq_f, ck_inb, nI_add, sb_nI, mu_nI, nI_clamp, sO_at, sO_sO, Nat.add_sub_cancel, Nat.zero_add, Nat.add_zero, li_0, li_1, li_2, li_3, li_4, li_5, li_6, li_7, li_8, li_9, li_10, li_11, li_12, li_16, li_20, li_24, li_31, li_32, li_48, li_49, li_73, li_74, li_75, li_97, li_98, li_99, li_100, li_101, li_109, li_110, li_255, li_680, li_700, li_9999, li_65536, li_65537]
theorem x_hB0 (hp : (w 9 0).2.2.1 2 = q + 1) (hq : q < 2) {n : Nat} {x : Int32} (h : (w 5 q).1 3 = nI n) (hx : x < nI 0 ∨ ¬ x < nI 0 ∧ nI n ≤ x) : fX9_hasBand w x = some (nI 0, w) := by
  unfold fX9_hasBand
  rw [hp, ckp_su hq, h]
  rcases hx with hx | ⟨hx, hy⟩
  · exact if_pos hx
  · exact (if_neg hx).trans (if_pos hy)
theorem x_hB1 (hp : (w 9 0).2.2.1 2 = q + 1) (hq : q < 2) {n t : Nat} (h : (w 5 q).1 3 = nI n) (hn : n < 2 ^ 31) (ht : t < n) : fX9_hasBand w (nI t) = some (nI 1, w) := by
  unfold fX9_hasBand
  rw [hp, ckp_su hq, h]
  simp (disch := omega) only [↓mo_1, ↓mo_2, ad_m1, ite_m1_lt, ite_m2_lt, ite_le_m1, ite_eq_m1, ite_eq_m2, ite_m1_m1, ite_m2_m2, ite_T, ite_F, ite_nz, ite_zz, ite_m1_le, ite_m1_eq, oi_none, oi_some, ob_some, lw_def, ck_true, ckp_su, ite_lt_t, ite_lt_f, ite_le_t, ite_le_f, ite_eq_t, ite_eq_f, ck_inb, nI_add, sb_nI, mu_nI, nI_clamp, sO_at, sO_sO, Nat.add_sub_cancel, Nat.zero_add, Nat.add_zero, li_0, li_1, li_2, li_3, li_4, li_5, li_6, li_7, li_8, li_9, li_10, li_11, li_12, li_16, li_20, li_24, li_31, li_32, li_48, li_49, li_73, li_74, li_75, li_97, li_98, li_99, li_100, li_101, li_109, li_110, li_255, li_680, li_700, li_9999, li_65536, li_65537]
theorem n_z (x : Int32) : x < nI 0 ∨ ¬ x < nI 0 ∧ nI 0 ≤ x := by
  by_cases h : x < nI 0
  · exact Or.inl h
  · exact Or.inr ⟨h, by rw [Int32.lt_iff_toInt_lt] at h; rw [Int32.le_iff_toInt_le]; omega⟩
theorem m_iT {e : Nat} (hp : (w 11 0).2.2.1 3 = e + 1) (hd : e < nd) {n : Nat} {x : Int32} (h : (w 10 e).1 3 = nI n) (hx : x < nI 0 ∨ ¬ x < nI 0 ∧ nI n ≤ x) : fX11_isTrack nd w x = some (nI 0, w) := by
  unfold fX11_isTrack
  rw [hp, if_neg (Nat.succ_ne_zero e), ckp_su hd, h]
  rcases hx with hx | ⟨hx, hy⟩
  · exact if_pos hx
  · exact (if_neg hx).trans (if_pos hy)
theorem m_iT0 (hp : (w 11 0).2.2.1 3 = 0) {x : Int32} : fX11_isTrack nd w x = some (nI 0, w) := by
  unfold fX11_isTrack
  rw [hp]
  rfl
theorem m_iT1 {e : Nat} (hp : (w 11 0).2.2.1 3 = e + 1) (hd : e < nd) {n t : Nat} (h : (w 10 e).1 3 = nI n) (hn : n < 2 ^ 31) (ht : t < n) : fX11_isTrack nd w (nI t) = some (nI 1, w) := by
  unfold fX11_isTrack
  rw [hp, if_neg (Nat.succ_ne_zero e), ckp_su hd, h]
  simp (disch := omega) only [↓mo_1, ↓mo_2, ad_m1, ite_m1_lt, ite_m2_lt, ite_le_m1, ite_eq_m1, ite_eq_m2, ite_m1_m1, ite_m2_m2, ite_T, ite_F, ite_nz, ite_zz, ite_m1_le, ite_m1_eq, oi_none, oi_some, ob_some, lw_def, ck_true, ckp_su, ite_lt_t, ite_lt_f, ite_le_t, ite_le_f, ite_eq_t, ite_eq_f, ck_inb, nI_add, sb_nI, mu_nI, nI_clamp, sO_at, sO_sO, Nat.add_sub_cancel, Nat.zero_add, Nat.add_zero, li_0, li_1, li_2, li_3, li_4, li_5, li_6, li_7, li_8, li_9, li_10, li_11, li_12, li_16, li_20, li_24, li_31, li_32, li_48, li_49, li_73, li_74, li_75, li_97, li_98, li_99, li_100, li_101, li_109, li_110, li_255, li_680, li_700, li_9999, li_65536, li_65537]
theorem m_iB {e : Nat} (hp : (w 11 0).2.2.1 3 = e + 1) (hd : e < nd) {n : Nat} {x : Int32} (h : (w 10 e).1 2 = nI n) (hx : x < nI 0 ∨ ¬ x < nI 0 ∧ nI n ≤ x) : fX11_isBand nd w x = some (nI 0, w) := by
  unfold fX11_isBand
  rw [hp, if_neg (Nat.succ_ne_zero e), ckp_su hd, h]
  rcases hx with hx | ⟨hx, hy⟩
  · exact if_pos hx
  · exact (if_neg hx).trans (if_pos hy)
theorem m_iB0 (hp : (w 11 0).2.2.1 3 = 0) {x : Int32} : fX11_isBand nd w x = some (nI 0, w) := by
  unfold fX11_isBand
  rw [hp]
  rfl
theorem m_iB1 {e : Nat} (hp : (w 11 0).2.2.1 3 = e + 1) (hd : e < nd) {n t : Nat} (h : (w 10 e).1 2 = nI n) (hn : n < 2 ^ 31) (ht : t < n) : fX11_isBand nd w (nI t) = some (nI 1, w) := by
  unfold fX11_isBand
  rw [hp, if_neg (Nat.succ_ne_zero e), ckp_su hd, h]
  simp (disch := omega) only [↓mo_1, ↓mo_2, ad_m1, ite_m1_lt, ite_m2_lt, ite_le_m1, ite_eq_m1, ite_eq_m2, ite_m1_m1, ite_m2_m2, ite_T, ite_F, ite_nz, ite_zz, ite_m1_le, ite_m1_eq, oi_none, oi_some, ob_some, lw_def, ck_true, ckp_su, ite_lt_t, ite_lt_f, ite_le_t, ite_le_f, ite_eq_t, ite_eq_f, ck_inb, nI_add, sb_nI, mu_nI, nI_clamp, sO_at, sO_sO, Nat.add_sub_cancel, Nat.zero_add, Nat.add_zero, li_0, li_1, li_2, li_3, li_4, li_5, li_6, li_7, li_8, li_9, li_10, li_11, li_12, li_16, li_20, li_24, li_31, li_32, li_48, li_49, li_73, li_74, li_75, li_97, li_98, li_99, li_100, li_101, li_109, li_110, li_255, li_680, li_700, li_9999, li_65536, li_65537]
theorem m_isDown {s : Sd} (h : RM ((w 11 0).2.1 15) s) : fX11_isDown nd w = some (b2i (sdn s), w) := by
  unfold fX11_isDown
  simp (disch := omega) only [↓mo_1, ↓mo_2, ad_m1, ite_m1_lt, ite_m2_lt, ite_le_m1, ite_eq_m1, ite_eq_m2, ite_m1_m1, ite_m2_m2, ite_T, ite_F, ite_nz, ite_zz, ite_m1_le, ite_m1_eq, oi_none, oi_some, ob_some, lw_def, ck_true, ckp_su, ite_lt_t, ite_lt_f, ite_le_t, ite_le_f, ite_eq_t, ite_eq_f, ck_inb, nI_add, sb_nI, mu_nI, nI_clamp, sO_at, sO_sO, Nat.add_sub_cancel, Nat.zero_add, Nat.add_zero, li_0, li_1, li_2, li_3, li_4, li_5, li_6, li_7, li_8, li_9, li_10, li_11, li_12, li_16, li_20, li_24, li_31, li_32, li_48, li_49, li_73, li_74, li_75, li_97, li_98, li_99, li_100, li_101, li_109, li_110, li_255, li_680, li_700, li_9999, li_65536, li_65537, h.2.2.2.2.2.2.2.2.1]
  cases sdn s <;> rfl
theorem m_in1 {a b c : Nat} (h : b < 2 ^ 31) (ha : a ≤ b) (hb : b ≤ c) (hc : c < 2 ^ 31) : fX11_in nd w (nI b) (nI a) (nI c) = some (nI 1, w) := by
  unfold fX11_in
  simp (disch := omega) only [↓mo_1, ↓mo_2, ad_m1, ite_m1_lt, ite_m2_lt, ite_le_m1, ite_eq_m1, ite_eq_m2, ite_m1_m1, ite_m2_m2, ite_T, ite_F, ite_nz, ite_zz, ite_m1_le, ite_m1_eq, oi_none, oi_some, ob_some, lw_def, ck_true, ckp_su, ite_lt_t, ite_lt_f, ite_le_t, ite_le_f, ite_eq_t, ite_eq_f, ck_inb, nI_add, sb_nI, mu_nI, nI_clamp, sO_at, sO_sO, Nat.add_sub_cancel, Nat.zero_add, Nat.add_zero, li_0, li_1, li_2, li_3, li_4, li_5, li_6, li_7, li_8, li_9, li_10, li_11, li_12, li_16, li_20, li_24, li_31, li_32, li_48, li_49, li_73, li_74, li_75, li_97, li_98, li_99, li_100, li_101, li_109, li_110, li_255, li_680, li_700, li_9999, li_65536, li_65537]
theorem m_in0 {x : Int32} {n : Nat} (hx : x < nI 0 ∨ ¬ x < nI 0 ∧ nI (n + 1) ≤ x) (hn : n < 2 ^ 30) : fX11_in nd w x (nI 0) (nI n) = some (nI 0, w) := by
  unfold fX11_in
  rcases hx with hx | ⟨hx, hy⟩
  · exact if_pos hx
  · refine (if_neg hx).trans (if_pos ?_)
    rw [Int32.le_iff_toInt_le, nI_toInt (by omega)] at hy
    rw [Int32.lt_iff_toInt_lt, nI_toInt (by omega)]
    omega
end REL
