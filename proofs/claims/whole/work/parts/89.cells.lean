/-! ===== the start's cells, by their keys ===== -/
def cn (x : Nat) (f : Nat → Nat) (k : Nat) : Nat := match k with
  | 0 => x
  | k + 1 => f k
def ix11 (k : Nat) : Nat := match k with
  | 5 => 0 | 15 => 1 | 16 => 2 | 17 => 3 | 18 => 4 | 21 => 5 | 22 => 6 | 26 => 7 | 27 => 8 | _ => 9
def ky11 (k : Nat) : Nat := match k with
  | 0 => 6 | 1 => 16 | 2 => 17 | 3 => 18 | 4 => 19 | 5 => 22 | 6 => 23 | 7 => 27 | 8 => 28 | _ => 33
def n0 (c : Nat) : Nat := match c with
  | 0 => 1 | 1 => 1 | 2 => 1 | 3 => 8 | 4 => 1 | 5 => 3 | 6 => 2 | 7 => 21 | 8 => 2 | 9 => 1 | 10 => 0 | 11 => 1 | 12 => 1 | _ => 0
def w0 : Wd := fun c _ => match c with
  | 4 => oP zOb 2 2
  | 9 => oP (oP zOb 2 1) 3 2
  | 11 => oI zOb 2 (-1)
  | _ => zOb
def A0 : Ab := (nI 0, nI 0, nI 0, (0, fun _ => nI 0), none)
theorem aok0 : AOK A0 := ⟨Nat.zero_le _, fun i hi => absurd hi (Nat.not_lt_zero i), trivial⟩
theorem xrel0 : XRel w0 A0 := ⟨0, by decide, rfl, rfl, rfl, rfl, rfl, rfl, fun i hi => absurd hi (Nat.not_lt_zero i), ⟨rfl, rfl, rfl, rfl, rfl⟩, ⟨rfl, rfl, rfl⟩, ⟨rfl, rfl⟩, ⟨rfl, 0, by decide, rfl, fun i hi => absurd hi (Nat.not_lt_zero i)⟩, rfl⟩
theorem mrel0 : MRel 0 w0 A0 := ⟨rfl, rfl, by decide, rfl, fun i hi => absurd hi (Nat.not_lt_zero i), rfl⟩
def kk (c j : Nat) : List Ky := (ksl c).map (fun k => (c, j, k))
/-- as the cells come: the rows of the shelves hold what was laid into them -/
def rawK (G : Gx) (al : Al) (w : Wd) (b6 : Nat → Nat → Nat) (x : Ky) : Nat × va_E := if x.1 = 6 ∧ x.2.2 = 1 then (al 6 x.2.1 1, .inl (G.2.1 4, aln 6 x.2.1 0, .inr (.inr (.inr (.inr (fun i => some (b6 x.2.1 i))))))) else cellK G al w x
section CM
variable {G : Gx} {al : Al} {w : Wd} {b6 : Nat → Nat → Nat} {j : Nat}
theorem raw_ne {x : Ky} (h : x.1 ≠ 6) : rawK G al w b6 x = cellK G al w x := if_neg (fun z => h z.1)
theorem cm_raw {c : Nat} (h : c ≠ 6) : (kk c j).map (rawK G al w b6) = (kk c j).map (cellK G al w) := List.map_congr_left (fun x hx => raw_ne (by
  obtain ⟨k, -, rfl⟩ := List.mem_map.mp hx
  exact h))
theorem ce_o {c k : Nat} {o : Ob} (h : w c j = o) : cellK G al w (c, j, k) = cellK G al (fun _ _ => o) (c, j, k) := by
  unfold cellK cellE
  rw [h]
theorem cm_o {c : Nat} {o : Ob} (h : w c j = o) : (kk c j).map (cellK G al w) = (kk c j).map (cellK G al (fun _ _ => o)) := List.map_congr_left (fun x hx => by
  obtain ⟨k, -, rfl⟩ := List.mem_map.mp hx
  exact ce_o h)
theorem cm0 (h : w 0 0 = zOb) : (kk 0 0).map (rawK G al w b6) = cl0 (al 0 0 0) := by rw [cm_raw (by decide), cm_o h]; rfl
theorem cm1 (h : w 1 0 = zOb) : (kk 1 0).map (rawK G al w b6) = clf1 G (al 1 0 0) (fun k => al 1 0 (k + 1)) := by rw [cm_raw (by decide), cm_o h]; rfl
theorem cm2 (h : w 2 0 = zOb) : rawK G al w b6 (2, 0, 0) = (al 2 0 0, .inr (2, [.ref (al 6 0 0), .int 0, .int 0])) := by rw [raw_ne (by decide), ce_o h]; rfl
theorem cm3 (h : w 3 j = zOb) : (kk 3 j).map (rawK G al w b6) = cl3 G (pln j) (al 3 j 0) (fun k => al 3 j (k + 1)) := by rw [cm_raw (by decide), cm_o h]; rfl
theorem cm4 (h : w 4 0 = oP zOb 2 2) : (kk 4 0).map (rawK G al w b6) = cl4 (al 4 0 0) (al 9 0 1) (al 8 1 0) := by rw [cm_raw (by decide), cm_o h]; rfl
theorem cm5 (h : w 5 j = zOb) : (kk 5 j).map (rawK G al w b6) = cl5 G (al 5 j 0) (fun k => al 5 j (k + 1)) := by rw [cm_raw (by decide), cm_o h]; rfl
theorem cm6a (h : w 6 j = zOb) : rawK G al w b6 (6, j, 0) = (al 6 j 0, .inr (6, [.ref (al 6 j 1)])) := by
  show (if (6 : Nat) = 6 ∧ (0 : Nat) = 1 then _ else _) = _
  rw [if_neg (by decide), ce_o h]
  rfl
theorem cm6b : rawK G al w b6 (6, j, 1) = (al 6 j 1, .inl (G.2.1 4, aln 6 j 0, .inr (.inr (.inr (.inr (fun i => some (b6 j i))))))) := if_pos ⟨rfl, rfl⟩
theorem cm7 (h : w 7 j = zOb) : (kk 7 j).map (rawK G al w b6) = cl7 G (al 7 j 0) (fun k => al 7 j (k + 1)) := by rw [cm_raw (by decide), cm_o h]; rfl
theorem cm8 (h : w 8 j = zOb) : rawK G al w b6 (8, j, 0) = (al 8 j 0, .inr (8, [.ref (al 5 j 0), .ref (al 3 (4 * j) 0), .ref (al 3 (4 * j + 1) 0), .ref (al 3 (4 * j + 2) 0), .ref (al 3 (4 * j + 3) 0)])) := by rw [raw_ne (show (8 : Nat) ≠ 6 by decide), ce_o h]; rfl
theorem cm9a (h : w 9 0 = oP (oP zOb 2 1) 3 2) : rawK G al w b6 (9, 0, 0) = (al 9 0 0, .inr (9, [.ref (al 9 0 1), .int 0, .ref (al 8 0 0), .ref (al 8 1 0), .ref (al 4 0 0), .ref (al 1 0 0), .ref (al 7 0 0), .ref (al 7 1 0), .ref (al 5 2 0), .ref (al 0 0 0), .ref (al 2 0 0), .ref (al 6 1 0), .int 0, .int 0, .int 0, .int 0])) := by rw [raw_ne (by decide), ce_o h]; rfl
theorem cm9b (h : w 9 0 = oP (oP zOb 2 1) 3 2) : rawK G al w b6 (9, 0, 1) = (al 9 0 1, .inl (G.2.1 2, 700, .inl (fun _ => 0))) := by rw [raw_ne (by decide), ce_o h]; rfl
theorem cm11 (h : w 11 0 = oI zOb 2 (-1)) : (kk 11 0).map (rawK G al w b6) = cl11 G (al 11 0 0) (fun k => al 11 0 (ky11 k)) := by rw [cm_raw (by decide), cm_o h]; rfl
theorem cm12 (h : w 12 0 = zOb) : rawK G al w b6 (12, 0, 1) = (al 12 0 1, .inl (G.2.1 5, 1, .inr (.inl (fun _ => 0)))) := by rw [raw_ne (by decide), ce_o h]; rfl
end CM
/-- the keys in the order of making -/
def or8 (j : Nat) : List Ky := (8, j, 0) :: (((([] ++ kk 5 j) ++ kk 3 (4 * j)) ++ kk 3 (4 * j + 1)) ++ kk 3 (4 * j + 2)) ++ kk 3 (4 * j + 3)
def or6 (j n b : Nat) : List Ky := (6, j, 0) :: (6, j, 1) :: (List.range n).flatMap (fun i => kk 7 (b + i))
def or9 : List Ky := (9, 0, 0) :: (((((((((([(9, 0, 1)] ++ or8 0) ++ or8 1) ++ kk 4 0) ++ kk 1 0) ++ kk 7 0) ++ kk 7 1) ++ kk 5 2) ++ kk 0 0) ++ ((2, 0, 0) :: ([] ++ or6 0 16 2))) ++ or6 1 3 18)
def orL : List Ky := (([] ++ or9) ++ kk 11 0) ++ [(12, 0, 1)]
set_option maxRecDepth 100000 in
theorem or_mem : ∀ x ∈ keys n0, x ∈ orL := by decide +kernel
/-- the addresses -/
def alZ (a tp t0 : Nat) (u0 : T8) (t1 : Nat) (u1 : T8) (pa fi : Nat) (bf : Nat → Nat) (s0 : Nat) (b0 : Nat → Nat) (s1 : Nat) (b1 : Nat → Nat) (sh : Nat) (bh : Nat → Nat) (dr hi h6 hr : Nat) (bi : Nat → Nat → Nat) (im ir : Nat) (bm : Nat → Nat → Nat) (m11 : Nat) (bM : Nat → Nat) (q12 : Nat) : Al := fun c j k => match c with
  | 0 => dr
  | 1 => cn fi bf k
  | 2 => hi
  | 3 => (match j with
    | 0 => cn (u0.2.2.1 0) (u0.2.2.2 0) k
    | 1 => cn (u0.2.2.1 1) (u0.2.2.2 1) k
    | 2 => cn (u0.2.2.1 2) (u0.2.2.2 2) k
    | 3 => cn (u0.2.2.1 3) (u0.2.2.2 3) k
    | 4 => cn (u1.2.2.1 0) (u1.2.2.2 0) k
    | 5 => cn (u1.2.2.1 1) (u1.2.2.2 1) k
    | 6 => cn (u1.2.2.1 2) (u1.2.2.2 2) k
    | _ => cn (u1.2.2.1 3) (u1.2.2.2 3) k)
  | 4 => pa
  | 5 => (match j with
    | 0 => cn u0.1 u0.2.1 k
    | 1 => cn u1.1 u1.2.1 k
    | _ => cn sh bh k)
  | 6 => (match j with
    | 0 => cn h6 (fun _ => hr) k
    | _ => cn im (fun _ => ir) k)
  | 7 => if j = 0 then cn s0 b0 k else if j = 1 then cn s1 b1 k else if j < 18 then bi (j - 2) k else bm (j - 18) k
  | 8 => (match j with
    | 0 => t0
    | _ => t1)
  | 9 => cn a (fun _ => tp) k
  | 11 => cn m11 (fun k => bM (ix11 k)) k
  | 12 => q12
  | _ => 0
section AS
variable {G : Gx} {a tp t0 : Nat} {u0 : T8} {t1 : Nat} {u1 : T8} {pa fi : Nat} {bf : Nat → Nat} {s0 : Nat} {b0 : Nat → Nat} {s1 : Nat} {b1 : Nat → Nat} {sh : Nat} {bh : Nat → Nat} {dr hi h6 hr : Nat} {bi : Nat → Nat → Nat} {im ir : Nat} {bm : Nat → Nat → Nat} {m11 : Nat} {bM : Nat → Nat} {q12 : Nat}
theorem al7_h {i k : Nat} (h : i < 16) : alZ a tp t0 u0 t1 u1 pa fi bf s0 b0 s1 b1 sh bh dr hi h6 hr bi im ir bm m11 bM q12 7 (2 + i) k = bi i k := by
  show (if 2 + i = 0 then _ else if 2 + i = 1 then _ else if 2 + i < 18 then bi (2 + i - 2) k else _) = _
  rw [if_neg (by omega), if_neg (by omega), if_pos (by omega), Nat.add_sub_cancel_left]
theorem al7_m {i k : Nat} : alZ a tp t0 u0 t1 u1 pa fi bf s0 b0 s1 b1 sh bh dr hi h6 hr bi im ir bm m11 bM q12 7 (18 + i) k = bm i k := by
  show (if 18 + i = 0 then _ else if 18 + i = 1 then _ else if 18 + i < 18 then _ else bm (18 + i - 18) k) = _
  rw [if_neg (by omega), if_neg (by omega), if_neg (by omega), Nat.add_sub_cancel_left]
theorem cons2 {α : Type} {x y : α} {l l2 : List α} (h : x = y) (h2 : l = l2) : x :: l = y :: l2 := by rw [h, h2]
theorem fm_cg {n : Nat} {f g : Nat → va_W} (h : ∀ i, i < n → f i = g i) : (List.range n).flatMap f = (List.range n).flatMap g := by
  rw [List.flatMap_def, List.flatMap_def, List.map_congr_left (fun x hx => h x (List.mem_range.mp hx))]
abbrev b6S (bi bm : Nat → Nat → Nat) : Nat → Nat → Nat := fun j i => match j with
  | 0 => bi i 0
  | _ => bm i 0
theorem or6_0 : (or6 0 16 2).map (rawK G (alZ a tp t0 u0 t1 u1 pa fi bf s0 b0 s1 b1 sh bh dr hi h6 hr bi im ir bm m11 bM q12) w0 (b6S bi bm)) = cl6 G 16 h6 hr bi := by
  unfold or6 cl6
  rw [List.map_cons, List.map_cons, cm6a rfl, cm6b, List.map_flatMap]
  refine cons2 rfl (cons2 rfl (fm_cg (fun i hq => ?_)))
  rw [cm7 rfl]
  have e : (fun k => alZ a tp t0 u0 t1 u1 pa fi bf s0 b0 s1 b1 sh bh dr hi h6 hr bi im ir bm m11 bM q12 7 (2 + i) (k + 1)) = fun k => bi i (k + 1) := funext (fun k => al7_h hq)
  rw [e, al7_h hq]
theorem or6_1 : (or6 1 3 18).map (rawK G (alZ a tp t0 u0 t1 u1 pa fi bf s0 b0 s1 b1 sh bh dr hi h6 hr bi im ir bm m11 bM q12) w0 (b6S bi bm)) = cl6 G 3 im ir bm := by
  unfold or6 cl6
  rw [List.map_cons, List.map_cons, cm6a rfl, cm6b, List.map_flatMap]
  refine cons2 rfl (cons2 rfl (fm_cg (fun i hq => ?_)))
  rw [cm7 rfl]
  have e : (fun k => alZ a tp t0 u0 t1 u1 pa fi bf s0 b0 s1 b1 sh bh dr hi h6 hr bi im ir bm m11 bM q12 7 (18 + i) (k + 1)) = fun k => bm i (k + 1) := funext (fun k => al7_m)
  rw [e, al7_m]
theorem or8_0 : (or8 0).map (rawK G (alZ a tp t0 u0 t1 u1 pa fi bf s0 b0 s1 b1 sh bh dr hi h6 hr bi im ir bm m11 bM q12) w0 (b6S bi bm)) = cl8t G t0 u0 := by
  unfold or8 cl8t cl8
  rw [List.cons_append, List.map_cons, List.map_append, List.map_append, List.map_append, List.map_append, List.map_append, List.map_nil, cm8 rfl, cm5 rfl, cm3 rfl, cm3 rfl, cm3 rfl, cm3 rfl]
  rfl
theorem or8_1 : (or8 1).map (rawK G (alZ a tp t0 u0 t1 u1 pa fi bf s0 b0 s1 b1 sh bh dr hi h6 hr bi im ir bm m11 bM q12) w0 (b6S bi bm)) = cl8t G t1 u1 := by
  unfold or8 cl8t cl8
  rw [List.cons_append, List.map_cons, List.map_append, List.map_append, List.map_append, List.map_append, List.map_append, List.map_nil, cm8 rfl, cm5 rfl, cm3 rfl, cm3 rfl, cm3 rfl, cm3 rfl]
  rfl
theorem or9_m : or9.map (rawK G (alZ a tp t0 u0 t1 u1 pa fi bf s0 b0 s1 b1 sh bh dr hi h6 hr bi im ir bm m11 bM q12) w0 (b6S bi bm)) = cl9 G a tp t0 u0 t1 u1 pa fi bf s0 b0 s1 b1 sh bh dr hi h6 hr bi im ir bm := by
  unfold or9 cl9 cl2
  rw [List.map_cons, List.map_append, List.map_append, List.map_append, List.map_append, List.map_append, List.map_append, List.map_append, List.map_append, List.map_append, List.map_append, List.map_cons, List.map_nil, List.map_cons, List.map_append, List.map_nil, or6_0, or6_1, or8_0, or8_1, cm0 rfl, cm1 rfl, cm2 rfl, cm4 rfl, cm5 rfl, cm7 rfl, cm7 rfl, cm9a rfl, cm9b rfl]
  rfl
theorem orL_m : orL.map (rawK G (alZ a tp t0 u0 t1 u1 pa fi bf s0 b0 s1 b1 sh bh dr hi h6 hr bi im ir bm m11 bM q12) w0 (b6S bi bm)) = (([] ++ cl9 G a tp t0 u0 t1 u1 pa fi bf s0 b0 s1 b1 sh bh dr hi h6 hr bi im ir bm) ++ cl11 G m11 bM) ++ [(q12, .inl (G.2.1 5, 1, .inr (.inl (fun _ => 0))))] := by
  unfold orL
  rw [List.map_append, List.map_append, List.map_append, List.map_nil, or9_m, cm11 rfl, List.map_cons, List.map_nil, cm12 rfl]
  rfl
end AS
theorem ri_P2 {D : va_G} {H : Heap} {os ks : List Ky} {r cell : Ky → Nat × va_E} (h : va_P D vwCl (os.map r) H) (hm : ∀ x ∈ ks, x ∈ os) (hc : ∀ x ∈ ks, va_at D vwCl (r x) H → va_at D vwCl (cell x) H) : va_P D vwCl (ks.map cell) H := fun k q hq => by
  rw [List.getElem?_map] at hq
  cases hk : ks[k]? with
  | none => rw [hk] at hq; cases hq
  | some x =>
    rw [hk] at hq
    cases hq
    have mx := List.mem_of_getElem? hk
    obtain ⟨i, hi⟩ := List.getElem?_of_mem (hm x mx)
    exact hc x mx (h i _ (by rw [List.getElem?_map, hi]; rfl))
theorem ri_D2 {A : Nat → Prop} {os ks : List Ky} {r cell : Ky → Nat × va_E} (h : va_D A (os.map r)) (hm : ∀ x ∈ ks, x ∈ os) (he : ∀ x ∈ ks, (r x).1 = (cell x).1) (hn : ks.Nodup) : va_D A (ks.map cell) := by
  have key : ∀ (k : Nat) (q : Nat × va_E), (ks.map cell)[k]? = some q → ∃ x i, ks[k]? = some x ∧ q = cell x ∧ os[i]? = some x ∧ (os.map r)[i]? = some (r x) ∧ (r x).1 = q.1 := fun k q hq => by
    rw [List.getElem?_map] at hq
    cases hk : ks[k]? with
    | none => rw [hk] at hq; cases hq
    | some x =>
      rw [hk] at hq
      cases hq
      have mx := List.mem_of_getElem? hk
      obtain ⟨i, hi⟩ := List.getElem?_of_mem (hm x mx)
      exact ⟨x, i, rfl, rfl, hi, by rw [List.getElem?_map, hi]; rfl, he x mx⟩
  refine ⟨fun i j p q hp hq e => ?_, fun k q hq => ?_⟩
  · obtain ⟨x, a, h1, -, h2, h3, h4⟩ := key i p hp
    obtain ⟨y, b, g1, -, g2, g3, g4⟩ := key j q hq
    have e1 : a = b := h.1 a b _ _ h3 g3 (by rw [h4, g4, e])
    subst e1
    have e2 : x = y := Option.some.inj (h2.symm.trans g2)
    subst e2
    exact (List.getElem?_inj (List.getElem?_eq_some_iff.mp h1).1 hn).mp (h1.trans g1.symm)
  · obtain ⟨x, i, -, -, -, h3, h4⟩ := key k q hq
    rw [← h4]
    exact h.2 i _ h3
section AS2
variable {G : Gx} {a tp t0 : Nat} {u0 : T8} {t1 : Nat} {u1 : T8} {pa fi : Nat} {bf : Nat → Nat} {s0 : Nat} {b0 : Nat → Nat} {s1 : Nat} {b1 : Nat → Nat} {sh : Nat} {bh : Nat → Nat} {dr hi h6 hr : Nat} {bi : Nat → Nat → Nat} {im ir : Nat} {bm : Nat → Nat → Nat} {m11 : Nat} {bM : Nat → Nat} {q12 : Nat}
/-- a row of a shelf holds its States -/
theorem raw_at {H : Heap} : ∀ x ∈ keys n0, va_at G.1 vwCl (rawK G (alZ a tp t0 u0 t1 u1 pa fi bf s0 b0 s1 b1 sh bh dr hi h6 hr bi im ir bm m11 bM q12) w0 (b6S bi bm) x) H → va_at G.1 vwCl (cellK G (alZ a tp t0 u0 t1 u1 pa fi bf s0 b0 s1 b1 sh bh dr hi h6 hr bi im ir bm m11 bM q12) w0 x) H := by
  intro x hx
  obtain ⟨c, j, k⟩ := x
  by_cases h : c = 6 ∧ k = 1
  · obtain ⟨rfl, rfl⟩ := h
    rw [cm6b]
    obtain ⟨-, hj, -⟩ := keys_mem hx
    have hj : j < 2 := hj
    intro y
    have y : H[alZ a tp t0 u0 t1 u1 pa fi bf s0 b0 s1 b1 sh bh dr hi h6 hr bi im ir bm m11 bM q12 6 j 1]? = some (arrV (G.2.1 4) (aln 6 j 0) (fun i => va_rf (some (b6S bi bm j i)))) := y
    show H[alZ a tp t0 u0 t1 u1 pa fi bf s0 b0 s1 b1 sh bh dr hi h6 hr bi im ir bm m11 bM q12 6 j 1]? = some (arrV (G.2.1 4) (aln 6 j 0) (fun i => va_rf (some (alZ a tp t0 u0 t1 u1 pa fi bf s0 b0 s1 b1 sh bh dr hi h6 hr bi im ir bm m11 bM q12 7 (sbase j + i) 0))))
    rw [y]
    refine congrArg some (arrV_cg (fun i hi9 => congrArg (fun z => va_rf (some z)) ?_))
    rcases (show j = 0 ∨ j = 1 by omega) with rfl | rfl
    · exact (al7_h (show i < 16 from hi9)).symm
    · show bm i 0 = alZ a tp t0 u0 t1 u1 pa fi bf s0 b0 s1 b1 sh bh dr hi h6 hr bi im ir bm m11 bM q12 7 (18 + i) 0
      exact al7_m.symm
  · have e : rawK G (alZ a tp t0 u0 t1 u1 pa fi bf s0 b0 s1 b1 sh bh dr hi h6 hr bi im ir bm m11 bM q12) w0 (b6S bi bm) (c, j, k) = cellK G (alZ a tp t0 u0 t1 u1 pa fi bf s0 b0 s1 b1 sh bh dr hi h6 hr bi im ir bm m11 bM q12) w0 (c, j, k) := if_neg h
    rw [e]
    exact id
theorem raw_1 {al : Al} {b6 : Nat → Nat → Nat} (x : Ky) : (rawK G al w0 b6 x).1 = (cellK G al w0 x).1 := by
  unfold rawK
  by_cases h : x.1 = 6 ∧ x.2.2 = 1
  · rw [if_pos h]
    show al 6 x.2.1 1 = al x.1 x.2.1 x.2.2
    rw [h.1, h.2]
  · rw [if_neg h]
end AS2
