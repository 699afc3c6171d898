/-! ===== the reference's disk makes a Disk ===== -/
abbrev Ky : Type := Nat × Nat × Nat
theorem ri_P {D : va_G} {H : Heap} {ws : va_W} {ks : List Ky} {cell : Ky → Nat × va_E} {f : Ky → Nat} (h : va_P D vwCl ws H) (hf : ∀ x ∈ ks, ws[f x]? = some (cell x)) : va_P D vwCl (ks.map cell) H := fun k q hq => by
  rw [List.getElem?_map] at hq
  cases hk : ks[k]? with
  | none => rw [hk] at hq; cases hq
  | some x =>
    rw [hk] at hq
    cases hq
    exact h (f x) _ (hf x (List.mem_of_getElem? hk))
theorem ri_D {A : Nat → Prop} {ws : va_W} {ks : List Ky} {cell : Ky → Nat × va_E} {f : Ky → Nat} (h : va_D A ws) (hf : ∀ x ∈ ks, ws[f x]? = some (cell x)) (hi : ∀ x ∈ ks, ∀ y ∈ ks, f x = f y → x = y) (hn : ks.Nodup) : va_D A (ks.map cell) := by
  have key : ∀ (k : Nat) (q : Nat × va_E), (ks.map cell)[k]? = some q → ∃ x, ks[k]? = some x ∧ q = cell x := fun k q hq => by
    rw [List.getElem?_map] at hq
    cases hk : ks[k]? with
    | none => rw [hk] at hq; cases hq
    | some x => rw [hk] at hq; cases hq; exact ⟨x, rfl, rfl⟩
  refine ⟨fun i j p q hp hq e => ?_, fun k q hq => ?_⟩
  · obtain ⟨x, hx, rfl⟩ := key i p hp
    obtain ⟨y, hy, rfl⟩ := key j q hq
    have mx := List.mem_of_getElem? hx
    have my := List.mem_of_getElem? hy
    have e1 := hi x mx y my (h.1 _ _ _ _ (hf x mx) (hf y my) e)
    subst e1
    exact (List.getElem?_inj (List.getElem?_eq_some_iff.mp hx).1 hn).mp (hx.trans hy.symm)
  · obtain ⟨x, hx, rfl⟩ := key k q hq
    exact h.2 _ _ (hf x (List.mem_of_getElem? hx))
theorem keys_nd (n : Nat → Nat) : (keys n).Nodup := by
  unfold keys
  refine List.pairwise_flatMap.mpr ⟨fun c _ => List.pairwise_flatMap.mpr ⟨fun j _ => ?_, ?_⟩, ?_⟩
  · refine List.pairwise_map.mpr ?_
    have : (ksl c).Nodup := by
      unfold ksl
      split <;> decide
    exact this.imp (fun h e => h (by cases e; rfl))
  · refine List.nodup_range.imp (fun {a b} h x hx y hy e => ?_)
    obtain ⟨k, -, rfl⟩ := List.mem_map.mp hx
    obtain ⟨k2, -, rfl⟩ := List.mem_map.mp hy
    cases e
    exact h rfl
  · refine List.nodup_range.imp (fun {a b} h x hx y hy e => ?_)
    obtain ⟨j, -, hx⟩ := List.mem_flatMap.mp hx
    obtain ⟨j2, -, hy⟩ := List.mem_flatMap.mp hy
    obtain ⟨k, -, rfl⟩ := List.mem_map.mp hx
    obtain ⟨k2, -, rfl⟩ := List.mem_map.mp hy
    cases e
    exact h rfl
theorem keys_mem {n : Nat → Nat} {c j k : Nat} (h : (c, j, k) ∈ keys n) : c < 13 ∧ j < n c ∧ k ∈ ksl c := by
  unfold keys at h
  obtain ⟨c2, hc, h⟩ := List.mem_flatMap.mp h
  obtain ⟨j2, hj, h⟩ := List.mem_flatMap.mp h
  obtain ⟨k2, hk, h⟩ := List.mem_map.mp h
  cases h
  exact ⟨List.mem_range.mp hc, List.mem_range.mp hj, hk⟩
/-- addresses with one Disk more -/
def alN (al : Al) (nd q : Nat) (b : Nat → Nat) : Al := fun c j k => if c = 10 ∧ j = nd then (match k with
  | 0 => q
  | k + 1 => b (k - 9)) else al c j k
def nU (n : Nat → Nat) : Nat → Nat := fun c => if c = 10 then n 10 + 1 else n c
section AN
variable {al : Al} {nd q : Nat} {b : Nat → Nat}
theorem alN_ne {c j k : Nat} (h : c ≠ 10 ∨ j ≠ nd) : alN al nd q b c j k = al c j k := if_neg (fun z => by omega)
theorem alN_0 : alN al nd q b 10 nd 0 = q := if_pos ⟨rfl, rfl⟩
theorem alN_s {k : Nat} : alN al nd q b 10 nd (k + 1) = b (k - 9) := if_pos ⟨rfl, rfl⟩
theorem alN_c {c j k : Nat} (h : c < 10) : alN al nd q b c j k = al c j k := alN_ne (Or.inl (by omega))
theorem pvN {c p : Nat} (h : c < 10) : pv (alN al nd q b) c p = pv al c p := by
  cases p with
  | zero => rfl
  | succ n =>
    show Value.ref (alN al nd q b c n 0) = Value.ref (al c n 0)
    rw [alN_c h]
theorem pvM {p : Nat} (h : p ≤ nd) : pv (alN al nd q b) 10 p = pv al 10 p := by
  cases p with
  | zero => rfl
  | succ n =>
    show Value.ref (alN al nd q b 10 n 0) = Value.ref (al 10 n 0)
    rw [alN_ne (Or.inr (by omega))]
theorem fN {c j : Nat} {o : Ob} (h : c < 10) : flds (alN al nd q b) o c j = flds al o c j := by
  have a1 : ∀ {j k : Nat}, alN al nd q b 1 j k = al 1 j k := fun {j k} => alN_c (by omega)
  have a0 : ∀ {j k : Nat}, alN al nd q b 0 j k = al 0 j k := fun {j k} => alN_c (by omega)
  have a2 : ∀ {j k : Nat}, alN al nd q b 2 j k = al 2 j k := fun {j k} => alN_c (by omega)
  have a3 : ∀ {j k : Nat}, alN al nd q b 3 j k = al 3 j k := fun {j k} => alN_c (by omega)
  have a4 : ∀ {j k : Nat}, alN al nd q b 4 j k = al 4 j k := fun {j k} => alN_c (by omega)
  have a5 : ∀ {j k : Nat}, alN al nd q b 5 j k = al 5 j k := fun {j k} => alN_c (by omega)
  have a6 : ∀ {j k : Nat}, alN al nd q b 6 j k = al 6 j k := fun {j k} => alN_c (by omega)
  have a7 : ∀ {j k : Nat}, alN al nd q b 7 j k = al 7 j k := fun {j k} => alN_c (by omega)
  have a8 : ∀ {j k : Nat}, alN al nd q b 8 j k = al 8 j k := fun {j k} => alN_c (by omega)
  have a9 : ∀ {j k : Nat}, alN al nd q b 9 j k = al 9 j k := fun {j k} => alN_c (by omega)
  have p8 : ∀ {p : Nat}, pv (alN al nd q b) 8 p = pv al 8 p := fun {p} => pvN (by omega)
  rcases (show c = 0 ∨ c = 1 ∨ c = 2 ∨ c = 3 ∨ c = 4 ∨ c = 5 ∨ c = 6 ∨ c = 7 ∨ c = 8 ∨ c = 9 by omega) with rfl | rfl | rfl | rfl | rfl | rfl | rfl | rfl | rfl | rfl <;> simp only [flds, a0, a1, a2, a3, a4, a5, a6, a7, a8, a9, p8]
theorem f10 {j : Nat} {o : Ob} (h : j ≠ nd) : flds (alN al nd q b) o 10 j = flds al o 10 j := by
  have a : ∀ {k : Nat}, alN al nd q b 10 j k = al 10 j k := fun {k} => alN_ne (Or.inr h)
  simp only [flds, a]
theorem f11 {o : Ob} (h3 : o.2.2.1 3 ≤ nd) : flds (alN al nd q b) (oP o 4 (nd + 1)) 11 0 = (flds al o 11 0).set 4 (.ref q) := by
  have a : ∀ {k : Nat}, alN al nd q b 11 0 k = al 11 0 k := fun {k} => alN_ne (Or.inl (by decide))
  have e3 : (oP o 4 (nd + 1)).2.2.1 3 = o.2.2.1 3 := rfl
  have e4 : (oP o 4 (nd + 1)).2.2.1 4 = nd + 1 := rfl
  have e5 : pv (alN al nd q b) 10 (nd + 1) = .ref q := congrArg Value.ref alN_0
  simp only [flds, a, e3, e4, e5, pvM h3]
  rfl
theorem acN {G G2 : Gx} {o : Ob} {c j k : Nat} (hG : G2.2.1 = G.2.1) : acell G2 (alN al nd q b) o c j k = acell G al o c j k := by
  have a7 : ∀ {j k : Nat}, alN al nd q b 7 j k = al 7 j k := fun {j k} => alN_c (by omega)
  unfold acell
  rw [hG]
  split
  · simp only [a7]
  · rfl
  · rfl
end AN
/-- where a key's cell lies -/
def fK (n : Nat → Nat) (nd : Nat) : Ky → Nat := fun x => if x.1 = 10 ∧ x.2.1 = nd then (keys n).length + (x.2.2 - 9) else (keys n).idxOf x
theorem nU_mem {n : Nat → Nat} {x : Ky} (h : x ∈ keys (nU n)) : (x.1 = 10 ∧ x.2.1 = n 10 ∧ x.2.2 ∈ ksl 10) ∨ (x ∈ keys n ∧ ¬ (x.1 = 10 ∧ x.2.1 = n 10)) := by
  obtain ⟨c, j, k⟩ := x
  obtain ⟨h1, h2, h3⟩ := keys_mem h
  unfold nU at h2
  by_cases hc : c = 10
  · subst hc
    rw [if_pos rfl] at h2
    by_cases hj : j = n 10
    · exact Or.inl ⟨rfl, hj, h3⟩
    · exact Or.inr ⟨mem_keys h1 (by omega) h3, fun z => hj z.2⟩
  · rw [if_neg hc] at h2
    exact Or.inr ⟨mem_keys h1 h2 h3, fun z => hc z.1⟩
theorem idx_at {n : Nat → Nat} {x : Ky} (h : x ∈ keys n) : (keys n)[(keys n).idxOf x]? = some x ∧ (keys n).idxOf x < (keys n).length := by
  have hl := List.idxOf_lt_length_of_mem h
  refine ⟨?_, hl⟩
  rw [List.getElem?_eq_getElem hl, List.getElem_idxOf hl]
theorem fK_inj {n : Nat → Nat} : ∀ x ∈ keys (nU n), ∀ y ∈ keys (nU n), fK n (n 10) x = fK n (n 10) y → x = y := by
  intro x hx y hy e
  unfold fK at e
  rcases nU_mem hx with ⟨a1, a2, a3⟩ | ⟨a1, a2⟩
  · rw [if_pos ⟨a1, a2⟩] at e
    rcases nU_mem hy with ⟨b1, b2, b3⟩ | ⟨b1, b2⟩
    · rw [if_pos ⟨b1, b2⟩] at e
      have e2 : x.2.2 - 9 = y.2.2 - 9 := by omega
      have m1 : x.2.2 = 0 ∨ 10 ≤ x.2.2 := by
        have : ∀ k ∈ ksl 10, k = 0 ∨ 10 ≤ k := by decide
        exact this _ a3
      have m2 : y.2.2 = 0 ∨ 10 ≤ y.2.2 := by
        have : ∀ k ∈ ksl 10, k = 0 ∨ 10 ≤ k := by decide
        exact this _ b3
      obtain ⟨x1, x2, x3⟩ := x
      obtain ⟨y1, y2, y3⟩ := y
      simp only at a1 a2 b1 b2 e2 m1 m2
      subst a1; subst a2; subst b1; subst b2
      have : x3 = y3 := by omega
      rw [this]
    · rw [if_neg b2] at e
      have := (idx_at b1).2
      omega
  · rw [if_neg a2] at e
    rcases nU_mem hy with ⟨b1, b2, b3⟩ | ⟨b1, b2⟩
    · rw [if_pos ⟨b1, b2⟩] at e
      have := (idx_at a1).2
      omega
    · rw [if_neg b2] at e
      have h1 := (idx_at a1).1
      have h2 := (idx_at b1).1
      rw [e, h2] at h1
      exact (Option.some.inj h1).symm
theorem ws_len {G : Gx} {al : Al} {w : Wd} : (wsW G al w).length = (keys (gN G)).length := by unfold wsW; rw [List.length_map]
/-- the cells with a Disk more, as they stand by their keys -/
theorem cells_nd {G : Gx} {al : Al} {w : Wd} {q p11 : Nat} {b : Nat → Nat} (h3 : (w 11 0).2.2.1 3 ≤ gN G 10) (hn11 : gN G 11 = 1) (hp : (keys (gN G))[p11]? = some (11, 0, 0)) : ∀ x ∈ keys (nU (gN G)), ((wsW G al w ++ cl10 G q b).set p11 (al 11 0 0, .inr (11, (flds al (w 11 0) 11 0).set 4 (.ref q))))[fK (gN G) (gN G 10) x]? = some (cellK (gU G (nU (gN G))) (alN al (gN G 10) q b) (dN (gN G 10) w) x) := by
  intro x hx
  have hpl : p11 < (keys (gN G)).length := (List.getElem?_eq_some_iff.mp hp).1
  have hw11 : dN (gN G 10) w 11 0 = oP (w 11 0) 4 (gN G 10 + 1) := by
    unfold dN sP
    rw [sO_at, sO_ne (by omega)]
  have hw10 : dN (gN G 10) w 10 (gN G 10) = zOb := by
    unfold dN sP
    rw [sO_ne (by omega), sO_at]
  have hwo : ∀ c j, ¬ (c = 11 ∧ j = 0) → ¬ (c = 10 ∧ j = gN G 10) → dN (gN G 10) w c j = w c j := fun c j y z => by
    unfold dN sP
    rw [sO_ne y, sO_ne z]
  rcases nU_mem hx with ⟨a1, a2, a3⟩ | ⟨a1, a2⟩
  · obtain ⟨x1, x2, k⟩ := x
    simp only at a1 a2 a3
    subst a1; subst a2
    have ef : fK (gN G) (gN G 10) (10, gN G 10, k) = (keys (gN G)).length + (k - 9) := if_pos ⟨rfl, rfl⟩
    rw [ef, List.getElem?_set_ne (by omega), List.getElem?_append_right (by rw [ws_len]; omega), ws_len, Nat.add_sub_cancel_left]
    have hk : k = 0 ∨ k = 10 ∨ k = 11 ∨ k = 12 ∨ k = 13 ∨ k = 14 ∨ k = 15 ∨ k = 16 ∨ k = 17 ∨ k = 18 := by
      have : ∀ k ∈ ksl 10, k = 0 ∨ k = 10 ∨ k = 11 ∨ k = 12 ∨ k = 13 ∨ k = 14 ∨ k = 15 ∨ k = 16 ∨ k = 17 ∨ k = 18 := by decide
      exact this k a3
    have hs : ∀ {k : Nat}, alN al (gN G 10) q b 10 (gN G 10) (k + 1) = b (k - 9) := alN_s
    rcases hk with rfl | rfl | rfl | rfl | rfl | rfl | rfl | rfl | rfl | rfl
    · show _ = some (alN al (gN G 10) q b 10 (gN G 10) 0, Sum.inr (10, flds (alN al (gN G 10) q b) (dN (gN G 10) w 10 (gN G 10)) 10 (gN G 10)))
      rw [hw10, alN_0]
      show _ = some (q, Sum.inr (10, [Value.int (nI 0), Value.int (nI 0), Value.int (nI 0), Value.int (nI 0), Value.int (nI 0), Value.int (nI 0), Value.int (nI 0), Value.int (nI 0), Value.int (nI 0), Value.ref (alN al (gN G 10) q b 10 (gN G 10) (9 + 1)), Value.ref (alN al (gN G 10) q b 10 (gN G 10) (10 + 1)), Value.ref (alN al (gN G 10) q b 10 (gN G 10) (11 + 1)), Value.ref (alN al (gN G 10) q b 10 (gN G 10) (12 + 1)), Value.ref (alN al (gN G 10) q b 10 (gN G 10) (13 + 1)), Value.ref (alN al (gN G 10) q b 10 (gN G 10) (14 + 1)), Value.ref (alN al (gN G 10) q b 10 (gN G 10) (15 + 1)), Value.ref (alN al (gN G 10) q b 10 (gN G 10) (16 + 1)), Value.ref (alN al (gN G 10) q b 10 (gN G 10) (17 + 1))]))
      rw [hs, hs, hs, hs, hs, hs, hs, hs, hs]
      rfl
    · show _ = some (alN al (gN G 10) q b 10 (gN G 10) (9 + 1), acell (gU G (nU (gN G))) (alN al (gN G 10) q b) (dN (gN G 10) w 10 (gN G 10)) 10 (gN G 10) 9)
      rw [hw10, hs]
      rfl
    · show _ = some (alN al (gN G 10) q b 10 (gN G 10) (10 + 1), acell (gU G (nU (gN G))) (alN al (gN G 10) q b) (dN (gN G 10) w 10 (gN G 10)) 10 (gN G 10) 10)
      rw [hw10, hs]
      rfl
    · show _ = some (alN al (gN G 10) q b 10 (gN G 10) (11 + 1), acell (gU G (nU (gN G))) (alN al (gN G 10) q b) (dN (gN G 10) w 10 (gN G 10)) 10 (gN G 10) 11)
      rw [hw10, hs]
      rfl
    · show _ = some (alN al (gN G 10) q b 10 (gN G 10) (12 + 1), acell (gU G (nU (gN G))) (alN al (gN G 10) q b) (dN (gN G 10) w 10 (gN G 10)) 10 (gN G 10) 12)
      rw [hw10, hs]
      rfl
    · show _ = some (alN al (gN G 10) q b 10 (gN G 10) (13 + 1), acell (gU G (nU (gN G))) (alN al (gN G 10) q b) (dN (gN G 10) w 10 (gN G 10)) 10 (gN G 10) 13)
      rw [hw10, hs]
      rfl
    · show _ = some (alN al (gN G 10) q b 10 (gN G 10) (14 + 1), acell (gU G (nU (gN G))) (alN al (gN G 10) q b) (dN (gN G 10) w 10 (gN G 10)) 10 (gN G 10) 14)
      rw [hw10, hs]
      rfl
    · show _ = some (alN al (gN G 10) q b 10 (gN G 10) (15 + 1), acell (gU G (nU (gN G))) (alN al (gN G 10) q b) (dN (gN G 10) w 10 (gN G 10)) 10 (gN G 10) 15)
      rw [hw10, hs]
      rfl
    · show _ = some (alN al (gN G 10) q b 10 (gN G 10) (16 + 1), acell (gU G (nU (gN G))) (alN al (gN G 10) q b) (dN (gN G 10) w 10 (gN G 10)) 10 (gN G 10) 16)
      rw [hw10, hs]
      rfl
    · show _ = some (alN al (gN G 10) q b 10 (gN G 10) (17 + 1), acell (gU G (nU (gN G))) (alN al (gN G 10) q b) (dN (gN G 10) w 10 (gN G 10)) 10 (gN G 10) 17)
      rw [hw10, hs]
      rfl
  · obtain ⟨c, j, k⟩ := x
    have ef : fK (gN G) (gN G 10) (c, j, k) = (keys (gN G)).idxOf (c, j, k) := if_neg a2
    obtain ⟨e1, e2⟩ := idx_at a1
    obtain ⟨k1, k2, k3⟩ := keys_mem a1
    rw [ef]
    by_cases hz : (c, j, k) = (11, 0, 0)
    · have hpi : (keys (gN G)).idxOf (c, j, k) = p11 := by
        rw [hz] at e1 ⊢
        exact (List.getElem?_inj (by rw [hz] at e2; exact e2) (keys_nd _)).mp (e1.trans hp.symm)
      cases hz
      rw [hpi, List.getElem?_set_self (by rw [List.length_append, ws_len]; omega)]
      show _ = some (alN al (gN G 10) q b 11 0 0, Sum.inr (11, flds (alN al (gN G 10) q b) (dN (gN G 10) w 11 0) 11 0))
      rw [hw11, f11 h3, alN_ne (Or.inl (by decide))]
    · have hpi : p11 ≠ (keys (gN G)).idxOf (c, j, k) := fun z => hz (by
        rw [← z, hp] at e1
        exact (Option.some.inj e1).symm)
      rw [List.getElem?_set_ne hpi, List.getElem?_append_left (by rw [ws_len]; exact e2), ws_at (G := G) (al := al) (w := w) e1]
      refine congrArg some ?_
      have hal : alN al (gN G 10) q b c j k = al c j k := alN_ne (if y : c = 10 then Or.inr (fun z => a2 ⟨y, z⟩) else Or.inl y)
      unfold cellK
      show (al c j k, cellE G al w c j k) = (alN al (gN G 10) q b c j k, cellE (gU G (nU (gN G))) (alN al (gN G 10) q b) (dN (gN G 10) w) c j k)
      rw [hal]
      refine congrArg (Prod.mk _) ?_
      cases k with
      | zero =>
        show Sum.inr (c, flds al (w c j) c j) = Sum.inr (c, flds (alN al (gN G 10) q b) (dN (gN G 10) w c j) c j)
        have hj : ¬ (c = 11 ∧ j = 0) := fun z => hz (by rw [z.1, z.2])
        rw [hwo c j hj a2]
        refine congrArg (fun z => Sum.inr (c, z)) ?_
        by_cases y : c < 10
        · exact (fN y).symm
        · by_cases y2 : c = 10
          · subst y2
            exact (f10 (fun z => a2 ⟨rfl, z⟩)).symm
          · by_cases y3 : c = 11
            · subst y3
              exact absurd ⟨rfl, by omega⟩ hj
            · have : c = 12 := by omega
              subst this
              rfl
      | succ k =>
        show acell G al (w c j) c j k = acell (gU G (nU (gN G))) (alN al (gN G 10) q b) (dN (gN G 10) w c j) c j k
        rw [acN (G := G) (G2 := gU G (nU (gN G))) rfl]
        by_cases hj : c = 11 ∧ j = 0
        · obtain ⟨rfl, rfl⟩ := hj
          rw [hw11]
          rfl
        · rw [hwo c j hj a2]
