/-! ===== the law's start ===== -/
abbrev fl1 : List Cond := flatC (Jvm.Cond.and given_1 narrow_1)
section ST
variable {s : State} {args : Array Value} {A : Nat → Prop}
theorem tb_t {w : Cond} (hts : ∀ w ∈ lw_tbl, w.before args s = true) (i : Nat) (h : tables_1[i]? = some w) : w.before args s = true := hts w (List.mem_append_right _ (List.mem_of_getElem? h))
theorem tb_big (hts : ∀ w ∈ lw_tbl, w.before args s = true) : ∀ w ∈ big, w.before args s = true := fun w hw => hts w (List.mem_filter.mp hw).1
theorem st_nst (hts : ∀ w ∈ lw_tbl, w.before args s = true) : ∀ w ∈ nst, va_Nw w s := fun w hw => by
  have g := (List.mem_filter.mp hw).2
  have h := hts w (List.mem_append_right _ (List.mem_filter.mp hw).1)
  cases w <;> first | exact va_tabs rfl rfl h | cases g
theorem st_D (hts : ∀ w ∈ lw_tbl, w.before args s = true) : ∃ D : va_G, ∀ (c : Nat) (q : vw_C), vwCl[c]? = some q → u_Kn s q.1 q.2.1 q.2.2 (D.1 c) (D.2 c) := by
  have h : ∀ c : Nat, ∃ x : ClassId × (Nat → Nat), ∀ q : vw_C, vwCl[c]? = some q → u_Kn s q.1 q.2.1 q.2.2 x.1 x.2 := by
    intro c
    match c with
    | 0 =>
      obtain ⟨cC, iS, h⟩ := u_known (tb_big hts) cu_0 (tb_t hts (w := Cond.instantiable RX0 1) 240 (by decide +kernel))
      exact ⟨(cC, iS), fun q hq => by cases hq; exact h⟩
    | 1 =>
      obtain ⟨cC, iS, h⟩ := u_known (tb_big hts) cu_1 (tb_t hts (w := Cond.instantiable RX1 2) 174 (by decide +kernel))
      exact ⟨(cC, iS), fun q hq => by cases hq; exact h⟩
    | 2 =>
      obtain ⟨cC, iS, h⟩ := u_known (tb_big hts) cu_2 (tb_t hts (w := Cond.instantiable RX2 3) 251 (by decide +kernel))
      exact ⟨(cC, iS), fun q hq => by cases hq; exact h⟩
    | 3 =>
      obtain ⟨cC, iS, h⟩ := u_known (tb_big hts) cu_3 (tb_t hts (w := Cond.instantiable RX3 3) 86 (by decide +kernel))
      exact ⟨(cC, iS), fun q hq => by cases hq; exact h⟩
    | 4 =>
      obtain ⟨cC, iS, h⟩ := u_known (tb_big hts) cu_4 (tb_t hts (w := Cond.instantiable RX4 10) 135 (by decide +kernel))
      exact ⟨(cC, iS), fun q hq => by cases hq; exact h⟩
    | 5 =>
      obtain ⟨cC, iS, h⟩ := u_known (tb_big hts) cu_5 (tb_t hts (w := Cond.instantiable RX5 8) 38 (by decide +kernel))
      exact ⟨(cC, iS), fun q hq => by cases hq; exact h⟩
    | 6 =>
      obtain ⟨cC, iS, h⟩ := u_known (tb_big hts) cu_6 (tb_t hts (w := Cond.instantiable RX6 1) 257 (by decide +kernel))
      exact ⟨(cC, iS), fun q hq => by cases hq; exact h⟩
    | 7 =>
      obtain ⟨cC, iS, h⟩ := u_known (tb_big hts) cu_7 (tb_t hts (w := Cond.instantiable RX7 11) 189 (by decide +kernel))
      exact ⟨(cC, iS), fun q hq => by cases hq; exact h⟩
    | 8 =>
      obtain ⟨cC, iS, h⟩ := u_known (tb_big hts) cu_8 (tb_t hts (w := Cond.instantiable RX8 5) 32 (by decide +kernel))
      exact ⟨(cC, iS), fun q hq => by cases hq; exact h⟩
    | 9 =>
      obtain ⟨cC, iS, h⟩ := u_known (tb_big hts) cu_9 (tb_t hts (w := Cond.instantiable RX9 16) 24 (by decide +kernel))
      exact ⟨(cC, iS), fun q hq => by cases hq; exact h⟩
    | 10 =>
      obtain ⟨cC, iS, h⟩ := u_known (tb_big hts) cu_10 (tb_t hts (w := Cond.instantiable RX10 18) 1161 (by decide +kernel))
      exact ⟨(cC, iS), fun q hq => by cases hq; exact h⟩
    | 11 =>
      obtain ⟨cC, iS, h⟩ := u_known (tb_big hts) cu_11 (tb_t hts (w := Cond.instantiable RX11 36) 1030 (by decide +kernel))
      exact ⟨(cC, iS), fun q hq => by cases hq; exact h⟩
    | c + 12 =>
      obtain ⟨cC, iS, -⟩ := u_known (tb_big hts) cu_0 (tb_t hts (w := Cond.instantiable RX0 1) 240 (by decide +kernel))
      exact ⟨(cC, iS), fun q hq => by cases hq⟩
  exact ⟨(fun c => (Classical.choose (h c)).1, fun c => (Classical.choose (h c)).2), fun c q hq => Classical.choose_spec (h c) q hq⟩
theorem st_a {ty : FieldType} (h : (Cond.arrayClass ty).before args s = true) : ∃ cA, ArrOfT s cA ty ∧ s.vm.findClass ("[" ++ ty.toString) = some cA := by
  obtain ⟨c, k, comp, h1, h2, h3⟩ := Cond.arrayClass_spec h
  exact ⟨c, fun n z => ⟨fun k h => (by cases h), k, h2, comp, h3⟩, h1⟩
theorem st_q (h : (Cond.arrayOver (.object "ShingledDisk$State")).before args s = true) : ∃ cA, ArrOfT s cA (.object "ShingledDisk$State") ∧ va_RA s cA (.object "ShingledDisk$State") := by
  obtain ⟨comp, c, k, f1, -, f3, f4, f5⟩ := Cond.arrayOver_spec h
  exact ⟨c, fun n z => ⟨fun k h => (by cases h), k, f3, comp, f4⟩, k, comp, f3, f4, f1, f5⟩
theorem st_G (hts : ∀ w ∈ lw_tbl, w.before args s = true) : ∃ (D : va_G) (ids : Nat → ClassId), ∀ (x y n : Nat → Nat), va_K D vwCl (tysG (D, ids, x, y, n)) s := by
  obtain ⟨D, hD⟩ := st_D hts
  obtain ⟨ci, i1, i2⟩ := st_a (tb_t hts (w := Cond.arrayClass .int) 84 (by decide +kernel))
  obtain ⟨cb, b1, b2⟩ := st_a (tb_t hts (w := Cond.arrayClass .byte) 83 (by decide +kernel))
  obtain ⟨cz, z1, z2⟩ := st_a (tb_t hts (w := Cond.arrayClass .boolean) 1230 (by decide +kernel))
  obtain ⟨cj, j1, j2⟩ := st_a (tb_t hts (w := Cond.arrayClass .long) 1761 (by decide +kernel))
  obtain ⟨cq, q1, q2⟩ := st_q (tb_t hts (w := Cond.arrayOver (.object "ShingledDisk$State")) 264 (by decide +kernel))
  refine ⟨D, (fun t => match t with | 0 => ci | 1 => ci | 2 => cb | 3 => cz | 4 => cq | _ => cj), fun x y n => ⟨hD, fun k q hk => ?_⟩⟩
  match k, hk with
  | 0, hk => cases hk; exact ⟨i1, i2⟩
  | 1, hk => cases hk; exact ⟨i1, i2⟩
  | 2, hk => cases hk; exact ⟨b1, b2⟩
  | 3, hk => cases hk; exact ⟨z1, z2⟩
  | 4, hk => cases hk; exact ⟨q1, q2⟩
  | 5, hk => cases hk; exact ⟨j1, j2⟩
  | k + 6, hk => cases hk
def srx : List Nat := [379, 452, 465, 483, 484, 485, 440, 449, 450, 451]
def srm : List Nat := [1254, 1295, 1304, 1313, 1318, 1326, 1272, 1292, 1293, 1294]
theorem sr_x : ∀ i, i < 10 → tables_1[srx.getD i 0]? = some (Cond.stringRef RX4 (sxi i) (stx i)) := by decide +kernel
theorem sr_m : ∀ i, i < 10 → tables_1[srm.getD i 0]? = some (Cond.stringRef RX11 (smi i) (stx i)) := by decide +kernel
theorem sm_ex : ∀ i, i < 10 → Cond.exactly (.string RX4 (sxi i)) "java/lang/String" ∈ fl1 := by decide +kernel
theorem sm_co : ∀ i, i < 10 → Cond.eq (.field (.string RX4 (sxi i)) "java/lang/String" "coder" "B") (.int 0) ∈ fl1 := by decide +kernel
theorem sm_ar : ∀ i, i < 10 → Cond.arrayOf (.field (.string RX4 (sxi i)) "java/lang/String" "value" "[B") .byte ∈ fl1 := by decide +kernel
theorem sm_le : ∀ i, i < 10 → Cond.eq (.length (.field (.string RX4 (sxi i)) "java/lang/String" "value" "[B")) (.int (Int32.ofNat (slen.getD i 0))) ∈ fl1 := by decide +kernel
theorem sm_el : ∀ i, i < 10 → ∀ j, j < slen.getD i 0 → Cond.eq (.elem (.field (.string RX4 (sxi i)) "java/lang/String" "value" "[B") (.int (Int32.ofNat j))) (.int ((sbyt.getD i []).getD j 0)) ∈ fl1 := by decide +kernel
def spn : List (List Nat) := [[0, 88, 100, 115, 132, 148, 42, 50, 62, 76], [88, 0, 105, 120, 137, 153, 89, 90, 91, 92], [100, 105, 0, 121, 138, 154, 101, 102, 103, 104], [115, 120, 121, 0, 139, 155, 116, 117, 118, 119], [132, 137, 138, 139, 0, 156, 133, 134, 135, 136], [148, 153, 154, 155, 156, 0, 149, 150, 151, 152], [42, 89, 101, 116, 133, 149, 0, 51, 63, 77], [50, 90, 102, 117, 134, 150, 51, 0, 64, 78], [62, 91, 103, 118, 135, 151, 63, 64, 0, 79], [76, 92, 104, 119, 136, 152, 77, 78, 79, 0]]
theorem sm_ne0 : ∀ j, j < 10 → 0 < j → (fl1[(spn.getD 0 []).getD j 0]? = some (Cond.not (Cond.eq (.string RX4 (sxi 0)) (.string RX4 (sxi j)))) ∨ fl1[(spn.getD 0 []).getD j 0]? = some (Cond.not (Cond.eq (.string RX4 (sxi j)) (.string RX4 (sxi 0))))) := by decide +kernel
theorem sm_ne1 : ∀ j, j < 10 → 1 < j → (fl1[(spn.getD 1 []).getD j 0]? = some (Cond.not (Cond.eq (.string RX4 (sxi 1)) (.string RX4 (sxi j)))) ∨ fl1[(spn.getD 1 []).getD j 0]? = some (Cond.not (Cond.eq (.string RX4 (sxi j)) (.string RX4 (sxi 1))))) := by decide +kernel
theorem sm_ne2 : ∀ j, j < 10 → 2 < j → (fl1[(spn.getD 2 []).getD j 0]? = some (Cond.not (Cond.eq (.string RX4 (sxi 2)) (.string RX4 (sxi j)))) ∨ fl1[(spn.getD 2 []).getD j 0]? = some (Cond.not (Cond.eq (.string RX4 (sxi j)) (.string RX4 (sxi 2))))) := by decide +kernel
theorem sm_ne3 : ∀ j, j < 10 → 3 < j → (fl1[(spn.getD 3 []).getD j 0]? = some (Cond.not (Cond.eq (.string RX4 (sxi 3)) (.string RX4 (sxi j)))) ∨ fl1[(spn.getD 3 []).getD j 0]? = some (Cond.not (Cond.eq (.string RX4 (sxi j)) (.string RX4 (sxi 3))))) := by decide +kernel
theorem sm_ne4 : ∀ j, j < 10 → 4 < j → (fl1[(spn.getD 4 []).getD j 0]? = some (Cond.not (Cond.eq (.string RX4 (sxi 4)) (.string RX4 (sxi j)))) ∨ fl1[(spn.getD 4 []).getD j 0]? = some (Cond.not (Cond.eq (.string RX4 (sxi j)) (.string RX4 (sxi 4))))) := by decide +kernel
theorem sm_ne5 : ∀ j, j < 10 → 5 < j → (fl1[(spn.getD 5 []).getD j 0]? = some (Cond.not (Cond.eq (.string RX4 (sxi 5)) (.string RX4 (sxi j)))) ∨ fl1[(spn.getD 5 []).getD j 0]? = some (Cond.not (Cond.eq (.string RX4 (sxi j)) (.string RX4 (sxi 5))))) := by decide +kernel
theorem sm_ne6 : ∀ j, j < 10 → 6 < j → (fl1[(spn.getD 6 []).getD j 0]? = some (Cond.not (Cond.eq (.string RX4 (sxi 6)) (.string RX4 (sxi j)))) ∨ fl1[(spn.getD 6 []).getD j 0]? = some (Cond.not (Cond.eq (.string RX4 (sxi j)) (.string RX4 (sxi 6))))) := by decide +kernel
theorem sm_ne7 : ∀ j, j < 10 → 7 < j → (fl1[(spn.getD 7 []).getD j 0]? = some (Cond.not (Cond.eq (.string RX4 (sxi 7)) (.string RX4 (sxi j)))) ∨ fl1[(spn.getD 7 []).getD j 0]? = some (Cond.not (Cond.eq (.string RX4 (sxi j)) (.string RX4 (sxi 7))))) := by decide +kernel
theorem sm_ne8 : ∀ j, j < 10 → 8 < j → (fl1[(spn.getD 8 []).getD j 0]? = some (Cond.not (Cond.eq (.string RX4 (sxi 8)) (.string RX4 (sxi j)))) ∨ fl1[(spn.getD 8 []).getD j 0]? = some (Cond.not (Cond.eq (.string RX4 (sxi j)) (.string RX4 (sxi 8))))) := by decide +kernel
theorem sm_lt : ∀ i, i < 10 → ∀ j, j < 10 → i < j → (Cond.not (Cond.eq (.string RX4 (sxi i)) (.string RX4 (sxi j))) ∈ fl1 ∨ Cond.not (Cond.eq (.string RX4 (sxi j)) (.string RX4 (sxi i))) ∈ fl1) := by
  intro i hi j hj hij
  have key : fl1[(spn.getD i []).getD j 0]? = some (Cond.not (Cond.eq (.string RX4 (sxi i)) (.string RX4 (sxi j)))) ∨ fl1[(spn.getD i []).getD j 0]? = some (Cond.not (Cond.eq (.string RX4 (sxi j)) (.string RX4 (sxi i)))) := by
    match i, hi, hij with
    | 0, _, hij => exact sm_ne0 j hj hij
    | 1, _, hij => exact sm_ne1 j hj hij
    | 2, _, hij => exact sm_ne2 j hj hij
    | 3, _, hij => exact sm_ne3 j hj hij
    | 4, _, hij => exact sm_ne4 j hj hij
    | 5, _, hij => exact sm_ne5 j hj hij
    | 6, _, hij => exact sm_ne6 j hj hij
    | 7, _, hij => exact sm_ne7 j hj hij
    | 8, _, hij => exact sm_ne8 j hj hij
    | i + 9, hi, hij => exact absurd hij (by omega)
  exact key.elim (fun z => Or.inl (List.mem_of_getElem? z)) (fun z => Or.inr (List.mem_of_getElem? z))
theorem sm_ne (i : Nat) (hi : i < 10) (j : Nat) (hj : j < 10) (h : i ≠ j) : (Cond.not (Cond.eq (.string RX4 (sxi i)) (.string RX4 (sxi j))) ∈ fl1 ∨ Cond.not (Cond.eq (.string RX4 (sxi j)) (.string RX4 (sxi i))) ∈ fl1) := by
  rcases Nat.lt_or_gt_of_ne h with h1 | h1
  · exact sm_lt i hi j hj h1
  · exact (sm_lt j hj i hi h1).symm
theorem sm_eq : ∀ i, i < 10 → Cond.eq (.string RX4 (sxi i)) (.string RX11 (smi i)) ∈ fl1 := by decide +kernel
theorem eq_ref {t u : Term} {r : Nat} (h : (Cond.eq t u).before args s = true) (ht : t.eval args s none [] s = some (.ref r)) : u.eval args s none [] s = some (.ref r) := by
  simp only [Cond.before, Cond.holds, Cond.value, ht] at h
  cases hu : u.eval args s none [] s with
  | none => rw [hu] at h; simp at h
  | some v =>
    rw [hu] at h
    cases v <;> simp_all
theorem st_SK (hts : ∀ w ∈ lw_tbl, w.before args s = true) (hg : (Jvm.Cond.and given_1 narrow_1).before args s = true) (hA : ∀ a : Nat, a < s.heap.size → ¬ A a) : ∃ adK adV : Nat → Nat, ∀ (D : va_G) (ids : Nat → ClassId) (n : Nat → Nat), SK (D, ids, adK, adV, n) A s s.heap := by
  have hs := flat_of_before _ hg
  obtain ⟨adK, adV, h1, h2⟩ := vk_Sof (N := 10) (tm := fun i => .string RX4 (sxi i)) (len := slen) (byt := sbyt) (A := A) (by decide) (fun i hi => hs _ (sm_ex i hi)) (fun i hi => hs _ (sm_co i hi)) (fun i hi => hs _ (sm_ar i hi)) (fun i hi => hs _ (sm_le i hi)) (fun i hi j hj => hs _ (sm_el i hi j hj)) (fun i j hi hj hne => (sm_ne i hi j hj hne).elim (fun z => Or.inl (hs _ z)) (fun z => Or.inr (hs _ z))) hA
  refine ⟨adK, adV, fun D ids n => ⟨h1, fun i hi => vk_R.of (tb_t hts _ (sr_x i hi)) (h2 i hi), fun i hi => vk_R.of (tb_t hts _ (sr_m i hi)) (eq_ref (hs _ (sm_eq i hi)) (h2 i hi)), ⟨?_, ?_⟩, st_nst hts⟩⟩
  · exact va_Zof (tb_t hts 393 (by decide +kernel)) (tb_t hts 13 (by decide +kernel)) (va_eqi (hs _ (by decide +kernel))) hA
  · exact va_Zqof (tb_t hts 409 (by decide +kernel)) (tb_t hts 15 (by decide +kernel)) (hs _ (by decide +kernel)) hA
theorem st_XP (hts : ∀ w ∈ lw_tbl, w.before args s = true) (hg : (Jvm.Cond.and given_1 narrow_1).before args s = true) (hA : ∀ a : Nat, a < s.heap.size → ¬ A a) : XP A s s.heap := by
  have hs := flat_of_before _ hg
  refine ⟨vx_Zqof (tb_t hts 995 (by decide +kernel)) (tb_t hts 19 (by decide +kernel)) (hs _ (by decide +kernel)) hA, vx_Zqof (tb_t hts 997 (by decide +kernel)) (tb_t hts 19 (by decide +kernel)) (hs _ (by decide +kernel)) hA, cast_mv (Vm.Alike.refl s.vm) (tb_t hts 970 (by decide +kernel)), fun y hy => ?_⟩
  rcases List.mem_cons.mp hy with rfl | hy
  · exact decl_mv (Vm.Alike.refl s.vm) (tb_t hts 971 (by decide +kernel))
  · rcases List.mem_cons.mp hy with rfl | hy
    · exact decl_mv (Vm.Alike.refl s.vm) (tb_t hts 973 (by decide +kernel))
    · rcases List.mem_cons.mp hy with rfl | hy
      · exact decl_mv (Vm.Alike.refl s.vm) (tb_t hts 975 (by decide +kernel))
      · cases hy
end ST

