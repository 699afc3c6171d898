/-- how many objects of each kind there are, once both graphs are made -/
def NX (G : Gx) : Prop := gN G 0 = 1 ∧ gN G 1 = 1 ∧ gN G 2 = 1 ∧ gN G 3 = 8 ∧ gN G 4 = 1 ∧ gN G 5 = 3 ∧ gN G 6 = 2 ∧ gN G 7 = 21 ∧ gN G 8 = 2 ∧ gN G 9 = 1 ∧ gN G 11 = 1
theorem nx_0 {G : Gx} (hN : NX G) {j : Nat} (h : j < 1) : j < gN G 0 := by rw [hN.1]; exact h
theorem nxi_0 {G : Gx} (hN : NX G) {j : Nat} (h : j < gN G 0) : j < 1 := by rw [hN.1] at h; exact h
theorem nx_1 {G : Gx} (hN : NX G) {j : Nat} (h : j < 1) : j < gN G 1 := by rw [hN.2.1]; exact h
theorem nxi_1 {G : Gx} (hN : NX G) {j : Nat} (h : j < gN G 1) : j < 1 := by rw [hN.2.1] at h; exact h
theorem nx_2 {G : Gx} (hN : NX G) {j : Nat} (h : j < 1) : j < gN G 2 := by rw [hN.2.2.1]; exact h
theorem nxi_2 {G : Gx} (hN : NX G) {j : Nat} (h : j < gN G 2) : j < 1 := by rw [hN.2.2.1] at h; exact h
theorem nx_3 {G : Gx} (hN : NX G) {j : Nat} (h : j < 8) : j < gN G 3 := by rw [hN.2.2.2.1]; exact h
theorem nxi_3 {G : Gx} (hN : NX G) {j : Nat} (h : j < gN G 3) : j < 8 := by rw [hN.2.2.2.1] at h; exact h
theorem nx_4 {G : Gx} (hN : NX G) {j : Nat} (h : j < 1) : j < gN G 4 := by rw [hN.2.2.2.2.1]; exact h
theorem nxi_4 {G : Gx} (hN : NX G) {j : Nat} (h : j < gN G 4) : j < 1 := by rw [hN.2.2.2.2.1] at h; exact h
theorem nx_5 {G : Gx} (hN : NX G) {j : Nat} (h : j < 3) : j < gN G 5 := by rw [hN.2.2.2.2.2.1]; exact h
theorem nxi_5 {G : Gx} (hN : NX G) {j : Nat} (h : j < gN G 5) : j < 3 := by rw [hN.2.2.2.2.2.1] at h; exact h
theorem nx_6 {G : Gx} (hN : NX G) {j : Nat} (h : j < 2) : j < gN G 6 := by rw [hN.2.2.2.2.2.2.1]; exact h
theorem nxi_6 {G : Gx} (hN : NX G) {j : Nat} (h : j < gN G 6) : j < 2 := by rw [hN.2.2.2.2.2.2.1] at h; exact h
theorem nx_7 {G : Gx} (hN : NX G) {j : Nat} (h : j < 21) : j < gN G 7 := by rw [hN.2.2.2.2.2.2.2.1]; exact h
theorem nxi_7 {G : Gx} (hN : NX G) {j : Nat} (h : j < gN G 7) : j < 21 := by rw [hN.2.2.2.2.2.2.2.1] at h; exact h
theorem nx_8 {G : Gx} (hN : NX G) {j : Nat} (h : j < 2) : j < gN G 8 := by rw [hN.2.2.2.2.2.2.2.2.1]; exact h
theorem nxi_8 {G : Gx} (hN : NX G) {j : Nat} (h : j < gN G 8) : j < 2 := by rw [hN.2.2.2.2.2.2.2.2.1] at h; exact h
theorem nx_9 {G : Gx} (hN : NX G) {j : Nat} (h : j < 1) : j < gN G 9 := by rw [hN.2.2.2.2.2.2.2.2.2.1]; exact h
theorem nxi_9 {G : Gx} (hN : NX G) {j : Nat} (h : j < gN G 9) : j < 1 := by rw [hN.2.2.2.2.2.2.2.2.2.1] at h; exact h
theorem nx_11 {G : Gx} (hN : NX G) {j : Nat} (h : j < 1) : j < gN G 11 := by rw [hN.2.2.2.2.2.2.2.2.2.2]; exact h
theorem nxi_11 {G : Gx} (hN : NX G) {j : Nat} (h : j < gN G 11) : j < 1 := by rw [hN.2.2.2.2.2.2.2.2.2.2] at h; exact h
theorem nx_sh {G : Gx} (hN : NX G) {j : Nat} (h : j < gN G 8) : j < gN G 5 := nx_5 hN (by have := nxi_8 hN h; omega)
theorem nx_pr0 {G : Gx} (hN : NX G) {j : Nat} (h : j < gN G 8) : 4 * j < gN G 3 := nx_3 hN (by have := nxi_8 hN h; omega)
theorem nx_pr1 {G : Gx} (hN : NX G) {j : Nat} (h : j < gN G 8) : 4 * j + 1 < gN G 3 := nx_3 hN (by have := nxi_8 hN h; omega)
theorem nx_pr2 {G : Gx} (hN : NX G) {j : Nat} (h : j < gN G 8) : 4 * j + 2 < gN G 3 := nx_3 hN (by have := nxi_8 hN h; omega)
theorem nx_pr3 {G : Gx} (hN : NX G) {j : Nat} (h : j < gN G 8) : 4 * j + 3 < gN G 3 := nx_3 hN (by have := nxi_8 hN h; omega)
theorem inb_nat {i : Int32} {n : Nat} (h : inb i n = true) : i.toNatClampNeg < n := by
  have h1 := of_decide_eq_true h
  have h2 : i.toNatClampNeg = i.toInt.toNat := rfl
  omega
theorem nx_st {G : Gx} (hN : NX G) {j : Nat} {i : Int32} (h : j < gN G 6) (hi : inb i (aln 6 j 0) = true) : sbase j + i.toNatClampNeg < gN G 7 := nx_7 hN (by
  have h1 := nxi_6 hN h
  have h2 := inb_nat hi
  have h3 : aln 6 j 0 = if j = 0 then 16 else 3 := rfl
  rw [h3] at h2
  unfold sbase
  split at h2 <;> split <;> omega)
theorem gv_0_0 (al : Al) (o : Ob) (j : Nat) : (flds al o 0 j)[0]? = some (.int (o.1 0)) := rfl
theorem gv_1_0 (al : Al) (o : Ob) (j : Nat) : (flds al o 1 j)[0]? = some (.ref (al 1 j 1)) := rfl
theorem gv_1_1 (al : Al) (o : Ob) (j : Nat) : (flds al o 1 j)[1]? = some (.int (o.1 1)) := rfl
theorem gv_2_0 (al : Al) (o : Ob) (j : Nat) : (flds al o 2 j)[0]? = some (.ref (al 6 0 0)) := rfl
theorem gv_2_1 (al : Al) (o : Ob) (j : Nat) : (flds al o 2 j)[1]? = some (.int (o.1 1)) := rfl
theorem gv_2_2 (al : Al) (o : Ob) (j : Nat) : (flds al o 2 j)[2]? = some (.int (o.1 2)) := rfl
theorem gv_3_0 (al : Al) (o : Ob) (j : Nat) : (flds al o 3 j)[0]? = some (.ref (al 3 j 1)) := rfl
theorem gv_3_1 (al : Al) (o : Ob) (j : Nat) : (flds al o 3 j)[1]? = some (.ref (al 3 j 2)) := rfl
theorem gv_3_2 (al : Al) (o : Ob) (j : Nat) : (flds al o 3 j)[2]? = some (.int (o.1 2)) := rfl
theorem gv_4_0 (al : Al) (o : Ob) (j : Nat) : (flds al o 4 j)[0]? = some (.ref (al 9 0 1)) := rfl
theorem gv_4_1 (al : Al) (o : Ob) (j : Nat) : (flds al o 4 j)[1]? = some (.int (o.1 1)) := rfl
theorem gv_4_2 (al : Al) (o : Ob) (j : Nat) : (flds al o 4 j)[2]? = some (pv al 8 (o.2.2.1 2)) := rfl
theorem gv_4_3 (al : Al) (o : Ob) (j : Nat) : (flds al o 4 j)[3]? = some (.int (o.1 3)) := rfl
theorem gv_4_4 (al : Al) (o : Ob) (j : Nat) : (flds al o 4 j)[4]? = some (.int (o.1 4)) := rfl
theorem gv_4_5 (al : Al) (o : Ob) (j : Nat) : (flds al o 4 j)[5]? = some (.int (o.1 5)) := rfl
theorem gv_4_6 (al : Al) (o : Ob) (j : Nat) : (flds al o 4 j)[6]? = some (.int (o.1 6)) := rfl
theorem gv_4_7 (al : Al) (o : Ob) (j : Nat) : (flds al o 4 j)[7]? = some (.int (o.1 7)) := rfl
theorem gv_4_8 (al : Al) (o : Ob) (j : Nat) : (flds al o 4 j)[8]? = some (.int (o.1 8)) := rfl
theorem gv_4_9 (al : Al) (o : Ob) (j : Nat) : (flds al o 4 j)[9]? = some (.int (o.1 9)) := rfl
theorem gv_5_0 (al : Al) (o : Ob) (j : Nat) : (flds al o 5 j)[0]? = some (.ref (al 5 j 1)) := rfl
theorem gv_5_1 (al : Al) (o : Ob) (j : Nat) : (flds al o 5 j)[1]? = some (.ref (al 5 j 2)) := rfl
theorem gv_5_2 (al : Al) (o : Ob) (j : Nat) : (flds al o 5 j)[2]? = some (.ref (al 5 j 3)) := rfl
theorem gv_5_3 (al : Al) (o : Ob) (j : Nat) : (flds al o 5 j)[3]? = some (.int (o.1 3)) := rfl
theorem gv_5_4 (al : Al) (o : Ob) (j : Nat) : (flds al o 5 j)[4]? = some (.int (o.1 4)) := rfl
theorem gv_5_5 (al : Al) (o : Ob) (j : Nat) : (flds al o 5 j)[5]? = some (.int (o.1 5)) := rfl
theorem gv_5_6 (al : Al) (o : Ob) (j : Nat) : (flds al o 5 j)[6]? = some (.int (o.1 6)) := rfl
theorem gv_5_7 (al : Al) (o : Ob) (j : Nat) : (flds al o 5 j)[7]? = some (.int (o.1 7)) := rfl
theorem gv_6_0 (al : Al) (o : Ob) (j : Nat) : (flds al o 6 j)[0]? = some (.ref (al 6 j 1)) := rfl
theorem gv_7_0 (al : Al) (o : Ob) (j : Nat) : (flds al o 7 j)[0]? = some (.ref (al 7 j 1)) := rfl
theorem gv_7_1 (al : Al) (o : Ob) (j : Nat) : (flds al o 7 j)[1]? = some (.ref (al 7 j 2)) := rfl
theorem gv_7_2 (al : Al) (o : Ob) (j : Nat) : (flds al o 7 j)[2]? = some (.ref (al 7 j 3)) := rfl
theorem gv_7_3 (al : Al) (o : Ob) (j : Nat) : (flds al o 7 j)[3]? = some (.ref (al 7 j 4)) := rfl
theorem gv_7_4 (al : Al) (o : Ob) (j : Nat) : (flds al o 7 j)[4]? = some (.int (o.1 4)) := rfl
theorem gv_7_5 (al : Al) (o : Ob) (j : Nat) : (flds al o 7 j)[5]? = some (.int (o.1 5)) := rfl
theorem gv_7_6 (al : Al) (o : Ob) (j : Nat) : (flds al o 7 j)[6]? = some (.int (o.1 6)) := rfl
theorem gv_7_7 (al : Al) (o : Ob) (j : Nat) : (flds al o 7 j)[7]? = some (.int (o.1 7)) := rfl
theorem gv_7_8 (al : Al) (o : Ob) (j : Nat) : (flds al o 7 j)[8]? = some (.int (o.1 8)) := rfl
theorem gv_7_9 (al : Al) (o : Ob) (j : Nat) : (flds al o 7 j)[9]? = some (.int (o.1 9)) := rfl
theorem gv_7_10 (al : Al) (o : Ob) (j : Nat) : (flds al o 7 j)[10]? = some (.int (o.1 10)) := rfl
theorem gv_8_0 (al : Al) (o : Ob) (j : Nat) : (flds al o 8 j)[0]? = some (.ref (al 5 j 0)) := rfl
theorem gv_8_1 (al : Al) (o : Ob) (j : Nat) : (flds al o 8 j)[1]? = some (.ref (al 3 (4 * j) 0)) := rfl
theorem gv_8_2 (al : Al) (o : Ob) (j : Nat) : (flds al o 8 j)[2]? = some (.ref (al 3 (4 * j + 1) 0)) := rfl
theorem gv_8_3 (al : Al) (o : Ob) (j : Nat) : (flds al o 8 j)[3]? = some (.ref (al 3 (4 * j + 2) 0)) := rfl
theorem gv_8_4 (al : Al) (o : Ob) (j : Nat) : (flds al o 8 j)[4]? = some (.ref (al 3 (4 * j + 3) 0)) := rfl
theorem gv_9_0 (al : Al) (o : Ob) (j : Nat) : (flds al o 9 j)[0]? = some (.ref (al 9 j 1)) := rfl
theorem gv_9_1 (al : Al) (o : Ob) (j : Nat) : (flds al o 9 j)[1]? = some (.int (o.1 1)) := rfl
theorem gv_9_2 (al : Al) (o : Ob) (j : Nat) : (flds al o 9 j)[2]? = some (pv al 8 (o.2.2.1 2)) := rfl
theorem gv_9_3 (al : Al) (o : Ob) (j : Nat) : (flds al o 9 j)[3]? = some (pv al 8 (o.2.2.1 3)) := rfl
theorem gv_9_4 (al : Al) (o : Ob) (j : Nat) : (flds al o 9 j)[4]? = some (.ref (al 4 0 0)) := rfl
theorem gv_9_5 (al : Al) (o : Ob) (j : Nat) : (flds al o 9 j)[5]? = some (.ref (al 1 0 0)) := rfl
theorem gv_9_6 (al : Al) (o : Ob) (j : Nat) : (flds al o 9 j)[6]? = some (.ref (al 7 0 0)) := rfl
theorem gv_9_7 (al : Al) (o : Ob) (j : Nat) : (flds al o 9 j)[7]? = some (.ref (al 7 1 0)) := rfl
theorem gv_9_8 (al : Al) (o : Ob) (j : Nat) : (flds al o 9 j)[8]? = some (.ref (al 5 2 0)) := rfl
theorem gv_9_9 (al : Al) (o : Ob) (j : Nat) : (flds al o 9 j)[9]? = some (.ref (al 0 0 0)) := rfl
theorem gv_9_10 (al : Al) (o : Ob) (j : Nat) : (flds al o 9 j)[10]? = some (.ref (al 2 0 0)) := rfl
theorem gv_9_11 (al : Al) (o : Ob) (j : Nat) : (flds al o 9 j)[11]? = some (.ref (al 6 1 0)) := rfl
theorem gv_9_12 (al : Al) (o : Ob) (j : Nat) : (flds al o 9 j)[12]? = some (.int (o.1 12)) := rfl
theorem gv_9_13 (al : Al) (o : Ob) (j : Nat) : (flds al o 9 j)[13]? = some (.int (o.1 13)) := rfl
theorem gv_9_14 (al : Al) (o : Ob) (j : Nat) : (flds al o 9 j)[14]? = some (.int (o.1 14)) := rfl
theorem gv_9_15 (al : Al) (o : Ob) (j : Nat) : (flds al o 9 j)[15]? = some (.int (o.1 15)) := rfl
theorem gv_10_0 (al : Al) (o : Ob) (j : Nat) : (flds al o 10 j)[0]? = some (.int (o.1 0)) := rfl
theorem gv_10_1 (al : Al) (o : Ob) (j : Nat) : (flds al o 10 j)[1]? = some (.int (o.1 1)) := rfl
theorem gv_10_2 (al : Al) (o : Ob) (j : Nat) : (flds al o 10 j)[2]? = some (.int (o.1 2)) := rfl
theorem gv_10_3 (al : Al) (o : Ob) (j : Nat) : (flds al o 10 j)[3]? = some (.int (o.1 3)) := rfl
theorem gv_10_4 (al : Al) (o : Ob) (j : Nat) : (flds al o 10 j)[4]? = some (.int (o.1 4)) := rfl
theorem gv_10_5 (al : Al) (o : Ob) (j : Nat) : (flds al o 10 j)[5]? = some (.int (o.1 5)) := rfl
theorem gv_10_6 (al : Al) (o : Ob) (j : Nat) : (flds al o 10 j)[6]? = some (.int (o.1 6)) := rfl
theorem gv_10_7 (al : Al) (o : Ob) (j : Nat) : (flds al o 10 j)[7]? = some (.int (o.1 7)) := rfl
theorem gv_10_8 (al : Al) (o : Ob) (j : Nat) : (flds al o 10 j)[8]? = some (.int (o.1 8)) := rfl
theorem gv_10_9 (al : Al) (o : Ob) (j : Nat) : (flds al o 10 j)[9]? = some (.ref (al 10 j 10)) := rfl
theorem gv_10_10 (al : Al) (o : Ob) (j : Nat) : (flds al o 10 j)[10]? = some (.ref (al 10 j 11)) := rfl
theorem gv_10_11 (al : Al) (o : Ob) (j : Nat) : (flds al o 10 j)[11]? = some (.ref (al 10 j 12)) := rfl
theorem gv_10_12 (al : Al) (o : Ob) (j : Nat) : (flds al o 10 j)[12]? = some (.ref (al 10 j 13)) := rfl
theorem gv_10_13 (al : Al) (o : Ob) (j : Nat) : (flds al o 10 j)[13]? = some (.ref (al 10 j 14)) := rfl
theorem gv_10_14 (al : Al) (o : Ob) (j : Nat) : (flds al o 10 j)[14]? = some (.ref (al 10 j 15)) := rfl
theorem gv_10_15 (al : Al) (o : Ob) (j : Nat) : (flds al o 10 j)[15]? = some (.ref (al 10 j 16)) := rfl
theorem gv_10_16 (al : Al) (o : Ob) (j : Nat) : (flds al o 10 j)[16]? = some (.ref (al 10 j 17)) := rfl
theorem gv_10_17 (al : Al) (o : Ob) (j : Nat) : (flds al o 10 j)[17]? = some (.ref (al 10 j 18)) := rfl
theorem gv_11_0 (al : Al) (o : Ob) (j : Nat) : (flds al o 11 j)[0]? = some (.int (o.1 0)) := rfl
theorem gv_11_1 (al : Al) (o : Ob) (j : Nat) : (flds al o 11 j)[1]? = some (.int (o.1 1)) := rfl
theorem gv_11_2 (al : Al) (o : Ob) (j : Nat) : (flds al o 11 j)[2]? = some (.int (o.1 2)) := rfl
theorem gv_11_3 (al : Al) (o : Ob) (j : Nat) : (flds al o 11 j)[3]? = some (pv al 10 (o.2.2.1 3)) := rfl
theorem gv_11_4 (al : Al) (o : Ob) (j : Nat) : (flds al o 11 j)[4]? = some (pv al 10 (o.2.2.1 4)) := rfl
theorem gv_11_5 (al : Al) (o : Ob) (j : Nat) : (flds al o 11 j)[5]? = some (.ref (al 11 j 6)) := rfl
theorem gv_11_6 (al : Al) (o : Ob) (j : Nat) : (flds al o 11 j)[6]? = some (.int (o.1 6)) := rfl
theorem gv_11_7 (al : Al) (o : Ob) (j : Nat) : (flds al o 11 j)[7]? = some (.int (o.1 7)) := rfl
theorem gv_11_8 (al : Al) (o : Ob) (j : Nat) : (flds al o 11 j)[8]? = some (.int (o.1 8)) := rfl
theorem gv_11_9 (al : Al) (o : Ob) (j : Nat) : (flds al o 11 j)[9]? = some (.int (o.1 9)) := rfl
theorem gv_11_10 (al : Al) (o : Ob) (j : Nat) : (flds al o 11 j)[10]? = some (.int (o.1 10)) := rfl
theorem gv_11_11 (al : Al) (o : Ob) (j : Nat) : (flds al o 11 j)[11]? = some (.int (o.1 11)) := rfl
theorem gv_11_12 (al : Al) (o : Ob) (j : Nat) : (flds al o 11 j)[12]? = some (.int (o.1 12)) := rfl
theorem gv_11_13 (al : Al) (o : Ob) (j : Nat) : (flds al o 11 j)[13]? = some (.int (o.1 13)) := rfl
theorem gv_11_14 (al : Al) (o : Ob) (j : Nat) : (flds al o 11 j)[14]? = some (.long (o.2.2.2 14)) := rfl
theorem gv_11_15 (al : Al) (o : Ob) (j : Nat) : (flds al o 11 j)[15]? = some (.ref (al 11 j 16)) := rfl
theorem gv_11_16 (al : Al) (o : Ob) (j : Nat) : (flds al o 11 j)[16]? = some (.ref (al 11 j 17)) := rfl
theorem gv_11_17 (al : Al) (o : Ob) (j : Nat) : (flds al o 11 j)[17]? = some (.ref (al 11 j 18)) := rfl
theorem gv_11_18 (al : Al) (o : Ob) (j : Nat) : (flds al o 11 j)[18]? = some (.ref (al 11 j 19)) := rfl
theorem gv_11_19 (al : Al) (o : Ob) (j : Nat) : (flds al o 11 j)[19]? = some (.int (o.1 19)) := rfl
theorem gv_11_20 (al : Al) (o : Ob) (j : Nat) : (flds al o 11 j)[20]? = some (.int (o.1 20)) := rfl
theorem gv_11_21 (al : Al) (o : Ob) (j : Nat) : (flds al o 11 j)[21]? = some (.ref (al 11 j 22)) := rfl
theorem gv_11_22 (al : Al) (o : Ob) (j : Nat) : (flds al o 11 j)[22]? = some (.ref (al 11 j 23)) := rfl
theorem gv_11_23 (al : Al) (o : Ob) (j : Nat) : (flds al o 11 j)[23]? = some (.int (o.1 23)) := rfl
theorem gv_11_24 (al : Al) (o : Ob) (j : Nat) : (flds al o 11 j)[24]? = some (.int (o.1 24)) := rfl
theorem gv_11_25 (al : Al) (o : Ob) (j : Nat) : (flds al o 11 j)[25]? = some (.int (o.1 25)) := rfl
theorem gv_11_26 (al : Al) (o : Ob) (j : Nat) : (flds al o 11 j)[26]? = some (.ref (al 11 j 27)) := rfl
theorem gv_11_27 (al : Al) (o : Ob) (j : Nat) : (flds al o 11 j)[27]? = some (.ref (al 11 j 28)) := rfl
theorem gv_11_28 (al : Al) (o : Ob) (j : Nat) : (flds al o 11 j)[28]? = some (.int (o.1 28)) := rfl
theorem gv_11_29 (al : Al) (o : Ob) (j : Nat) : (flds al o 11 j)[29]? = some (.int (o.1 29)) := rfl
theorem gv_11_30 (al : Al) (o : Ob) (j : Nat) : (flds al o 11 j)[30]? = some (.int (o.1 30)) := rfl
theorem gv_11_31 (al : Al) (o : Ob) (j : Nat) : (flds al o 11 j)[31]? = some (.int (o.1 31)) := rfl
theorem gv_11_32 (al : Al) (o : Ob) (j : Nat) : (flds al o 11 j)[32]? = some (.ref (al 11 j 33)) := rfl
theorem gv_11_33 (al : Al) (o : Ob) (j : Nat) : (flds al o 11 j)[33]? = some (.int (o.1 33)) := rfl
theorem gv_11_34 (al : Al) (o : Ob) (j : Nat) : (flds al o 11 j)[34]? = some (.int (o.1 34)) := rfl
theorem gv_11_35 (al : Al) (o : Ob) (j : Nat) : (flds al o 11 j)[35]? = some (.int (o.1 35)) := rfl
theorem cb_m2 : (Int8.ofInt (-2)).toInt32 = ((-2) : Int32) := by decide
theorem cb_6 : (Int8.ofInt 6).toInt32 = (6 : Int32) := by decide
theorem cb_7 : (Int8.ofInt 7).toInt32 = (7 : Int32) := by decide
theorem cb_8 : (Int8.ofInt 8).toInt32 = (8 : Int32) := by decide
theorem cb_10 : (Int8.ofInt 10).toInt32 = (10 : Int32) := by decide
theorem cb_11 : (Int8.ofInt 11).toInt32 = (11 : Int32) := by decide
theorem cb_12 : (Int8.ofInt 12).toInt32 = (12 : Int32) := by decide
theorem cb_15 : (Int8.ofInt 15).toInt32 = (15 : Int32) := by decide
theorem cb_16 : (Int8.ofInt 16).toInt32 = (16 : Int32) := by decide
theorem cb_20 : (Int8.ofInt 20).toInt32 = (20 : Int32) := by decide
theorem cb_24 : (Int8.ofInt 24).toInt32 = (24 : Int32) := by decide
theorem cb_32 : (Int8.ofInt 32).toInt32 = (32 : Int32) := by decide
theorem cb_48 : (Int8.ofInt 48).toInt32 = (48 : Int32) := by decide
theorem cb_49 : (Int8.ofInt 49).toInt32 = (49 : Int32) := by decide
theorem cb_57 : (Int8.ofInt 57).toInt32 = (57 : Int32) := by decide
theorem cb_59 : (Int8.ofInt 59).toInt32 = (59 : Int32) := by decide
theorem cb_64 : (Int8.ofInt 64).toInt32 = (64 : Int32) := by decide
theorem cb_73 : (Int8.ofInt 73).toInt32 = (73 : Int32) := by decide
theorem cb_74 : (Int8.ofInt 74).toInt32 = (74 : Int32) := by decide
theorem cb_75 : (Int8.ofInt 75).toInt32 = (75 : Int32) := by decide
theorem cb_97 : (Int8.ofInt 97).toInt32 = (97 : Int32) := by decide
theorem cb_98 : (Int8.ofInt 98).toInt32 = (98 : Int32) := by decide
theorem cb_99 : (Int8.ofInt 99).toInt32 = (99 : Int32) := by decide
theorem cb_100 : (Int8.ofInt 100).toInt32 = (100 : Int32) := by decide
theorem cb_101 : (Int8.ofInt 101).toInt32 = (101 : Int32) := by decide
theorem cb_109 : (Int8.ofInt 109).toInt32 = (109 : Int32) := by decide
theorem cb_110 : (Int8.ofInt 110).toInt32 = (110 : Int32) := by decide
theorem cb_122 : (Int8.ofInt 122).toInt32 = (122 : Int32) := by decide
theorem ci_m1 : Int32.ofInt (-1) = ((-1) : Int32) := by decide
theorem ci_0 : Int32.ofInt 0 = (0 : Int32) := by decide
theorem ci_1 : Int32.ofInt 1 = (1 : Int32) := by decide
theorem ci_2 : Int32.ofInt 2 = (2 : Int32) := by decide
theorem ci_3 : Int32.ofInt 3 = (3 : Int32) := by decide
theorem ci_4 : Int32.ofInt 4 = (4 : Int32) := by decide
theorem ci_5 : Int32.ofInt 5 = (5 : Int32) := by decide
theorem cl_0 : Int64.ofNat ((0 : Fin 2) : Nat) = (0 : Int64) := by decide
theorem cl_1 : Int64.ofNat ((1 : Fin 2) : Nat) = (1 : Int64) := by decide
theorem cs_255 : (Int16.ofInt 255).toInt32 = (255 : Int32) := by decide
theorem cs_680 : (Int16.ofInt 680).toInt32 = (680 : Int32) := by decide
theorem cs_700 : (Int16.ofInt 700).toInt32 = (700 : Int32) := by decide
theorem cs_1650 : (Int16.ofInt 1650).toInt32 = (1650 : Int32) := by decide
theorem cs_9999 : (Int16.ofInt 9999).toInt32 = (9999 : Int32) := by decide
def fuel0 : Nat := 1000000
section RM
variable {K : VC} {own : String} {cc : ByteArray} {fr lo : Nat} {al : Al} {w : Wd} {pc : Nat} {L : List (Nat × Value)} {st : List Value}
theorem r_sub {L2 : List (Nat × Value)} (is : List Nat) (hl : lv_pick L is = L2) (kk : V K al w pc L2 st) : V K al w pc L st := fun H lc ls hP hD hS h => kk H lc ls hP hD hS (lv_sub h is hl)
theorem r_cVi (p : Nat) {As rest : List Value} (h : VH K own cc fr lo) {idx n nl fr2 lo2 c j : Nat} {y : MethodName} {cc2 : ByteArray} {ret : Option FieldType} {x : Int32} {w2 : Wd} (hM : MC (kl K) (kG K) y cc2 nl ret fr2 lo2 al w (.ref (al c j 0) :: As) (some (.int x)) w2) (hc : CF own idx y cc2 nl ret n) (hi : Cond.instanceMethod y ∈ big ∧ Cond.selects y.cls y y ∈ big) (hC : ∃ (T : u_T) (N : Nat), vwCl[c]? = some (y.cls, T, N)) (d : decode cc pc = .ok (.invokevirtual idx, 3)) (e : p = pc + 3) (hf : fr2 + 1 ≤ fr) (ho : 8 + (nl + 11) + lo2 ≤ lo) (hj : (c, j, 0) ∈ keys (gN (kG K))) (hn : As.length = n) (hst : st = As.reverse ++ .ref (al c j 0) :: rest) (hr : (rest.map fun v => v.category).sum ≤ 8) (kk : V K al w2 p L (.int x :: rest)) : V K al w pc L st := r_callV p h hM hc hi hC d e hf ho hj hn hst hr kk
theorem r_cSi (p : Nat) {As rest : List Value} (h : VH K own cc fr lo) {idx n nl fr2 lo2 : Nat} {y : MethodName} {cc2 : ByteArray} {ret : Option FieldType} {x : Int32} {w2 : Wd} (hM : MC (kl K) (kG K) y cc2 nl ret fr2 lo2 al w As (some (.int x)) w2) (hc : CF own idx y cc2 nl ret n) (hi : Cond.static y ∈ big) (d : decode cc pc = .ok (.invokestatic idx, 3)) (e : p = pc + 3) (hf : fr2 + 1 ≤ fr) (ho : 8 + (nl + 11) + lo2 ≤ lo) (hn : As.length = n) (hst : st = As.reverse ++ rest) (hr : (rest.map fun v => v.category).sum ≤ 8) (kk : V K al w2 p L (.int x :: rest)) : V K al w pc L st := r_callS p h hM hc hi d e hf ho hn hst hr kk
theorem r_cVl (p : Nat) {As rest : List Value} (h : VH K own cc fr lo) {idx n nl fr2 lo2 c j : Nat} {y : MethodName} {cc2 : ByteArray} {ret : Option FieldType} {x : Int64} {w2 : Wd} (hM : MC (kl K) (kG K) y cc2 nl ret fr2 lo2 al w (.ref (al c j 0) :: As) (some (.long x)) w2) (hc : CF own idx y cc2 nl ret n) (hi : Cond.instanceMethod y ∈ big ∧ Cond.selects y.cls y y ∈ big) (hC : ∃ (T : u_T) (N : Nat), vwCl[c]? = some (y.cls, T, N)) (d : decode cc pc = .ok (.invokevirtual idx, 3)) (e : p = pc + 3) (hf : fr2 + 1 ≤ fr) (ho : 8 + (nl + 11) + lo2 ≤ lo) (hj : (c, j, 0) ∈ keys (gN (kG K))) (hn : As.length = n) (hst : st = As.reverse ++ .ref (al c j 0) :: rest) (hr : (rest.map fun v => v.category).sum ≤ 8) (kk : V K al w2 p L (.long x :: rest)) : V K al w pc L st := r_callV p h hM hc hi hC d e hf ho hj hn hst hr kk
theorem r_cSl (p : Nat) {As rest : List Value} (h : VH K own cc fr lo) {idx n nl fr2 lo2 : Nat} {y : MethodName} {cc2 : ByteArray} {ret : Option FieldType} {x : Int64} {w2 : Wd} (hM : MC (kl K) (kG K) y cc2 nl ret fr2 lo2 al w As (some (.long x)) w2) (hc : CF own idx y cc2 nl ret n) (hi : Cond.static y ∈ big) (d : decode cc pc = .ok (.invokestatic idx, 3)) (e : p = pc + 3) (hf : fr2 + 1 ≤ fr) (ho : 8 + (nl + 11) + lo2 ≤ lo) (hn : As.length = n) (hst : st = As.reverse ++ rest) (hr : (rest.map fun v => v.category).sum ≤ 8) (kk : V K al w2 p L (.long x :: rest)) : V K al w pc L st := r_callS p h hM hc hi d e hf ho hn hst hr kk
theorem r_cVv (p : Nat) {As rest : List Value} (h : VH K own cc fr lo) {idx n nl fr2 lo2 c j : Nat} {y : MethodName} {cc2 : ByteArray} {ret : Option FieldType} {w2 : Wd} (hM : MC (kl K) (kG K) y cc2 nl ret fr2 lo2 al w (.ref (al c j 0) :: As) none w2) (hc : CF own idx y cc2 nl ret n) (hi : Cond.instanceMethod y ∈ big ∧ Cond.selects y.cls y y ∈ big) (hC : ∃ (T : u_T) (N : Nat), vwCl[c]? = some (y.cls, T, N)) (d : decode cc pc = .ok (.invokevirtual idx, 3)) (e : p = pc + 3) (hf : fr2 + 1 ≤ fr) (ho : 8 + (nl + 11) + lo2 ≤ lo) (hj : (c, j, 0) ∈ keys (gN (kG K))) (hn : As.length = n) (hst : st = As.reverse ++ .ref (al c j 0) :: rest) (hr : (rest.map fun v => v.category).sum ≤ 8) (kk : V K al w2 p L (rest)) : V K al w pc L st := r_callV p h hM hc hi hC d e hf ho hj hn hst hr kk
theorem r_cSv (p : Nat) {As rest : List Value} (h : VH K own cc fr lo) {idx n nl fr2 lo2 : Nat} {y : MethodName} {cc2 : ByteArray} {ret : Option FieldType} {w2 : Wd} (hM : MC (kl K) (kG K) y cc2 nl ret fr2 lo2 al w As none w2) (hc : CF own idx y cc2 nl ret n) (hi : Cond.static y ∈ big) (d : decode cc pc = .ok (.invokestatic idx, 3)) (e : p = pc + 3) (hf : fr2 + 1 ≤ fr) (ho : 8 + (nl + 11) + lo2 ≤ lo) (hn : As.length = n) (hst : st = As.reverse ++ rest) (hr : (rest.map fun v => v.category).sum ≤ 8) (kk : V K al w2 p L (rest)) : V K al w pc L st := r_callS p h hM hc hi d e hf ho hn hst hr kk
theorem r_cVp (p : Nat) {As rest : List Value} (h : VH K own cc fr lo) {idx n nl fr2 lo2 c j : Nat} {y : MethodName} {cc2 : ByteArray} {ret : Option FieldType} {c2 x : Nat} {w2 : Wd} (hM : MC (kl K) (kG K) y cc2 nl ret fr2 lo2 al w (.ref (al c j 0) :: As) (some (pv al c2 x)) w2) (hc : CF own idx y cc2 nl ret n) (hi : Cond.instanceMethod y ∈ big ∧ Cond.selects y.cls y y ∈ big) (hC : ∃ (T : u_T) (N : Nat), vwCl[c]? = some (y.cls, T, N)) (d : decode cc pc = .ok (.invokevirtual idx, 3)) (e : p = pc + 3) (hf : fr2 + 1 ≤ fr) (ho : 8 + (nl + 11) + lo2 ≤ lo) (hj : (c, j, 0) ∈ keys (gN (kG K))) (hn : As.length = n) (hst : st = As.reverse ++ .ref (al c j 0) :: rest) (hr : (rest.map fun v => v.category).sum ≤ 8) (kk : V K al w2 p L (pv al c2 x :: rest)) : V K al w pc L st := r_callV p h hM hc hi hC d e hf ho hj hn hst hr kk
theorem r_cSp (p : Nat) {As rest : List Value} (h : VH K own cc fr lo) {idx n nl fr2 lo2 c2 : Nat} {y : MethodName} {cc2 : ByteArray} {ret : Option FieldType} {x : Nat} {w2 : Wd} (hM : MC (kl K) (kG K) y cc2 nl ret fr2 lo2 al w As (some (pv al c2 x)) w2) (hc : CF own idx y cc2 nl ret n) (hi : Cond.static y ∈ big) (d : decode cc pc = .ok (.invokestatic idx, 3)) (e : p = pc + 3) (hf : fr2 + 1 ≤ fr) (ho : 8 + (nl + 11) + lo2 ≤ lo) (hn : As.length = n) (hst : st = As.reverse ++ rest) (hr : (rest.map fun v => v.category).sum ≤ 8) (kk : V K al w2 p L (pv al c2 x :: rest)) : V K al w pc L st := r_callS p h hM hc hi d e hf ho hn hst hr kk
theorem r_tabIn (p : Nat) (h : VH K own cc fr lo) {x k : Int32} (hx : x = k) {dflt l1 h1 off : Int} {offs : Array Int} {len : Nat} (d : decode cc pc = .ok (.tableswitch dflt l1 h1 offs, len)) (e1 : ¬ k.toInt < l1) (e2 : ¬ h1 < k.toInt) (ho : offs[(k.toInt - l1).toNat]? = some off) (ht : (pc : Int) + off = (p : Int)) (kk : V K al w p L st) : V K al w pc L (.int x :: st) := fun H lc ls hP hD hS hl => by
  subst hx
  exact lv_tableIn h.x h.b d e1 e2 ho ht (kk H lc ls hP hD hS hl)
theorem r_tabOut (p : Nat) (h : VH K own cc fr lo) {x : Int32} {dflt l1 h1 : Int} {offs : Array Int} {len : Nat} (d : decode cc pc = .ok (.tableswitch dflt l1 h1 offs, len)) (e1 : x.toInt < l1 ∨ h1 < x.toInt) (ht : (pc : Int) + dflt = (p : Int)) (kk : V K al w p L st) : V K al w pc L (.int x :: st) := fun H lc ls hP hD hS hl =>
  lv_tableOut h.x h.b d e1 ht (kk H lc ls hP hD hS hl)
theorem r_lookup (p : Nat) (h : VH K own cc fr lo) {x : Int32} {dflt off : Int} {ps : Array (Int × Int)} {len : Nat} (d : decode cc pc = .ok (.lookupswitch dflt ps, len)) (hp : (ps.toList.zip (ps.toList.drop 1)).all (fun (a, next) => a.1 < next.1) = true) (ho : Op.lookupswitch.offset ps.toList dflt x.toInt = off) (ht : (pc : Int) + off = (p : Int)) (kk : V K al w p L st) : V K al w pc L (.int x :: st) := fun H lc ls hP hD hS hl =>
  lv_lookup h.x h.b d hp ho ht (kk H lc ls hP hD hS hl)
end RM
