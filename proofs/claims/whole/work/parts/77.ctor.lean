/-! ===== constructors: their cells, by program ===== -/
def dfl (c : Nat) : List Value := match c with
  | 0 => [.int 0]
  | 1 => [.null, .int 0]
  | 2 => [.null, .int 0, .int 0]
  | 3 => [.null, .null, .int 0]
  | 4 => [.null, .int 0, .null, .int 0, .int 0, .int 0, .int 0, .int 0, .int 0, .int 0]
  | 5 => [.null, .null, .null, .int 0, .int 0, .int 0, .int 0, .int 0]
  | 6 => [.null]
  | 7 => [.null, .null, .null, .null, .int 0, .int 0, .int 0, .int 0, .int 0, .int 0, .int 0]
  | 8 => [.null, .null, .null, .null, .null]
  | 9 => [.null, .int 0, .null, .null, .null, .null, .null, .null, .null, .null, .null, .null, .int 0, .int 0, .int 0, .int 0]
  | 10 => [.int 0, .int 0, .int 0, .int 0, .int 0, .int 0, .int 0, .int 0, .int 0, .null, .null, .null, .null, .null, .null, .null, .null, .null]
  | 11 => [.int 0, .int 0, .int 0, .null, .null, .null, .int 0, .int 0, .int 0, .int 0, .int 0, .int 0, .int 0, .int 0, .long 0, .null, .null, .null, .null, .int 0, .int 0, .null, .null, .int 0, .int 0, .int 0, .null, .null, .int 0, .int 0, .int 0, .int 0, .null, .int 0, .int 0, .int 0]
  | _ => []
theorem df_0 : ∀ j, j < 1 → defaultValue (tyX0 j) = vp_V (dfl 0) j := by
  intro j hj
  match j, hj with
  | 0, _ => rfl
  | k + 1, h => omega
theorem df_1 : ∀ j, j < 2 → defaultValue (tyX1 j) = vp_V (dfl 1) j := by
  intro j hj
  match j, hj with
  | 0, _ => rfl
  | 1, _ => rfl
  | k + 2, h => omega
theorem df_2 : ∀ j, j < 3 → defaultValue (tyX2 j) = vp_V (dfl 2) j := by
  intro j hj
  match j, hj with
  | 0, _ => rfl
  | 1, _ => rfl
  | 2, _ => rfl
  | k + 3, h => omega
theorem df_3 : ∀ j, j < 3 → defaultValue (tyX3 j) = vp_V (dfl 3) j := by
  intro j hj
  match j, hj with
  | 0, _ => rfl
  | 1, _ => rfl
  | 2, _ => rfl
  | k + 3, h => omega
theorem df_4 : ∀ j, j < 10 → defaultValue (tyX4 j) = vp_V (dfl 4) j := by
  intro j hj
  match j, hj with
  | 0, _ => rfl
  | 1, _ => rfl
  | 2, _ => rfl
  | 3, _ => rfl
  | 4, _ => rfl
  | 5, _ => rfl
  | 6, _ => rfl
  | 7, _ => rfl
  | 8, _ => rfl
  | 9, _ => rfl
  | k + 10, h => omega
theorem df_5 : ∀ j, j < 8 → defaultValue (tyX5 j) = vp_V (dfl 5) j := by
  intro j hj
  match j, hj with
  | 0, _ => rfl
  | 1, _ => rfl
  | 2, _ => rfl
  | 3, _ => rfl
  | 4, _ => rfl
  | 5, _ => rfl
  | 6, _ => rfl
  | 7, _ => rfl
  | k + 8, h => omega
theorem df_6 : ∀ j, j < 1 → defaultValue (tyX6 j) = vp_V (dfl 6) j := by
  intro j hj
  match j, hj with
  | 0, _ => rfl
  | k + 1, h => omega
theorem df_7 : ∀ j, j < 11 → defaultValue (tyX7 j) = vp_V (dfl 7) j := by
  intro j hj
  match j, hj with
  | 0, _ => rfl
  | 1, _ => rfl
  | 2, _ => rfl
  | 3, _ => rfl
  | 4, _ => rfl
  | 5, _ => rfl
  | 6, _ => rfl
  | 7, _ => rfl
  | 8, _ => rfl
  | 9, _ => rfl
  | 10, _ => rfl
  | k + 11, h => omega
theorem df_8 : ∀ j, j < 5 → defaultValue (tyX8 j) = vp_V (dfl 8) j := by
  intro j hj
  match j, hj with
  | 0, _ => rfl
  | 1, _ => rfl
  | 2, _ => rfl
  | 3, _ => rfl
  | 4, _ => rfl
  | k + 5, h => omega
theorem df_9 : ∀ j, j < 16 → defaultValue (tyX9 j) = vp_V (dfl 9) j := by
  intro j hj
  match j, hj with
  | 0, _ => rfl
  | 1, _ => rfl
  | 2, _ => rfl
  | 3, _ => rfl
  | 4, _ => rfl
  | 5, _ => rfl
  | 6, _ => rfl
  | 7, _ => rfl
  | 8, _ => rfl
  | 9, _ => rfl
  | 10, _ => rfl
  | 11, _ => rfl
  | 12, _ => rfl
  | 13, _ => rfl
  | 14, _ => rfl
  | 15, _ => rfl
  | k + 16, h => omega
theorem df_10 : ∀ j, j < 18 → defaultValue (tyX10 j) = vp_V (dfl 10) j := by
  intro j hj
  match j, hj with
  | 0, _ => rfl
  | 1, _ => rfl
  | 2, _ => rfl
  | 3, _ => rfl
  | 4, _ => rfl
  | 5, _ => rfl
  | 6, _ => rfl
  | 7, _ => rfl
  | 8, _ => rfl
  | 9, _ => rfl
  | 10, _ => rfl
  | 11, _ => rfl
  | 12, _ => rfl
  | 13, _ => rfl
  | 14, _ => rfl
  | 15, _ => rfl
  | 16, _ => rfl
  | 17, _ => rfl
  | k + 18, h => omega
theorem df_11 : ∀ j, j < 36 → defaultValue (tyX11 j) = vp_V (dfl 11) j := by
  intro j hj
  match j, hj with
  | 0, _ => rfl
  | 1, _ => rfl
  | 2, _ => rfl
  | 3, _ => rfl
  | 4, _ => rfl
  | 5, _ => rfl
  | 6, _ => rfl
  | 7, _ => rfl
  | 8, _ => rfl
  | 9, _ => rfl
  | 10, _ => rfl
  | 11, _ => rfl
  | 12, _ => rfl
  | 13, _ => rfl
  | 14, _ => rfl
  | 15, _ => rfl
  | 16, _ => rfl
  | 17, _ => rfl
  | 18, _ => rfl
  | 19, _ => rfl
  | 20, _ => rfl
  | 21, _ => rfl
  | 22, _ => rfl
  | 23, _ => rfl
  | 24, _ => rfl
  | 25, _ => rfl
  | 26, _ => rfl
  | 27, _ => rfl
  | 28, _ => rfl
  | 29, _ => rfl
  | 30, _ => rfl
  | 31, _ => rfl
  | 32, _ => rfl
  | 33, _ => rfl
  | 34, _ => rfl
  | 35, _ => rfl
  | k + 36, h => omega
def cl7 (G : Gx) (a : Nat) (b : Nat → Nat) : va_W := [(a, .inr (7, [.ref (b 0), .ref (b 1), .ref (b 2), .ref (b 3), .int 0, .int 0, .int 0, .int 0, .int 0, .int 0, .int 0])), (b 0, .inl (G.2.1 1, 48, .inl (fun _ => 0))), (b 1, .inl (G.2.1 1, 24, .inl (fun _ => 0))), (b 2, .inl (G.2.1 1, 24, .inl (fun _ => 0))), (b 3, .inl (G.2.1 1, 8, .inl (fun _ => 0)))]
def cl5 (G : Gx) (a : Nat) (b : Nat → Nat) : va_W := [(a, .inr (5, [.ref (b 0), .ref (b 1), .ref (b 2), .int 0, .int 0, .int 0, .int 0, .int 0])), (b 0, .inl (G.2.1 1, 24, .inl (fun _ => 0))), (b 1, .inl (G.2.1 1, 24, .inl (fun _ => 0))), (b 2, .inl (G.2.1 1, 48, .inl (fun _ => 0)))]
def cl3 (G : Gx) (n a : Nat) (b : Nat → Nat) : va_W := [(a, .inr (3, [.ref (b 0), .ref (b 1), .int 0])), (b 0, .inl (G.2.1 1, n, .inl (fun _ => 0))), (b 1, .inl (G.2.1 1, n, .inl (fun _ => 0)))]
def clf1 (G : Gx) (a : Nat) (b : Nat → Nat) : va_W := [(a, .inr (1, [.ref (b 0), .int 0])), (b 0, .inl (G.2.1 1, 16, .inl (fun _ => 0)))]
def cl0 (a : Nat) : va_W := [(a, .inr (0, [.int 0]))]
def cl4 (a t u : Nat) : va_W := [(a, .inr (4, [.ref t, .int 0, .ref u, .int 0, .int 0, .int 0, .int 0, .int 0, .int 0, .int 0]))]
def cl8 (G : Gx) (a s : Nat) (bs : Nat → Nat) (o : Nat → Nat) (bp : Nat → Nat → Nat) : va_W := (a, .inr (8, [.ref s, .ref (o 0), .ref (o 1), .ref (o 2), .ref (o 3)])) :: (((([] ++ cl5 G s bs) ++ cl3 G 12 (o 0) (bp 0)) ++ cl3 G 16 (o 1) (bp 1)) ++ cl3 G 4 (o 2) (bp 2)) ++ cl3 G 6 (o 3) (bp 3)
def cl6 (G : Gx) (n a r : Nat) (b : Nat → Nat → Nat) : va_W := (a, .inr (6, [.ref r])) :: (r, .inl (G.2.1 4, n, .inr (.inr (.inr (.inr (fun j => some (b j 0))))))) :: (List.range n).flatMap (fun j => cl7 G (b j 0) (fun k => b j (k + 1)))
def cl2 (G : Gx) (a s r : Nat) (b : Nat → Nat → Nat) : va_W := (a, .inr (2, [.ref s, .int 0, .int 0])) :: ([] ++ cl6 G 16 s r b)
def cl10 (G : Gx) (a : Nat) (b : Nat → Nat) : va_W := [(a, .inr (10, [.int 0, .int 0, .int 0, .int 0, .int 0, .int 0, .int 0, .int 0, .int 0, .ref (b 0), .ref (b 1), .ref (b 2), .ref (b 3), .ref (b 4), .ref (b 5), .ref (b 6), .ref (b 7), .ref (b 8)])), (b 0, .inl (G.2.1 1, 6, .inl (fun _ => 0))), (b 1, .inl (G.2.1 1, 48, .inl (fun _ => 0))), (b 2, .inl (G.2.1 1, 16, .inl (fun _ => 0))), (b 3, .inl (G.2.1 1, 16, .inl (fun _ => 0))), (b 4, .inl (G.2.1 1, 4, .inl (fun _ => 0))), (b 5, .inl (G.2.1 1, 4, .inl (fun _ => 0))), (b 6, .inl (G.2.1 1, 6, .inl (fun _ => 0))), (b 7, .inl (G.2.1 1, 6, .inl (fun _ => 0))), (b 8, .inl (G.2.1 3, 48, .inl (fun _ => 0)))]
def cl11 (G : Gx) (a : Nat) (b : Nat → Nat) : va_W := [(a, .inr (11, [.int 0, .int 0, .int (-1), .null, .null, .ref (b 0), .int 0, .int 0, .int 0, .int 0, .int 0, .int 0, .int 0, .int 0, .long 0, .ref (b 1), .ref (b 2), .ref (b 3), .ref (b 4), .int 0, .int 0, .ref (b 5), .ref (b 6), .int 0, .int 0, .int 0, .ref (b 7), .ref (b 8), .int 0, .int 0, .int 0, .int 0, .ref (b 9), .int 0, .int 0, .int 0])), (b 0, .inl (G.2.1 2, 700, .inl (fun _ => 0))), (b 1, .inl (G.2.1 1, 110, .inl (fun _ => 0))), (b 2, .inl (G.2.1 1, 110, .inl (fun _ => 0))), (b 3, .inl (G.2.1 1, 1760, .inl (fun _ => 0))), (b 4, .inl (G.2.1 1, 330, .inl (fun _ => 0))), (b 5, .inl (G.2.1 1, 24, .inl (fun _ => 0))), (b 6, .inl (G.2.1 1, 24, .inl (fun _ => 0))), (b 7, .inl (G.2.1 1, 48, .inl (fun _ => 0))), (b 8, .inl (G.2.1 1, 48, .inl (fun _ => 0))), (b 9, .inl (G.2.1 1, 4, .inl (fun _ => 0)))]
abbrev T8 : Type := Nat × (Nat → Nat) × (Nat → Nat) × (Nat → Nat → Nat)
def cl8t (G : Gx) (a : Nat) (t : T8) : va_W := cl8 G a t.1 t.2.1 t.2.2.1 t.2.2.2
def cl9 (G : Gx) (a tp : Nat) (t0 : Nat) (u0 : T8) (t1 : Nat) (u1 : T8) (pa fi : Nat) (bf : Nat → Nat) (s0 : Nat) (b0 : Nat → Nat) (s1 : Nat) (b1 : Nat → Nat) (sh : Nat) (bh : Nat → Nat) (dr hi h6 hr : Nat) (bi : Nat → Nat → Nat) (im ir : Nat) (bm : Nat → Nat → Nat) : va_W := (a, .inr (9, [.ref tp, .int 0, .ref t0, .ref t1, .ref pa, .ref fi, .ref s0, .ref s1, .ref sh, .ref dr, .ref hi, .ref im, .int 0, .int 0, .int 0, .int 0])) :: (((((((((([(tp, .inl (G.2.1 2, 700, .inl (fun _ => 0)))] ++ cl8t G t0 u0) ++ cl8t G t1 u1) ++ cl4 pa tp t1) ++ clf1 G fi bf) ++ cl7 G s0 b0) ++ cl7 G s1 b1) ++ cl5 G sh bh) ++ cl0 dr) ++ cl2 G hi h6 hr bi) ++ cl6 G 3 im ir bm)
set_option maxRecDepth 100000 in
set_option maxHeartbeats 4000000 in
theorem nX7_init {l : Launch} {G : Gx} {a : Nat} {z : Bool}   : MN l G yX7_init cX7_init 1 1 12 4 (104) z [(a, .inr (7, dfl 7))] [.ref a] (fun P => ∃ b : Nat → Nat, P = cl7 G a b) := by
  refine mn_of [(0, .ref a)] (by decide) (Nat.le_of_ble_eq_true rfl) rfl rfl ?_
  intro K hk hR hin hn hl hG
  subst hl; subst hG
  have hk : NH K RX7 cX7_init 1 12 4 (104) z := hk
  refine n_aload_n 1 hk dX7_init_0 rfl 0 rfl rfl ?_
  refine n_obj 4 hk (big_t 193 (by decide +kernel) rfl) dX7_init_1 rfl (by omega) (Nat.le_of_ble_eq_true rfl) ?_
  refine n_aload_n 5 hk dX7_init_4 rfl 0 rfl rfl ?_
  refine n_bipush 7 hk dX7_init_5 rfl (v := 48) (by decide) ?_
  refine n_newa 9 hk (ty := .int) 1 rfl rfl (big_t 84 (by decide +kernel) rfl) (a0 := (48, .inl (fun _ => 0))) (fun _ => rfl) (by decide) (N := 48) (by decide) (by decide) (by omega) (by omega) dX7_init_7 rfl (fun q0 => ?_)
  refine n_cs ?_
  refine n_putF 12 hk hin tyX7 (ci := 7) rfl cu_7 tyX7_ok nmX7 0 (by decide) (big_t 194 (by decide +kernel) rfl) rfl rfl (tyX7_ok 0 (by decide)) rfl rfl (Nat.le_of_ble_eq_true rfl) dX7_init_9 rfl rfl ?_
  refine n_aload_n 13 hk dX7_init_12 rfl 0 rfl rfl ?_
  refine n_bipush 15 hk dX7_init_13 rfl (v := 24) (by decide) ?_
  refine n_newa 17 hk (ty := .int) 1 rfl rfl (big_t 84 (by decide +kernel) rfl) (a0 := (24, .inl (fun _ => 0))) (fun _ => rfl) (by decide) (N := 24) (by decide) (by decide) (by omega) (by omega) dX7_init_15 rfl (fun q1 => ?_)
  refine n_cs ?_
  refine n_putF 20 hk hin tyX7 (ci := 7) rfl cu_7 tyX7_ok nmX7 1 (by decide) (big_t 196 (by decide +kernel) rfl) rfl rfl (tyX7_ok 1 (by decide)) rfl rfl (Nat.le_of_ble_eq_true rfl) dX7_init_17 rfl rfl ?_
  refine n_aload_n 21 hk dX7_init_20 rfl 0 rfl rfl ?_
  refine n_bipush 23 hk dX7_init_21 rfl (v := 24) (by decide) ?_
  refine n_newa 25 hk (ty := .int) 1 rfl rfl (big_t 84 (by decide +kernel) rfl) (a0 := (24, .inl (fun _ => 0))) (fun _ => rfl) (by decide) (N := 24) (by decide) (by decide) (by omega) (by omega) dX7_init_23 rfl (fun q2 => ?_)
  refine n_cs ?_
  refine n_putF 28 hk hin tyX7 (ci := 7) rfl cu_7 tyX7_ok nmX7 2 (by decide) (big_t 198 (by decide +kernel) rfl) rfl rfl (tyX7_ok 2 (by decide)) rfl rfl (Nat.le_of_ble_eq_true rfl) dX7_init_25 rfl rfl ?_
  refine n_aload_n 29 hk dX7_init_28 rfl 0 rfl rfl ?_
  refine n_bipush 31 hk dX7_init_29 rfl (v := 8) (by decide) ?_
  refine n_newa 33 hk (ty := .int) 1 rfl rfl (big_t 84 (by decide +kernel) rfl) (a0 := (8, .inl (fun _ => 0))) (fun _ => rfl) (by decide) (N := 8) (by decide) (by decide) (by omega) (by omega) dX7_init_31 rfl (fun q3 => ?_)
  refine n_cs ?_
  refine n_putF 36 hk hin tyX7 (ci := 7) rfl cu_7 tyX7_ok nmX7 3 (by decide) (big_t 200 (by decide +kernel) rfl) rfl rfl (tyX7_ok 3 (by decide)) rfl rfl (Nat.le_of_ble_eq_true rfl) dX7_init_33 rfl rfl ?_
  exact n_vret hk hR ⟨(fun i => [q0, q1, q2, q3].getD i 0), rfl⟩ (by omega) (by omega) dX7_init_36
set_option maxRecDepth 100000 in
set_option maxHeartbeats 4000000 in
theorem nX5_init {l : Launch} {G : Gx} {a : Nat} {z : Bool}   : MN l G yX5_init cX5_init 1 1 12 3 (96) z [(a, .inr (5, dfl 5))] [.ref a] (fun P => ∃ b : Nat → Nat, P = cl5 G a b) := by
  refine mn_of [(0, .ref a)] (by decide) (Nat.le_of_ble_eq_true rfl) rfl rfl ?_
  intro K hk hR hin hn hl hG
  subst hl; subst hG
  have hk : NH K RX5 cX5_init 1 12 3 (96) z := hk
  refine n_aload_n 1 hk dX5_init_0 rfl 0 rfl rfl ?_
  refine n_obj 4 hk (big_t 42 (by decide +kernel) rfl) dX5_init_1 rfl (by omega) (Nat.le_of_ble_eq_true rfl) ?_
  refine n_aload_n 5 hk dX5_init_4 rfl 0 rfl rfl ?_
  refine n_bipush 7 hk dX5_init_5 rfl (v := 24) (by decide) ?_
  refine n_newa 9 hk (ty := .int) 1 rfl rfl (big_t 84 (by decide +kernel) rfl) (a0 := (24, .inl (fun _ => 0))) (fun _ => rfl) (by decide) (N := 24) (by decide) (by decide) (by omega) (by omega) dX5_init_7 rfl (fun q0 => ?_)
  refine n_cs ?_
  refine n_putF 12 hk hin tyX5 (ci := 5) rfl cu_5 tyX5_ok nmX5 0 (by decide) (big_t 43 (by decide +kernel) rfl) rfl rfl (tyX5_ok 0 (by decide)) rfl rfl (Nat.le_of_ble_eq_true rfl) dX5_init_9 rfl rfl ?_
  refine n_aload_n 13 hk dX5_init_12 rfl 0 rfl rfl ?_
  refine n_bipush 15 hk dX5_init_13 rfl (v := 24) (by decide) ?_
  refine n_newa 17 hk (ty := .int) 1 rfl rfl (big_t 84 (by decide +kernel) rfl) (a0 := (24, .inl (fun _ => 0))) (fun _ => rfl) (by decide) (N := 24) (by decide) (by decide) (by omega) (by omega) dX5_init_15 rfl (fun q1 => ?_)
  refine n_cs ?_
  refine n_putF 20 hk hin tyX5 (ci := 5) rfl cu_5 tyX5_ok nmX5 1 (by decide) (big_t 44 (by decide +kernel) rfl) rfl rfl (tyX5_ok 1 (by decide)) rfl rfl (Nat.le_of_ble_eq_true rfl) dX5_init_17 rfl rfl ?_
  refine n_aload_n 21 hk dX5_init_20 rfl 0 rfl rfl ?_
  refine n_bipush 23 hk dX5_init_21 rfl (v := 48) (by decide) ?_
  refine n_newa 25 hk (ty := .int) 1 rfl rfl (big_t 84 (by decide +kernel) rfl) (a0 := (48, .inl (fun _ => 0))) (fun _ => rfl) (by decide) (N := 48) (by decide) (by decide) (by omega) (by omega) dX5_init_23 rfl (fun q2 => ?_)
  refine n_cs ?_
  refine n_putF 28 hk hin tyX5 (ci := 5) rfl cu_5 tyX5_ok nmX5 2 (by decide) (big_t 45 (by decide +kernel) rfl) rfl rfl (tyX5_ok 2 (by decide)) rfl rfl (Nat.le_of_ble_eq_true rfl) dX5_init_25 rfl rfl ?_
  exact n_vret hk hR ⟨(fun i => [q0, q1, q2].getD i 0), rfl⟩ (by omega) (by omega) dX5_init_28
set_option maxRecDepth 100000 in
set_option maxHeartbeats 4000000 in
theorem nX3_init {l : Launch} {G : Gx} {a : Nat} {z : Bool} {n : Nat} (hn0 : n ≤ 100) : MN l G yX3_init cX3_init 2 1 14 2 (n + n) z [(a, .inr (3, dfl 3))] [.ref a, .int (nI n)] (fun P => ∃ b : Nat → Nat, P = cl3 G n a b) := by
  have hng : ¬ nI n < 0 := nI_pos (by omega)
  have hcl : (nI n).toNatClampNeg = n := nI_clamp (by omega)
  have hmx : (if nI n < 0 then 0 else nI n) = nI n := if_neg hng
  refine mn_of [(0, .ref a), (1, .int (nI n))] (by decide) (Nat.le_of_ble_eq_true rfl) rfl rfl ?_
  intro K hk hR hin hn hl hG
  subst hl; subst hG
  have hk : NH K RX3 cX3_init 1 14 2 (n + n) z := hk
  refine n_aload_n 1 hk dX3_init_0 rfl 0 rfl rfl ?_
  refine n_obj 4 hk (big_t 90 (by decide +kernel) rfl) dX3_init_1 rfl (by omega) (Nat.le_of_ble_eq_true rfl) ?_
  refine n_aload_n 5 hk dX3_init_4 rfl 0 rfl rfl ?_
  refine n_iload_n 6 hk dX3_init_5 rfl 1 rfl rfl ?_
  refine n_iconst 7 hk dX3_init_6 rfl (v := 0) (by decide) ?_
  refine n_max 10 hk dX3_init_7 rfl km_RX3_7 (by omega) (Nat.le_of_ble_eq_true rfl) (by omega) (by omega) ?_
  rw [hmx]
  refine n_newa 12 hk (ty := .int) 1 rfl rfl (big_t 84 (by decide +kernel) rfl) (a0 := (n, .inl (fun _ => 0))) (fun _ => rfl) hng (N := n) hcl (by show n * 4 ≤ _; omega) (by omega) (by omega) dX3_init_10 rfl (fun q0 => ?_)
  refine n_cs ?_
  refine n_putF 15 hk hin tyX3 (ci := 3) rfl cu_3 tyX3_ok nmX3 0 (by decide) (big_t 94 (by decide +kernel) rfl) rfl rfl (tyX3_ok 0 (by decide)) rfl rfl (Nat.le_of_ble_eq_true rfl) dX3_init_12 rfl rfl ?_
  refine n_aload_n 16 hk dX3_init_15 rfl 0 rfl rfl ?_
  refine n_iload_n 17 hk dX3_init_16 rfl 1 rfl rfl ?_
  refine n_iconst 18 hk dX3_init_17 rfl (v := 0) (by decide) ?_
  refine n_max 21 hk dX3_init_18 rfl km_RX3_7 (by omega) (Nat.le_of_ble_eq_true rfl) (by omega) (by omega) ?_
  rw [hmx]
  refine n_newa 23 hk (ty := .int) 1 rfl rfl (big_t 84 (by decide +kernel) rfl) (a0 := (n, .inl (fun _ => 0))) (fun _ => rfl) hng (N := n) hcl (by show n * 4 ≤ _; omega) (by omega) (by omega) dX3_init_21 rfl (fun q1 => ?_)
  refine n_cs ?_
  refine n_putF 26 hk hin tyX3 (ci := 3) rfl cu_3 tyX3_ok nmX3 1 (by decide) (big_t 95 (by decide +kernel) rfl) rfl rfl (tyX3_ok 1 (by decide)) rfl rfl (Nat.le_of_ble_eq_true rfl) dX3_init_23 rfl rfl ?_
  exact n_vret hk hR ⟨(fun i => [q0, q1].getD i 0), rfl⟩ (by omega) (by omega) dX3_init_26
set_option maxRecDepth 100000 in
set_option maxHeartbeats 4000000 in
theorem nX1_init {l : Launch} {G : Gx} {a : Nat} {z : Bool}   : MN l G yX1_init cX1_init 1 1 12 1 (16) z [(a, .inr (1, dfl 1))] [.ref a] (fun P => ∃ b : Nat → Nat, P = clf1 G a b) := by
  refine mn_of [(0, .ref a)] (by decide) (Nat.le_of_ble_eq_true rfl) rfl rfl ?_
  intro K hk hR hin hn hl hG
  subst hl; subst hG
  have hk : NH K RX1 cX1_init 1 12 1 (16) z := hk
  refine n_aload_n 1 hk dX1_init_0 rfl 0 rfl rfl ?_
  refine n_obj 4 hk (big_t 178 (by decide +kernel) rfl) dX1_init_1 rfl (by omega) (Nat.le_of_ble_eq_true rfl) ?_
  refine n_aload_n 5 hk dX1_init_4 rfl 0 rfl rfl ?_
  refine n_bipush 7 hk dX1_init_5 rfl (v := 16) (by decide) ?_
  refine n_newa 9 hk (ty := .int) 1 rfl rfl (big_t 84 (by decide +kernel) rfl) (a0 := (16, .inl (fun _ => 0))) (fun _ => rfl) (by decide) (N := 16) (by decide) (by decide) (by omega) (by omega) dX1_init_7 rfl (fun q0 => ?_)
  refine n_cs ?_
  refine n_putF 12 hk hin tyX1 (ci := 1) rfl cu_1 tyX1_ok nmX1 0 (by decide) (big_t 179 (by decide +kernel) rfl) rfl rfl (tyX1_ok 0 (by decide)) rfl rfl (Nat.le_of_ble_eq_true rfl) dX1_init_9 rfl rfl ?_
  exact n_vret hk hR ⟨(fun i => [q0].getD i 0), rfl⟩ (by omega) (by omega) dX1_init_12
set_option maxRecDepth 100000 in
set_option maxHeartbeats 4000000 in
theorem nX0_init {l : Launch} {G : Gx} {a : Nat} {z : Bool}   : MN l G yX0_init cX0_init 1 1 12 0 (0) z [(a, .inr (0, dfl 0))] [.ref a] (fun P => P = cl0 a) := by
  refine mn_of [(0, .ref a)] (by decide) (Nat.le_of_ble_eq_true rfl) rfl rfl ?_
  intro K hk hR hin hn hl hG
  subst hl; subst hG
  have hk : NH K RX0 cX0_init 1 12 0 (0) z := hk
  refine n_aload_n 1 hk dX0_init_0 rfl 0 rfl rfl ?_
  refine n_obj 4 hk (big_t 244 (by decide +kernel) rfl) dX0_init_1 rfl (by omega) (Nat.le_of_ble_eq_true rfl) ?_
  exact n_vret hk hR rfl (by omega) (by omega) dX0_init_4
set_option maxRecDepth 100000 in
set_option maxHeartbeats 4000000 in
theorem nX4_init {l : Launch} {G : Gx} {a : Nat} {z : Bool} {t u : Nat}  : MN l G yX4_init cX4_init 3 1 12 0 (0) z [(a, .inr (4, dfl 4))] [.ref a, .ref t, .ref u] (fun P => P = cl4 a t u) := by
  refine mn_of [(0, .ref a), (1, .ref t), (2, .ref u)] (by decide) (Nat.le_of_ble_eq_true rfl) rfl rfl ?_
  intro K hk hR hin hn hl hG
  subst hl; subst hG
  have hk : NH K RX4 cX4_init 1 12 0 (0) z := hk
  refine n_aload_n 1 hk dX4_init_0 rfl 0 rfl rfl ?_
  refine n_obj 4 hk (big_t 139 (by decide +kernel) rfl) dX4_init_1 rfl (by omega) (Nat.le_of_ble_eq_true rfl) ?_
  refine n_aload_n 5 hk dX4_init_4 rfl 0 rfl rfl ?_
  refine n_aload_n 6 hk dX4_init_5 rfl 1 rfl rfl ?_
  refine n_putF 9 hk hin tyX4 (ci := 4) rfl cu_4 tyX4_ok nmX4 0 (by decide) (big_t 140 (by decide +kernel) rfl) rfl rfl (tyX4_ok 0 (by decide)) rfl rfl (Nat.le_of_ble_eq_true rfl) dX4_init_6 rfl rfl ?_
  refine n_aload_n 10 hk dX4_init_9 rfl 0 rfl rfl ?_
  refine n_aload_n 11 hk dX4_init_10 rfl 2 rfl rfl ?_
  refine n_put 14 hk tyX4 (ci := 4) rfl cu_4 tyX4_ok nmX4 2 (by decide) (big_t 142 (by decide +kernel) rfl) rfl (tyX4_ok 2 (by decide)) rfl rfl (Nat.le_of_ble_eq_true rfl) dX4_init_11 rfl rfl ?_
  exact n_vret hk hR rfl (by omega) (by omega) dX4_init_14
set_option maxRecDepth 100000 in
set_option maxHeartbeats 4000000 in
theorem nX10_init {l : Launch} {G : Gx} {a : Nat} {z : Bool}   : MN l G yX10_init cX10_init 1 1 12 9 (154) z [(a, .inr (10, dfl 10))] [.ref a] (fun P => ∃ b : Nat → Nat, P = cl10 G a b) := by
  refine mn_of [(0, .ref a)] (by decide) (Nat.le_of_ble_eq_true rfl) rfl rfl ?_
  intro K hk hR hin hn hl hG
  subst hl; subst hG
  have hk : NH K RX10 cX10_init 1 12 9 (154) z := hk
  refine n_aload_n 1 hk dX10_init_0 rfl 0 rfl rfl ?_
  refine n_obj 4 hk (big_t 1165 (by decide +kernel) rfl) dX10_init_1 rfl (by omega) (Nat.le_of_ble_eq_true rfl) ?_
  refine n_aload_n 5 hk dX10_init_4 rfl 0 rfl rfl ?_
  refine n_bipush 7 hk dX10_init_5 rfl (v := 6) (by decide) ?_
  refine n_newa 9 hk (ty := .int) 1 rfl rfl (big_t 84 (by decide +kernel) rfl) (a0 := (6, .inl (fun _ => 0))) (fun _ => rfl) (by decide) (N := 6) (by decide) (by decide) (by omega) (by omega) dX10_init_7 rfl (fun q0 => ?_)
  refine n_cs ?_
  refine n_putF 12 hk hin tyX10 (ci := 10) rfl cu_10 tyX10_ok nmX10 9 (by decide) (big_t 1175 (by decide +kernel) rfl) rfl rfl (tyX10_ok 9 (by decide)) rfl rfl (Nat.le_of_ble_eq_true rfl) dX10_init_9 rfl rfl ?_
  refine n_aload_n 13 hk dX10_init_12 rfl 0 rfl rfl ?_
  refine n_bipush 15 hk dX10_init_13 rfl (v := 48) (by decide) ?_
  refine n_newa 17 hk (ty := .int) 1 rfl rfl (big_t 84 (by decide +kernel) rfl) (a0 := (48, .inl (fun _ => 0))) (fun _ => rfl) (by decide) (N := 48) (by decide) (by decide) (by omega) (by omega) dX10_init_15 rfl (fun q1 => ?_)
  refine n_cs ?_
  refine n_putF 20 hk hin tyX10 (ci := 10) rfl cu_10 tyX10_ok nmX10 10 (by decide) (big_t 1177 (by decide +kernel) rfl) rfl rfl (tyX10_ok 10 (by decide)) rfl rfl (Nat.le_of_ble_eq_true rfl) dX10_init_17 rfl rfl ?_
  refine n_aload_n 21 hk dX10_init_20 rfl 0 rfl rfl ?_
  refine n_bipush 23 hk dX10_init_21 rfl (v := 16) (by decide) ?_
  refine n_newa 25 hk (ty := .int) 1 rfl rfl (big_t 84 (by decide +kernel) rfl) (a0 := (16, .inl (fun _ => 0))) (fun _ => rfl) (by decide) (N := 16) (by decide) (by decide) (by omega) (by omega) dX10_init_23 rfl (fun q2 => ?_)
  refine n_cs ?_
  refine n_putF 28 hk hin tyX10 (ci := 10) rfl cu_10 tyX10_ok nmX10 11 (by decide) (big_t 1179 (by decide +kernel) rfl) rfl rfl (tyX10_ok 11 (by decide)) rfl rfl (Nat.le_of_ble_eq_true rfl) dX10_init_25 rfl rfl ?_
  refine n_aload_n 29 hk dX10_init_28 rfl 0 rfl rfl ?_
  refine n_bipush 31 hk dX10_init_29 rfl (v := 16) (by decide) ?_
  refine n_newa 33 hk (ty := .int) 1 rfl rfl (big_t 84 (by decide +kernel) rfl) (a0 := (16, .inl (fun _ => 0))) (fun _ => rfl) (by decide) (N := 16) (by decide) (by decide) (by omega) (by omega) dX10_init_31 rfl (fun q3 => ?_)
  refine n_cs ?_
  refine n_putF 36 hk hin tyX10 (ci := 10) rfl cu_10 tyX10_ok nmX10 12 (by decide) (big_t 1181 (by decide +kernel) rfl) rfl rfl (tyX10_ok 12 (by decide)) rfl rfl (Nat.le_of_ble_eq_true rfl) dX10_init_33 rfl rfl ?_
  refine n_aload_n 37 hk dX10_init_36 rfl 0 rfl rfl ?_
  refine n_iconst 38 hk dX10_init_37 rfl (v := 4) (by decide) ?_
  refine n_newa 40 hk (ty := .int) 1 rfl rfl (big_t 84 (by decide +kernel) rfl) (a0 := (4, .inl (fun _ => 0))) (fun _ => rfl) (by decide) (N := 4) (by decide) (by decide) (by omega) (by omega) dX10_init_38 rfl (fun q4 => ?_)
  refine n_cs ?_
  refine n_putF 43 hk hin tyX10 (ci := 10) rfl cu_10 tyX10_ok nmX10 13 (by decide) (big_t 1183 (by decide +kernel) rfl) rfl rfl (tyX10_ok 13 (by decide)) rfl rfl (Nat.le_of_ble_eq_true rfl) dX10_init_40 rfl rfl ?_
  refine n_aload_n 44 hk dX10_init_43 rfl 0 rfl rfl ?_
  refine n_iconst 45 hk dX10_init_44 rfl (v := 4) (by decide) ?_
  refine n_newa 47 hk (ty := .int) 1 rfl rfl (big_t 84 (by decide +kernel) rfl) (a0 := (4, .inl (fun _ => 0))) (fun _ => rfl) (by decide) (N := 4) (by decide) (by decide) (by omega) (by omega) dX10_init_45 rfl (fun q5 => ?_)
  refine n_cs ?_
  refine n_putF 50 hk hin tyX10 (ci := 10) rfl cu_10 tyX10_ok nmX10 14 (by decide) (big_t 1185 (by decide +kernel) rfl) rfl rfl (tyX10_ok 14 (by decide)) rfl rfl (Nat.le_of_ble_eq_true rfl) dX10_init_47 rfl rfl ?_
  refine n_aload_n 51 hk dX10_init_50 rfl 0 rfl rfl ?_
  refine n_bipush 53 hk dX10_init_51 rfl (v := 6) (by decide) ?_
  refine n_newa 55 hk (ty := .int) 1 rfl rfl (big_t 84 (by decide +kernel) rfl) (a0 := (6, .inl (fun _ => 0))) (fun _ => rfl) (by decide) (N := 6) (by decide) (by decide) (by omega) (by omega) dX10_init_53 rfl (fun q6 => ?_)
  refine n_cs ?_
  refine n_putF 58 hk hin tyX10 (ci := 10) rfl cu_10 tyX10_ok nmX10 15 (by decide) (big_t 1187 (by decide +kernel) rfl) rfl rfl (tyX10_ok 15 (by decide)) rfl rfl (Nat.le_of_ble_eq_true rfl) dX10_init_55 rfl rfl ?_
  refine n_aload_n 59 hk dX10_init_58 rfl 0 rfl rfl ?_
  refine n_bipush 61 hk dX10_init_59 rfl (v := 6) (by decide) ?_
  refine n_newa 63 hk (ty := .int) 1 rfl rfl (big_t 84 (by decide +kernel) rfl) (a0 := (6, .inl (fun _ => 0))) (fun _ => rfl) (by decide) (N := 6) (by decide) (by decide) (by omega) (by omega) dX10_init_61 rfl (fun q7 => ?_)
  refine n_cs ?_
  refine n_putF 66 hk hin tyX10 (ci := 10) rfl cu_10 tyX10_ok nmX10 16 (by decide) (big_t 1189 (by decide +kernel) rfl) rfl rfl (tyX10_ok 16 (by decide)) rfl rfl (Nat.le_of_ble_eq_true rfl) dX10_init_63 rfl rfl ?_
  refine n_aload_n 67 hk dX10_init_66 rfl 0 rfl rfl ?_
  refine n_bipush 69 hk dX10_init_67 rfl (v := 48) (by decide) ?_
  refine n_newa 71 hk (ty := .boolean) 3 rfl rfl (big_t 1230 (by decide +kernel) rfl) (a0 := (48, .inl (fun _ => 0))) (fun _ => rfl) (by decide) (N := 48) (by decide) (by decide) (by omega) (by omega) dX10_init_69 rfl (fun q8 => ?_)
  refine n_cs ?_
  refine n_putF 74 hk hin tyX10 (ci := 10) rfl cu_10 tyX10_ok nmX10 17 (by decide) (big_t 1191 (by decide +kernel) rfl) rfl rfl (tyX10_ok 17 (by decide)) rfl rfl (Nat.le_of_ble_eq_true rfl) dX10_init_71 rfl rfl ?_
  exact n_vret hk hR ⟨(fun i => [q0, q1, q2, q3, q4, q5, q6, q7, q8].getD i 0), rfl⟩ (by omega) (by omega) dX10_init_74
set_option maxRecDepth 100000 in
set_option maxHeartbeats 4000000 in
theorem nX11_init {l : Launch} {G : Gx} {a : Nat} {z : Bool}   : MN l G yX11_init cX11_init 1 1 12 10 (3158) z [(a, .inr (11, dfl 11))] [.ref a] (fun P => ∃ b : Nat → Nat, P = cl11 G a b) := by
  refine mn_of [(0, .ref a)] (by decide) (Nat.le_of_ble_eq_true rfl) rfl rfl ?_
  intro K hk hR hin hn hl hG
  subst hl; subst hG
  have hk : NH K RX11 cX11_init 1 12 10 (3158) z := hk
  refine n_aload_n 1 hk dX11_init_0 rfl 0 rfl rfl ?_
  refine n_obj 4 hk (big_t 1034 (by decide +kernel) rfl) dX11_init_1 rfl (by omega) (Nat.le_of_ble_eq_true rfl) ?_
  refine n_aload_n 5 hk dX11_init_4 rfl 0 rfl rfl ?_
  refine n_iconst 6 hk dX11_init_5 rfl (v := (-1)) (by decide) ?_
  refine n_put 9 hk tyX11 (ci := 11) rfl cu_11 tyX11_ok nmX11 2 (by decide) (big_t 1037 (by decide +kernel) rfl) rfl (tyX11_ok 2 (by decide)) rfl rfl (Nat.le_of_ble_eq_true rfl) dX11_init_6 rfl rfl ?_
  refine n_aload_n 10 hk dX11_init_9 rfl 0 rfl rfl ?_
  refine n_sipush 13 hk dX11_init_10 rfl (v := 700) (by decide) ?_
  refine n_newa 15 hk (ty := .byte) 2 rfl rfl (big_t 83 (by decide +kernel) rfl) (a0 := (700, .inl (fun _ => 0))) (fun _ => rfl) (by decide) (N := 700) (by decide) (by decide) (by omega) (by omega) dX11_init_13 rfl (fun q0 => ?_)
  refine n_cs ?_
  refine n_putF 18 hk hin tyX11 (ci := 11) rfl cu_11 tyX11_ok nmX11 5 (by decide) (big_t 1040 (by decide +kernel) rfl) rfl rfl (tyX11_ok 5 (by decide)) rfl rfl (Nat.le_of_ble_eq_true rfl) dX11_init_15 rfl rfl ?_
  refine n_aload_n 19 hk dX11_init_18 rfl 0 rfl rfl ?_
  refine n_bipush 21 hk dX11_init_19 rfl (v := 110) (by decide) ?_
  refine n_newa 23 hk (ty := .int) 1 rfl rfl (big_t 84 (by decide +kernel) rfl) (a0 := (110, .inl (fun _ => 0))) (fun _ => rfl) (by decide) (N := 110) (by decide) (by decide) (by omega) (by omega) dX11_init_21 rfl (fun q1 => ?_)
  refine n_cs ?_
  refine n_putF 26 hk hin tyX11 (ci := 11) rfl cu_11 tyX11_ok nmX11 15 (by decide) (big_t 1050 (by decide +kernel) rfl) rfl rfl (tyX11_ok 15 (by decide)) rfl rfl (Nat.le_of_ble_eq_true rfl) dX11_init_23 rfl rfl ?_
  refine n_aload_n 27 hk dX11_init_26 rfl 0 rfl rfl ?_
  refine n_bipush 29 hk dX11_init_27 rfl (v := 110) (by decide) ?_
  refine n_newa 31 hk (ty := .int) 1 rfl rfl (big_t 84 (by decide +kernel) rfl) (a0 := (110, .inl (fun _ => 0))) (fun _ => rfl) (by decide) (N := 110) (by decide) (by decide) (by omega) (by omega) dX11_init_29 rfl (fun q2 => ?_)
  refine n_cs ?_
  refine n_putF 34 hk hin tyX11 (ci := 11) rfl cu_11 tyX11_ok nmX11 16 (by decide) (big_t 1051 (by decide +kernel) rfl) rfl rfl (tyX11_ok 16 (by decide)) rfl rfl (Nat.le_of_ble_eq_true rfl) dX11_init_31 rfl rfl ?_
  refine n_aload_n 35 hk dX11_init_34 rfl 0 rfl rfl ?_
  refine n_sipush 38 hk dX11_init_35 rfl (v := 1760) (by decide) ?_
  refine n_newa 40 hk (ty := .int) 1 rfl rfl (big_t 84 (by decide +kernel) rfl) (a0 := (1760, .inl (fun _ => 0))) (fun _ => rfl) (by decide) (N := 1760) (by decide) (by decide) (by omega) (by omega) dX11_init_38 rfl (fun q3 => ?_)
  refine n_cs ?_
  refine n_putF 43 hk hin tyX11 (ci := 11) rfl cu_11 tyX11_ok nmX11 17 (by decide) (big_t 1052 (by decide +kernel) rfl) rfl rfl (tyX11_ok 17 (by decide)) rfl rfl (Nat.le_of_ble_eq_true rfl) dX11_init_40 rfl rfl ?_
  refine n_aload_n 44 hk dX11_init_43 rfl 0 rfl rfl ?_
  refine n_sipush 47 hk dX11_init_44 rfl (v := 330) (by decide) ?_
  refine n_newa 49 hk (ty := .int) 1 rfl rfl (big_t 84 (by decide +kernel) rfl) (a0 := (330, .inl (fun _ => 0))) (fun _ => rfl) (by decide) (N := 330) (by decide) (by decide) (by omega) (by omega) dX11_init_47 rfl (fun q4 => ?_)
  refine n_cs ?_
  refine n_putF 52 hk hin tyX11 (ci := 11) rfl cu_11 tyX11_ok nmX11 18 (by decide) (big_t 1053 (by decide +kernel) rfl) rfl rfl (tyX11_ok 18 (by decide)) rfl rfl (Nat.le_of_ble_eq_true rfl) dX11_init_49 rfl rfl ?_
  refine n_aload_n 53 hk dX11_init_52 rfl 0 rfl rfl ?_
  refine n_bipush 55 hk dX11_init_53 rfl (v := 24) (by decide) ?_
  refine n_newa 57 hk (ty := .int) 1 rfl rfl (big_t 84 (by decide +kernel) rfl) (a0 := (24, .inl (fun _ => 0))) (fun _ => rfl) (by decide) (N := 24) (by decide) (by decide) (by omega) (by omega) dX11_init_55 rfl (fun q5 => ?_)
  refine n_cs ?_
  refine n_putF 60 hk hin tyX11 (ci := 11) rfl cu_11 tyX11_ok nmX11 21 (by decide) (big_t 1056 (by decide +kernel) rfl) rfl rfl (tyX11_ok 21 (by decide)) rfl rfl (Nat.le_of_ble_eq_true rfl) dX11_init_57 rfl rfl ?_
  refine n_aload_n 61 hk dX11_init_60 rfl 0 rfl rfl ?_
  refine n_bipush 63 hk dX11_init_61 rfl (v := 24) (by decide) ?_
  refine n_newa 65 hk (ty := .int) 1 rfl rfl (big_t 84 (by decide +kernel) rfl) (a0 := (24, .inl (fun _ => 0))) (fun _ => rfl) (by decide) (N := 24) (by decide) (by decide) (by omega) (by omega) dX11_init_63 rfl (fun q6 => ?_)
  refine n_cs ?_
  refine n_putF 68 hk hin tyX11 (ci := 11) rfl cu_11 tyX11_ok nmX11 22 (by decide) (big_t 1057 (by decide +kernel) rfl) rfl rfl (tyX11_ok 22 (by decide)) rfl rfl (Nat.le_of_ble_eq_true rfl) dX11_init_65 rfl rfl ?_
  refine n_aload_n 69 hk dX11_init_68 rfl 0 rfl rfl ?_
  refine n_bipush 71 hk dX11_init_69 rfl (v := 48) (by decide) ?_
  refine n_newa 73 hk (ty := .int) 1 rfl rfl (big_t 84 (by decide +kernel) rfl) (a0 := (48, .inl (fun _ => 0))) (fun _ => rfl) (by decide) (N := 48) (by decide) (by decide) (by omega) (by omega) dX11_init_71 rfl (fun q7 => ?_)
  refine n_cs ?_
  refine n_putF 76 hk hin tyX11 (ci := 11) rfl cu_11 tyX11_ok nmX11 26 (by decide) (big_t 1061 (by decide +kernel) rfl) rfl rfl (tyX11_ok 26 (by decide)) rfl rfl (Nat.le_of_ble_eq_true rfl) dX11_init_73 rfl rfl ?_
  refine n_aload_n 77 hk dX11_init_76 rfl 0 rfl rfl ?_
  refine n_bipush 79 hk dX11_init_77 rfl (v := 48) (by decide) ?_
  refine n_newa 81 hk (ty := .int) 1 rfl rfl (big_t 84 (by decide +kernel) rfl) (a0 := (48, .inl (fun _ => 0))) (fun _ => rfl) (by decide) (N := 48) (by decide) (by decide) (by omega) (by omega) dX11_init_79 rfl (fun q8 => ?_)
  refine n_cs ?_
  refine n_putF 84 hk hin tyX11 (ci := 11) rfl cu_11 tyX11_ok nmX11 27 (by decide) (big_t 1062 (by decide +kernel) rfl) rfl rfl (tyX11_ok 27 (by decide)) rfl rfl (Nat.le_of_ble_eq_true rfl) dX11_init_81 rfl rfl ?_
  refine n_aload_n 85 hk dX11_init_84 rfl 0 rfl rfl ?_
  refine n_iconst 86 hk dX11_init_85 rfl (v := 4) (by decide) ?_
  refine n_newa 88 hk (ty := .int) 1 rfl rfl (big_t 84 (by decide +kernel) rfl) (a0 := (4, .inl (fun _ => 0))) (fun _ => rfl) (by decide) (N := 4) (by decide) (by decide) (by omega) (by omega) dX11_init_86 rfl (fun q9 => ?_)
  refine n_cs ?_
  refine n_putF 91 hk hin tyX11 (ci := 11) rfl cu_11 tyX11_ok nmX11 32 (by decide) (big_t 1067 (by decide +kernel) rfl) rfl rfl (tyX11_ok 32 (by decide)) rfl rfl (Nat.le_of_ble_eq_true rfl) dX11_init_88 rfl rfl ?_
  exact n_vret hk hR ⟨(fun i => [q0, q1, q2, q3, q4, q5, q6, q7, q8, q9].getD i 0), rfl⟩ (by omega) (by omega) dX11_init_91
set_option maxRecDepth 100000 in
set_option maxHeartbeats 4000000 in
theorem nX8_init {l : Launch} {G : Gx} {a : Nat} {z : Bool}   : MN l G yX8_init cX8_init 1 2 35 16 (192) z [(a, .inr (8, dfl 8))] [.ref a] (fun P => ∃ s bs o bp, P = cl8 G a s bs o bp) := by
  refine mn_of [(0, .ref a)] (by decide) (Nat.le_of_ble_eq_true rfl) rfl rfl ?_
  intro K hk hR hin hn hl hG
  subst hl; subst hG
  have hk : NH K RX8 cX8_init 2 35 16 (192) z := hk
  refine n_aload_n 1 hk dX8_init_0 rfl 0 rfl rfl ?_
  refine n_obj 4 hk (big_t 36 (by decide +kernel) rfl) dX8_init_1 rfl (by omega) (Nat.le_of_ble_eq_true rfl) ?_
  refine n_aload_n 5 hk dX8_init_4 rfl 0 rfl rfl ?_
  refine n_new 8 hk tyX5 (ci := 5) rfl cu_5 tyX5_ok (big_t 37 (by decide +kernel) rfl) (big_t 38 (by decide +kernel) rfl) (big_t 3 (by decide +kernel) rfl) df_5 (by omega) (by omega) dX8_init_5 rfl (fun q0 => ?_)
  refine n_dup 9 hk dX8_init_8 rfl ?_
  refine n_call 12 hk (fun h => h) (As := []) (rest := [.ref q0, .ref a]) nX5_init cf_RX8_11 (big_t 40 (by decide +kernel) rfl) rfl dX8_init_9 rfl (by omega) (by omega) (by omega) (by omega) rfl rfl (Nat.le_of_ble_eq_true rfl) (fun P1 hP1 => ?_)
  obtain ⟨b1, rfl⟩ := hP1
  refine n_cs ?_
  refine n_putF 15 hk hin tyX8 (ci := 8) rfl cu_8 tyX8_ok nmX8 0 (by decide) (big_t 108 (by decide +kernel) rfl) rfl rfl (tyX8_ok 0 (by decide)) rfl rfl (Nat.le_of_ble_eq_true rfl) dX8_init_12 rfl rfl ?_
  refine n_aload_n 16 hk dX8_init_15 rfl 0 rfl rfl ?_
  refine n_new 19 hk tyX3 (ci := 3) rfl cu_3 tyX3_ok (big_t 85 (by decide +kernel) rfl) (big_t 86 (by decide +kernel) rfl) (big_t 4 (by decide +kernel) rfl) df_3 (by omega) (by omega) dX8_init_16 rfl (fun q2 => ?_)
  refine n_dup 20 hk dX8_init_19 rfl ?_
  refine n_bipush 22 hk dX8_init_20 rfl (v := 12) (by decide) ?_
  refine n_call 25 hk (fun h => h) (As := [.int 12]) (rest := [.ref q2, .ref a]) (nX3_init (n := 12) (by omega)) cf_RX8_20 (big_t 88 (by decide +kernel) rfl) rfl dX8_init_22 rfl (by omega) (by omega) (by omega) (by omega) rfl rfl (Nat.le_of_ble_eq_true rfl) (fun P3 hP3 => ?_)
  obtain ⟨b3, rfl⟩ := hP3
  refine n_cs ?_
  refine n_putF 28 hk hin tyX8 (ci := 8) rfl cu_8 tyX8_ok nmX8 1 (by decide) (big_t 111 (by decide +kernel) rfl) rfl rfl (tyX8_ok 1 (by decide)) rfl rfl (Nat.le_of_ble_eq_true rfl) dX8_init_25 rfl rfl ?_
  refine n_aload_n 29 hk dX8_init_28 rfl 0 rfl rfl ?_
  refine n_new 32 hk tyX3 (ci := 3) rfl cu_3 tyX3_ok (big_t 85 (by decide +kernel) rfl) (big_t 86 (by decide +kernel) rfl) (big_t 4 (by decide +kernel) rfl) df_3 (by omega) (by omega) dX8_init_29 rfl (fun q4 => ?_)
  refine n_dup 33 hk dX8_init_32 rfl ?_
  refine n_bipush 35 hk dX8_init_33 rfl (v := 16) (by decide) ?_
  refine n_call 38 hk (fun h => h) (As := [.int 16]) (rest := [.ref q4, .ref a]) (nX3_init (n := 16) (by omega)) cf_RX8_20 (big_t 88 (by decide +kernel) rfl) rfl dX8_init_35 rfl (by omega) (by omega) (by omega) (by omega) rfl rfl (Nat.le_of_ble_eq_true rfl) (fun P5 hP5 => ?_)
  obtain ⟨b5, rfl⟩ := hP5
  refine n_cs ?_
  refine n_putF 41 hk hin tyX8 (ci := 8) rfl cu_8 tyX8_ok nmX8 2 (by decide) (big_t 114 (by decide +kernel) rfl) rfl rfl (tyX8_ok 2 (by decide)) rfl rfl (Nat.le_of_ble_eq_true rfl) dX8_init_38 rfl rfl ?_
  refine n_aload_n 42 hk dX8_init_41 rfl 0 rfl rfl ?_
  refine n_new 45 hk tyX3 (ci := 3) rfl cu_3 tyX3_ok (big_t 85 (by decide +kernel) rfl) (big_t 86 (by decide +kernel) rfl) (big_t 4 (by decide +kernel) rfl) df_3 (by omega) (by omega) dX8_init_42 rfl (fun q6 => ?_)
  refine n_dup 46 hk dX8_init_45 rfl ?_
  refine n_iconst 47 hk dX8_init_46 rfl (v := 4) (by decide) ?_
  refine n_call 50 hk (fun h => h) (As := [.int 4]) (rest := [.ref q6, .ref a]) (nX3_init (n := 4) (by omega)) cf_RX8_20 (big_t 88 (by decide +kernel) rfl) rfl dX8_init_47 rfl (by omega) (by omega) (by omega) (by omega) rfl rfl (Nat.le_of_ble_eq_true rfl) (fun P7 hP7 => ?_)
  obtain ⟨b7, rfl⟩ := hP7
  refine n_cs ?_
  refine n_putF 53 hk hin tyX8 (ci := 8) rfl cu_8 tyX8_ok nmX8 3 (by decide) (big_t 117 (by decide +kernel) rfl) rfl rfl (tyX8_ok 3 (by decide)) rfl rfl (Nat.le_of_ble_eq_true rfl) dX8_init_50 rfl rfl ?_
  refine n_aload_n 54 hk dX8_init_53 rfl 0 rfl rfl ?_
  refine n_new 57 hk tyX3 (ci := 3) rfl cu_3 tyX3_ok (big_t 85 (by decide +kernel) rfl) (big_t 86 (by decide +kernel) rfl) (big_t 4 (by decide +kernel) rfl) df_3 (by omega) (by omega) dX8_init_54 rfl (fun q8 => ?_)
  refine n_dup 58 hk dX8_init_57 rfl ?_
  refine n_bipush 60 hk dX8_init_58 rfl (v := 6) (by decide) ?_
  refine n_call 63 hk (fun h => h) (As := [.int 6]) (rest := [.ref q8, .ref a]) (nX3_init (n := 6) (by omega)) cf_RX8_20 (big_t 88 (by decide +kernel) rfl) rfl dX8_init_60 rfl (by omega) (by omega) (by omega) (by omega) rfl rfl (Nat.le_of_ble_eq_true rfl) (fun P9 hP9 => ?_)
  obtain ⟨b9, rfl⟩ := hP9
  refine n_cs ?_
  refine n_putF 66 hk hin tyX8 (ci := 8) rfl cu_8 tyX8_ok nmX8 4 (by decide) (big_t 120 (by decide +kernel) rfl) rfl rfl (tyX8_ok 4 (by decide)) rfl rfl (Nat.le_of_ble_eq_true rfl) dX8_init_63 rfl rfl ?_
  exact n_vret hk hR ⟨q0, b1, (fun i => [q2, q4, q6, q8].getD i 0), (fun i => [b3, b5, b7, b9].getD i b3), rfl⟩ (by omega) (by omega) dX8_init_66
