/-! ===== the Shelf, by hand ===== -/
def shF (G : Gx) (i : Nat) (b : Nat → Nat → Nat) : va_W := (List.range i).flatMap (fun j => cl7 G (b j 0) (fun k => b j (k + 1)))
def shR (i : Nat) (b : Nat → Nat → Nat) : Nat → Option Nat := fun j => if j < i then some (b j 0) else none
def shB (i s : Nat) (b : Nat → Nat → Nat) (b2 : Nat → Nat) : Nat → Nat → Nat := fun j => if j = i then (fun k => match k with
  | 0 => s
  | k + 1 => b2 k) else b j
theorem n_getP {K : VC} {own : String} {cc : ByteArray} {fr lo mc ms : Nat} {z : Bool} {R P : va_W} {cs sl pc : Nat} {L : List (Nat × Value)} {st : List Value} (p : Nat) (h : NH K own cc fr lo mc ms z) {idx ci N a : Nat} {C : String} {T : u_T} (hc : vwCl[ci]? = some (C, T, N)) (hu : ∀ w ∈ u_ws C T N, w ∈ big) (k : Nat) (hk : k < N) (hlk : Cond.fieldLink own idx (T k).1 (T k).2.1 (T k).2.2.1 ∈ big) {v : Value} {fs : List Value} (hv : fs[k]? = some v) (d : decode cc pc = .ok (.getfield idx, 3)) (e : p = pc + 3) (kk : VN K (((a, .inr (ci, fs)) :: R) ++ P) cs sl p L (v :: st)) : VN K (((a, .inr (ci, fs)) :: R) ++ P) cs sl pc L (.ref a :: st) := n_get (R := R ++ P) p h hc hu k hk hlk hv d e kk
theorem shF_len {G : Gx} {b : Nat → Nat → Nat} : ∀ i, (shF G i b).length = 5 * i
  | 0 => rfl
  | i + 1 => by
    unfold shF
    rw [List.range_succ, List.flatMap_append, List.length_append]
    have := shF_len (G := G) (b := b) i
    unfold shF at this
    rw [this]
    show 5 * i + 5 = 5 * (i + 1)
    omega
theorem sh_at {G : Gx} {b : Nat → Nat → Nat} {s : Nat} {b2 : Nat → Nat} (i : Nat) : (shF G i b ++ cl7 G s b2)[5 * i]? = some (s, .inr (7, [.ref (b2 0), .ref (b2 1), .ref (b2 2), .ref (b2 3), .int 0, .int 0, .int 0, .int 0, .int 0, .int 0, .int 0])) := by
  have hl := shF_len (G := G) (b := b) i
  rw [List.getElem?_append_right (Nat.le_of_eq hl), hl, Nat.sub_self]
  rfl
theorem shF_s {G : Gx} {b : Nat → Nat → Nat} {i s : Nat} {b2 : Nat → Nat} : shF G i b ++ cl7 G s b2 = shF G (i + 1) (shB i s b b2) := by
  unfold shF
  rw [List.range_succ, List.flatMap_append]
  have e1 : (List.range i).flatMap (fun j => cl7 G (shB i s b b2 j 0) (fun k => shB i s b b2 j (k + 1))) = (List.range i).flatMap (fun j => cl7 G (b j 0) (fun k => b j (k + 1))) := by
    have : ∀ l : List Nat, (∀ j ∈ l, j < i) → l.flatMap (fun j => cl7 G (shB i s b b2 j 0) (fun k => shB i s b b2 j (k + 1))) = l.flatMap (fun j => cl7 G (b j 0) (fun k => b j (k + 1))) := by
      intro l
      induction l with
      | nil => intro _; rfl
      | cons x l ih =>
        intro h
        have hx : x ≠ i := by have := h x List.mem_cons_self; omega
        have e : shB i s b b2 x = b x := if_neg hx
        rw [List.flatMap_cons, List.flatMap_cons, e, ih (fun j hj => h j (List.mem_cons_of_mem _ hj))]
    exact this _ (fun j hj => List.mem_range.mp hj)
  have e2 : shB i s b b2 i = (fun k => match k with
    | 0 => s
    | k + 1 => b2 k) := if_pos rfl
  rw [e1]
  show _ = _ ++ (cl7 G (shB i s b b2 i 0) (fun k => shB i s b b2 i (k + 1)) ++ [])
  rw [e2, List.append_nil]
theorem shR_s {b : Nat → Nat → Nat} {i s : Nat} {b2 : Nat → Nat} : va_up (shR i b) i (some s) = shR (i + 1) (shB i s b b2) := by
  funext j
  unfold shR
  by_cases c : j = i
  · subst c
    rw [va_up_self, if_pos (Nat.lt_succ_self j)]
    show some s = some (shB j s b b2 j 0)
    unfold shB
    rw [if_pos rfl]
  · rw [va_up_ne _ _ c]
    unfold shB
    rw [if_neg c]
    by_cases y : j < i
    · rw [if_pos y, if_pos (by omega)]
    · rw [if_neg y, if_neg (by omega)]
set_option maxRecDepth 100000 in
set_option maxHeartbeats 4000000 in
theorem nX6_init {l : Launch} {G : Gx} {a n : Nat} (hn0 : n ≤ 16) : MN l G yX6_init cX6_init 3 2 32 (1 + 5 * n) (116 * n) true [(a, .inr (6, dfl 6))] [.ref a, .int (nI n)] (fun P => ∃ r b, P = cl6 G n a r b) := by
  have hng : ¬ nI n < 0 := nI_pos (by omega)
  have hcl : (nI n).toNatClampNeg = n := nI_clamp (by omega)
  have hmx : (if nI n < 0 then 0 else nI n) = nI n := if_neg hng
  refine mn_of [(0, .ref a), (1, .int (nI n))] (by decide) (Nat.le_of_ble_eq_true rfl) rfl rfl ?_
  intro K hk hR hin hn hl hG
  subst hl; subst hG
  have hk : NH K RX6 cX6_init 2 32 (1 + 5 * n) (116 * n) true := hk
  refine n_aload_n 1 hk dX6_init_0 rfl 0 rfl rfl ?_
  refine n_obj 4 hk (big_t 261 (by decide +kernel) rfl) dX6_init_1 rfl (by omega) (Nat.le_of_ble_eq_true rfl) ?_
  refine n_aload_n 5 hk dX6_init_4 rfl 0 rfl rfl ?_
  refine n_iload_n 6 hk dX6_init_5 rfl 1 rfl rfl ?_
  refine n_iconst 7 hk dX6_init_6 rfl (v := 0) (by decide) ?_
  refine n_max 10 hk dX6_init_7 rfl km_RX6_7 (by omega) (Nat.le_of_ble_eq_true rfl) (by omega) (by omega) ?_
  rw [hmx]
  refine n_newq 13 hk rfl (big_t 263 (by decide +kernel) rfl) hng (N := n) hcl (by omega) (by omega) (by omega) dX6_init_10 rfl (fun q => ?_)
  refine n_cs ?_
  refine n_putF 16 hk hin tyX6 (ci := 6) rfl cu_6 tyX6_ok nmX6 0 (by decide) (big_t 266 (by decide +kernel) rfl) rfl rfl (tyX6_ok 0 (by decide)) rfl rfl (Nat.le_of_ble_eq_true rfl) dX6_init_13 rfl rfl ?_
  refine n_iconst 17 hk dX6_init_16 rfl (v := 0) (by decide) ?_
  refine n_istore_n 18 [(2, .int 0), (0, .ref a), (1, .int (nI n))] hk dX6_init_17 rfl rfl hn (by decide) rfl ?_
  have loop : ∀ r i (b : Nat → Nat → Nat), i + r = n → VN K ((a, .inr (6, [.ref q])) :: (q, .inl ((kG K).2.1 4, n, .inr (.inr (.inr (.inr (shR i b)))))) :: shF (kG K) i b) (1 + 5 * i) (n + 115 * i) 18 [(2, .int (nI i)), (0, .ref a), (1, .int (nI n))] [] := by
    intro r
    induction r with
    | zero =>
      intro i b hi
      have e : i = n := by omega
      subst e
      refine n_iload_n 19 hk dX6_init_18 rfl 0 rfl rfl ?_
      refine n_aload_n 20 hk dX6_init_19 rfl 1 rfl rfl ?_
      refine n_get 23 hk (ci := 6) rfl cu_6 0 (by decide) (big_t 266 (by decide +kernel) rfl) rfl dX6_init_20 rfl ?_
      refine n_alen1 24 hk (t := 4) (N := i) (.object "ShingledDisk$State") rfl (v := nI i) rfl dX6_init_23 rfl ?_
      refine n_icmp_ge 46 27 hk dX6_init_24 rfl rfl (fun _ => ?_) (fun c => absurd (Int32.le_refl _) c)
      refine n_cg1 (g := fun j => some (b j 0)) (fun j hj => if_pos hj) ?_
      exact n_vret hk hR ⟨q, b, rfl⟩ (by omega) (by omega) dX6_init_46
    | succ r ih =>
      intro i b hi
      refine n_iload_n 19 hk dX6_init_18 rfl 0 rfl rfl ?_
      refine n_aload_n 20 hk dX6_init_19 rfl 1 rfl rfl ?_
      refine n_get 23 hk (ci := 6) rfl cu_6 0 (by decide) (big_t 266 (by decide +kernel) rfl) rfl dX6_init_20 rfl ?_
      refine n_alen1 24 hk (t := 4) (N := n) (.object "ShingledDisk$State") rfl (v := nI n) rfl dX6_init_23 rfl ?_
      refine n_icmp_ge 46 27 hk dX6_init_24 rfl rfl (fun c => absurd c (nI_ge (by omega) (by omega))) (fun _ => ?_)
      refine n_aload_n 28 hk dX6_init_27 rfl 1 rfl rfl ?_
      refine n_get 31 hk (ci := 6) rfl cu_6 0 (by decide) (big_t 266 (by decide +kernel) rfl) rfl dX6_init_28 rfl ?_
      refine n_iload_n 32 hk dX6_init_31 rfl 0 rfl rfl ?_
      refine n_new 35 hk tyX7 (ci := 7) rfl cu_7 tyX7_ok (big_t 263 (by decide +kernel) rfl) (big_t 189 (by decide +kernel) rfl) (big_t 8 (by decide +kernel) rfl) df_7 (by omega) (by omega) dX6_init_32 rfl (fun s => ?_)
      refine n_dup 36 hk dX6_init_35 rfl ?_
      refine n_call 39 hk (fun h => h) (As := []) (rest := [.ref s, .int (nI i), .ref q]) nX7_init cf_RX6_21 (big_t 191 (by decide +kernel) rfl) rfl dX6_init_36 rfl (by omega) (by omega) (by omega) (by omega) rfl rfl (Nat.le_of_ble_eq_true rfl) (fun P hP => ?_)
      obtain ⟨b2, rfl⟩ := hP
      show VN K ((a, .inr (6, [.ref q])) :: (q, .inl ((kG K).2.1 4, n, .inr (.inr (.inr (.inr (shR i b)))))) :: (shF (kG K) i b ++ cl7 (kG K) s b2)) _ _ _ _ _
      have hcli : (nI i).toNatClampNeg = i := nI_clamp (by omega)
      refine n_astq1 40 hk (k := 5 * i) (g := shR (i + 1) (shB i s b b2)) (vp_in_nI (show i < n by omega) (by omega)) (sh_at i) (by rw [hcli]; exact shR_s (b2 := b2)) dX6_init_39 rfl ?_
      refine n_iinc 43 [(2, .int (nI (i + 1))), (0, .ref a), (1, .int (nI n))] hk (j := 0) dX6_init_40 rfl rfl hn (by decide) (by show nI i + nI 1 = _; exact nI_add _ _) rfl ?_
      refine n_goto 18 hk dX6_init_43 rfl ?_
      rw [shF_s]
      have e1 : 1 + 5 * i + 1 + 4 = 1 + 5 * (i + 1) := by omega
      have e2 : n + 115 * i + 11 + 104 = n + 115 * (i + 1) := by omega
      rw [e1, e2]
      exact ih (i + 1) _ (by omega)
  have h0 := loop n 0 (fun _ _ => 0) (Nat.zero_add _)
  have e0 : shR 0 (fun _ _ => 0) = fun _ => none := funext (fun j => if_neg (Nat.not_lt_zero j))
  have e9 : n + 115 * 0 = 0 + n := by omega
  rw [e0, e9] at h0
  exact h0

set_option maxRecDepth 100000 in
set_option maxHeartbeats 4000000 in
theorem nX2_init {l : Launch} {G : Gx} {a : Nat}    : MN l G yX2_init cX2_init 1 3 54 82 (1857) true [(a, .inr (2, dfl 2))] [.ref a] (fun P => ∃ s r b, P = cl2 G a s r b) := by
  refine mn_of [(0, .ref a)] (by decide) (Nat.le_of_ble_eq_true rfl) rfl rfl ?_
  intro K hk hR hin hn hl hG
  subst hl; subst hG
  have hk : NH K RX2 cX2_init 3 54 82 (1857) true := hk
  refine n_aload_n 1 hk dX2_init_0 rfl 0 rfl rfl ?_
  refine n_obj 4 hk (big_t 255 (by decide +kernel) rfl) dX2_init_1 rfl (by omega) (Nat.le_of_ble_eq_true rfl) ?_
  refine n_aload_n 5 hk dX2_init_4 rfl 0 rfl rfl ?_
  refine n_new 8 hk tyX6 (ci := 6) rfl cu_6 tyX6_ok (big_t 256 (by decide +kernel) rfl) (big_t 257 (by decide +kernel) rfl) (big_t 11 (by decide +kernel) rfl) df_6 (by omega) (by omega) dX2_init_5 rfl (fun q0 => ?_)
  refine n_dup 9 hk dX2_init_8 rfl ?_
  refine n_bipush 11 hk dX2_init_9 rfl (v := 16) (by decide) ?_
  refine n_call 14 hk (fun h => h) (As := [.int 16]) (rest := [.ref q0, .ref a]) (nX6_init (n := 16) (by omega)) cf_RX2_11 (big_t 259 (by decide +kernel) rfl) rfl dX2_init_11 rfl (by omega) (by omega) (by omega) (by omega) rfl rfl (Nat.le_of_ble_eq_true rfl) (fun P1 hP1 => ?_)
  obtain ⟨r1, b1, rfl⟩ := hP1
  refine n_cs ?_
  refine n_putF 17 hk hin tyX2 (ci := 2) rfl cu_2 tyX2_ok nmX2 0 (by decide) (big_t 270 (by decide +kernel) rfl) rfl rfl (tyX2_ok 0 (by decide)) rfl rfl (Nat.le_of_ble_eq_true rfl) dX2_init_14 rfl rfl ?_
  exact n_vret hk hR ⟨q0, r1, b1, rfl⟩ (by omega) (by omega) dX2_init_17
set_option maxRecDepth 100000 in
set_option maxHeartbeats 4000000 in
theorem nX9_init {l : Launch} {G : Gx} {a : Nat}    : MN l G yX9_init cX9_init 1 4 74 153 (3666) true [(a, .inr (9, dfl 9))] [.ref a] (fun P => ∃ tp t0 u0 t1 u1 pa fi bf s0 b0 s1 b1 sh bh dr hi h6 hr bi im ir bm, P = cl9 G a tp t0 u0 t1 u1 pa fi bf s0 b0 s1 b1 sh bh dr hi h6 hr bi im ir bm) := by
  refine mn_of [(0, .ref a)] (by decide) (Nat.le_of_ble_eq_true rfl) rfl rfl ?_
  intro K hk hR hin hn hl hG
  subst hl; subst hG
  have hk : NH K RX9 cX9_init 4 74 153 (3666) true := hk
  refine n_aload_n 1 hk dX9_init_0 rfl 0 rfl rfl ?_
  refine n_obj 4 hk (big_t 28 (by decide +kernel) rfl) dX9_init_1 rfl (by omega) (Nat.le_of_ble_eq_true rfl) ?_
  refine n_aload_n 5 hk dX9_init_4 rfl 0 rfl rfl ?_
  refine n_sipush 8 hk dX9_init_5 rfl (v := 700) (by decide) ?_
  refine n_newa 10 hk (ty := .byte) 2 rfl rfl (big_t 83 (by decide +kernel) rfl) (a0 := (700, .inl (fun _ => 0))) (fun _ => rfl) (by decide) (N := 700) (by decide) (by decide) (by omega) (by omega) dX9_init_8 rfl (fun q0 => ?_)
  refine n_cs ?_
  refine n_putF 13 hk hin tyX9 (ci := 9) rfl cu_9 tyX9_ok nmX9 0 (by decide) (big_t 283 (by decide +kernel) rfl) rfl rfl (tyX9_ok 0 (by decide)) rfl rfl (Nat.le_of_ble_eq_true rfl) dX9_init_10 rfl rfl ?_
  refine n_aload_n 14 hk dX9_init_13 rfl 0 rfl rfl ?_
  refine n_new 17 hk tyX8 (ci := 8) rfl cu_8 tyX8_ok (big_t 31 (by decide +kernel) rfl) (big_t 32 (by decide +kernel) rfl) (big_t 2 (by decide +kernel) rfl) df_8 (by omega) (by omega) dX9_init_14 rfl (fun q1 => ?_)
  refine n_dup 18 hk dX9_init_17 rfl ?_
  refine n_call 21 hk (fun h => h) (As := []) (rest := [.ref q1, .ref a]) nX8_init cf_RX9_15 (big_t 34 (by decide +kernel) rfl) rfl dX9_init_18 rfl (by omega) (by omega) (by omega) (by omega) rfl rfl (Nat.le_of_ble_eq_true rfl) (fun P2 hP2 => ?_)
  obtain ⟨u2, v2, o2, c2, rfl⟩ := hP2
  refine n_cs ?_
  refine n_put 24 hk tyX9 (ci := 9) rfl cu_9 tyX9_ok nmX9 2 (by decide) (big_t 285 (by decide +kernel) rfl) rfl (tyX9_ok 2 (by decide)) rfl rfl (Nat.le_of_ble_eq_true rfl) dX9_init_21 rfl rfl ?_
  refine n_aload_n 25 hk dX9_init_24 rfl 0 rfl rfl ?_
  refine n_new 28 hk tyX8 (ci := 8) rfl cu_8 tyX8_ok (big_t 31 (by decide +kernel) rfl) (big_t 32 (by decide +kernel) rfl) (big_t 2 (by decide +kernel) rfl) df_8 (by omega) (by omega) dX9_init_25 rfl (fun q3 => ?_)
  refine n_dup 29 hk dX9_init_28 rfl ?_
  refine n_call 32 hk (fun h => h) (As := []) (rest := [.ref q3, .ref a]) nX8_init cf_RX9_15 (big_t 34 (by decide +kernel) rfl) rfl dX9_init_29 rfl (by omega) (by omega) (by omega) (by omega) rfl rfl (Nat.le_of_ble_eq_true rfl) (fun P4 hP4 => ?_)
  obtain ⟨u4, v4, o4, c4, rfl⟩ := hP4
  refine n_cs ?_
  refine n_put 35 hk tyX9 (ci := 9) rfl cu_9 tyX9_ok nmX9 3 (by decide) (big_t 286 (by decide +kernel) rfl) rfl (tyX9_ok 3 (by decide)) rfl rfl (Nat.le_of_ble_eq_true rfl) dX9_init_32 rfl rfl ?_
  refine n_aload_n 36 hk dX9_init_35 rfl 0 rfl rfl ?_
  refine n_new 39 hk tyX4 (ci := 4) rfl cu_4 tyX4_ok (big_t 134 (by decide +kernel) rfl) (big_t 135 (by decide +kernel) rfl) (big_t 6 (by decide +kernel) rfl) df_4 (by omega) (by omega) dX9_init_36 rfl (fun q5 => ?_)
  refine n_dup 40 hk dX9_init_39 rfl ?_
  refine n_aload_n 41 hk dX9_init_40 rfl 0 rfl rfl ?_
  refine n_getP 44 hk (ci := 9) rfl cu_9 0 (by decide) (big_t 283 (by decide +kernel) rfl) rfl dX9_init_41 rfl ?_
  refine n_aload_n 45 hk dX9_init_44 rfl 0 rfl rfl ?_
  refine n_getP 48 hk (ci := 9) rfl cu_9 3 (by decide) (big_t 286 (by decide +kernel) rfl) rfl dX9_init_45 rfl ?_
  refine n_call 51 hk (fun h => h) (As := [.ref q0, .ref q3]) (rest := [.ref q5, .ref a]) nX4_init cf_RX9_25 (big_t 137 (by decide +kernel) rfl) rfl dX9_init_48 rfl (by omega) (by omega) (by omega) (by omega) rfl rfl (Nat.le_of_ble_eq_true rfl) (fun P6 hP6 => ?_)
  obtain rfl := hP6
  refine n_cs ?_
  refine n_putF 54 hk hin tyX9 (ci := 9) rfl cu_9 tyX9_ok nmX9 4 (by decide) (big_t 287 (by decide +kernel) rfl) rfl rfl (tyX9_ok 4 (by decide)) rfl rfl (Nat.le_of_ble_eq_true rfl) dX9_init_51 rfl rfl ?_
  refine n_aload_n 55 hk dX9_init_54 rfl 0 rfl rfl ?_
  refine n_new 58 hk tyX1 (ci := 1) rfl cu_1 tyX1_ok (big_t 173 (by decide +kernel) rfl) (big_t 174 (by decide +kernel) rfl) (big_t 7 (by decide +kernel) rfl) df_1 (by omega) (by omega) dX9_init_55 rfl (fun q7 => ?_)
  refine n_dup 59 hk dX9_init_58 rfl ?_
  refine n_call 62 hk (fun h => h) (As := []) (rest := [.ref q7, .ref a]) nX1_init cf_RX9_34 (big_t 176 (by decide +kernel) rfl) rfl dX9_init_59 rfl (by omega) (by omega) (by omega) (by omega) rfl rfl (Nat.le_of_ble_eq_true rfl) (fun P8 hP8 => ?_)
  obtain ⟨b8, rfl⟩ := hP8
  refine n_cs ?_
  refine n_putF 65 hk hin tyX9 (ci := 9) rfl cu_9 tyX9_ok nmX9 5 (by decide) (big_t 288 (by decide +kernel) rfl) rfl rfl (tyX9_ok 5 (by decide)) rfl rfl (Nat.le_of_ble_eq_true rfl) dX9_init_62 rfl rfl ?_
  refine n_aload_n 66 hk dX9_init_65 rfl 0 rfl rfl ?_
  refine n_new 69 hk tyX7 (ci := 7) rfl cu_7 tyX7_ok (big_t 188 (by decide +kernel) rfl) (big_t 189 (by decide +kernel) rfl) (big_t 8 (by decide +kernel) rfl) df_7 (by omega) (by omega) dX9_init_66 rfl (fun q9 => ?_)
  refine n_dup 70 hk dX9_init_69 rfl ?_
  refine n_call 73 hk (fun h => h) (As := []) (rest := [.ref q9, .ref a]) nX7_init cf_RX9_41 (big_t 191 (by decide +kernel) rfl) rfl dX9_init_70 rfl (by omega) (by omega) (by omega) (by omega) rfl rfl (Nat.le_of_ble_eq_true rfl) (fun P10 hP10 => ?_)
  obtain ⟨b10, rfl⟩ := hP10
  refine n_cs ?_
  refine n_putF 76 hk hin tyX9 (ci := 9) rfl cu_9 tyX9_ok nmX9 6 (by decide) (big_t 289 (by decide +kernel) rfl) rfl rfl (tyX9_ok 6 (by decide)) rfl rfl (Nat.le_of_ble_eq_true rfl) dX9_init_73 rfl rfl ?_
  refine n_aload_n 77 hk dX9_init_76 rfl 0 rfl rfl ?_
  refine n_new 80 hk tyX7 (ci := 7) rfl cu_7 tyX7_ok (big_t 188 (by decide +kernel) rfl) (big_t 189 (by decide +kernel) rfl) (big_t 8 (by decide +kernel) rfl) df_7 (by omega) (by omega) dX9_init_77 rfl (fun q11 => ?_)
  refine n_dup 81 hk dX9_init_80 rfl ?_
  refine n_call 84 hk (fun h => h) (As := []) (rest := [.ref q11, .ref a]) nX7_init cf_RX9_41 (big_t 191 (by decide +kernel) rfl) rfl dX9_init_81 rfl (by omega) (by omega) (by omega) (by omega) rfl rfl (Nat.le_of_ble_eq_true rfl) (fun P12 hP12 => ?_)
  obtain ⟨b12, rfl⟩ := hP12
  refine n_cs ?_
  refine n_putF 87 hk hin tyX9 (ci := 9) rfl cu_9 tyX9_ok nmX9 7 (by decide) (big_t 290 (by decide +kernel) rfl) rfl rfl (tyX9_ok 7 (by decide)) rfl rfl (Nat.le_of_ble_eq_true rfl) dX9_init_84 rfl rfl ?_
  refine n_aload_n 88 hk dX9_init_87 rfl 0 rfl rfl ?_
  refine n_new 91 hk tyX5 (ci := 5) rfl cu_5 tyX5_ok (big_t 237 (by decide +kernel) rfl) (big_t 38 (by decide +kernel) rfl) (big_t 3 (by decide +kernel) rfl) df_5 (by omega) (by omega) dX9_init_88 rfl (fun q13 => ?_)
  refine n_dup 92 hk dX9_init_91 rfl ?_
  refine n_call 95 hk (fun h => h) (As := []) (rest := [.ref q13, .ref a]) nX5_init cf_RX9_51 (big_t 40 (by decide +kernel) rfl) rfl dX9_init_92 rfl (by omega) (by omega) (by omega) (by omega) rfl rfl (Nat.le_of_ble_eq_true rfl) (fun P14 hP14 => ?_)
  obtain ⟨b14, rfl⟩ := hP14
  refine n_cs ?_
  refine n_putF 98 hk hin tyX9 (ci := 9) rfl cu_9 tyX9_ok nmX9 8 (by decide) (big_t 291 (by decide +kernel) rfl) rfl rfl (tyX9_ok 8 (by decide)) rfl rfl (Nat.le_of_ble_eq_true rfl) dX9_init_95 rfl rfl ?_
  refine n_aload_n 99 hk dX9_init_98 rfl 0 rfl rfl ?_
  refine n_new 102 hk tyX0 (ci := 0) rfl cu_0 tyX0_ok (big_t 239 (by decide +kernel) rfl) (big_t 240 (by decide +kernel) rfl) (big_t 9 (by decide +kernel) rfl) df_0 (by omega) (by omega) dX9_init_99 rfl (fun q15 => ?_)
  refine n_dup 103 hk dX9_init_102 rfl ?_
  refine n_call 106 hk (fun h => h) (As := []) (rest := [.ref q15, .ref a]) nX0_init cf_RX9_58 (big_t 242 (by decide +kernel) rfl) rfl dX9_init_103 rfl (by omega) (by omega) (by omega) (by omega) rfl rfl (Nat.le_of_ble_eq_true rfl) (fun P16 hP16 => ?_)
  obtain rfl := hP16
  refine n_cs ?_
  refine n_putF 109 hk hin tyX9 (ci := 9) rfl cu_9 tyX9_ok nmX9 9 (by decide) (big_t 292 (by decide +kernel) rfl) rfl rfl (tyX9_ok 9 (by decide)) rfl rfl (Nat.le_of_ble_eq_true rfl) dX9_init_106 rfl rfl ?_
  refine n_aload_n 110 hk dX9_init_109 rfl 0 rfl rfl ?_
  refine n_new 113 hk tyX2 (ci := 2) rfl cu_2 tyX2_ok (big_t 250 (by decide +kernel) rfl) (big_t 251 (by decide +kernel) rfl) (big_t 10 (by decide +kernel) rfl) df_2 (by omega) (by omega) dX9_init_110 rfl (fun q17 => ?_)
  refine n_dup 114 hk dX9_init_113 rfl ?_
  refine n_call 117 hk (fun h => h) (As := []) (rest := [.ref q17, .ref a]) nX2_init cf_RX9_65 (big_t 253 (by decide +kernel) rfl) rfl dX9_init_114 rfl (by omega) (by omega) (by omega) (by omega) rfl rfl (Nat.le_of_ble_eq_true rfl) (fun P18 hP18 => ?_)
  obtain ⟨s18, r18, b18, rfl⟩ := hP18
  refine n_cs ?_
  refine n_putF 120 hk hin tyX9 (ci := 9) rfl cu_9 tyX9_ok nmX9 10 (by decide) (big_t 293 (by decide +kernel) rfl) rfl rfl (tyX9_ok 10 (by decide)) rfl rfl (Nat.le_of_ble_eq_true rfl) dX9_init_117 rfl rfl ?_
  refine n_aload_n 121 hk dX9_init_120 rfl 0 rfl rfl ?_
  refine n_new 124 hk tyX6 (ci := 6) rfl cu_6 tyX6_ok (big_t 281 (by decide +kernel) rfl) (big_t 257 (by decide +kernel) rfl) (big_t 11 (by decide +kernel) rfl) df_6 (by omega) (by omega) dX9_init_121 rfl (fun q19 => ?_)
  refine n_dup 125 hk dX9_init_124 rfl ?_
  refine n_iconst 126 hk dX9_init_125 rfl (v := 3) (by decide) ?_
  refine n_call 129 hk (fun h => h) (As := [.int 3]) (rest := [.ref q19, .ref a]) (nX6_init (n := 3) (by omega)) cf_RX9_72 (big_t 259 (by decide +kernel) rfl) rfl dX9_init_126 rfl (by omega) (by omega) (by omega) (by omega) rfl rfl (Nat.le_of_ble_eq_true rfl) (fun P20 hP20 => ?_)
  obtain ⟨r20, b20, rfl⟩ := hP20
  refine n_cs ?_
  refine n_putF 132 hk hin tyX9 (ci := 9) rfl cu_9 tyX9_ok nmX9 11 (by decide) (big_t 294 (by decide +kernel) rfl) rfl rfl (tyX9_ok 11 (by decide)) rfl rfl (Nat.le_of_ble_eq_true rfl) dX9_init_129 rfl rfl ?_
  exact n_vret hk hR ⟨q0, q1, (u2, v2, o2, c2), q3, (u4, v4, o4, c4), q5, q7, b8, q9, b10, q11, b12, q13, b14, q15, q17, s18, r18, b18, q19, r20, b20, rfl⟩ (by omega) (by omega) dX9_init_132
