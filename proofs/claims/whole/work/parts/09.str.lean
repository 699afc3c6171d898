/-! ===== the texts' own words: String.length, String.charAt ===== -/
section RS
variable {K : VC} {own : String} {cc : ByteArray} {fr lo : Nat} {al : Al} {w : Wd} {pc : Nat} {L : List (Nat × Value)} {st : List Value}
theorem wd_392 : Cond.fieldLink RJ0 38 "java/lang/String" "COMPACT_STRINGS" "Z" ∈ big := big_t 392 (by decide +kernel) rfl
theorem wd_408 : Cond.fieldLink RJ0 1053 "jdk/internal/util/Preconditions" "SIOOBE_FORMATTER" "Ljava/util/function/BiFunction;" ∈ big := big_t 408 (by decide +kernel) rfl
theorem wd_1778 : Cond.fieldLink RJ0 9 "java/lang/String" "value" "[B" ∈ big := big_t 1778 (by decide +kernel) rfl
theorem wd_1779 : Cond.fieldLink RJ0 15 "java/lang/String" "coder" "B" ∈ big := big_t 1779 (by decide +kernel) rfl
theorem r_gsC (p : Nat) (h : VH K RJ0 cc fr lo) (d : decode cc pc = .ok (.getstatic 38, 3)) (e : p = pc + 3) (kk : V K al w p L (.int 1 :: st)) : V K al w pc L st := fun H lc ls hP hD hS hl => by
  subst e
  exact va_gets h.x h.b h.sk.2.2.2.1.1 hS h.own (h.ts _ wd_392) (fun _ z => z) d (kk H lc ls hP hD hS hl)
theorem r_gsF (p : Nat) (h : VH K RJ0 cc fr lo) (d : decode cc pc = .ok (.getstatic 1053, 3)) (e : p = pc + 3) (kk : ∀ v : Value, (v = .null ∨ ∃ t, v = .ref t) → V K al w p L (v :: st)) : V K al w pc L st := fun H lc ls hP hD hS hl => by
  subst e
  rcases h.sk.2.2.2.1.2 with z | ⟨t, z⟩
  · exact va_gets h.x h.b z hS h.own (h.ts _ wd_408) (fun _ z => z) d (kk .null (Or.inl rfl) H lc ls hP hD hS hl)
  · exact va_gets h.x h.b z hS h.own (h.ts _ wd_408) (fun _ z => z) d (kk (.ref t) (Or.inr ⟨t, rfl⟩) H lc ls hP hD hS hl)
theorem r_sval (p : Nat) (h : VH K RJ0 cc fr lo) {i : Nat} (hi : i < 10) (d : decode cc pc = .ok (.getfield 9, 3)) (e : p = pc + 3) (kk : V K al w p L (.ref ((kG K).2.2.2.1 i) :: st)) : V K al w pc L (.ref ((kG K).2.2.1 i) :: st) := fun H lc ls hP hD hS hl => by
  subst e
  exact vk_getf h.x h.b (h.sk.1.1 i hi).2.2.1 hS h.own (h.ts _ wd_1778) (fun _ z => z) d (kk H lc ls hP hD hS hl)
theorem r_scod (p : Nat) (h : VH K RJ0 cc fr lo) {i : Nat} (hi : i < 10) (d : decode cc pc = .ok (.getfield 15, 3)) (e : p = pc + 3) (kk : V K al w p L (.int 0 :: st)) : V K al w pc L (.ref ((kG K).2.2.1 i) :: st) := fun H lc ls hP hD hS hl => by
  subst e
  exact vk_getf h.x h.b (h.sk.1.1 i hi).2.1 hS h.own (h.ts _ wd_1779) (fun _ z => z) d (kk H lc ls hP hD hS hl)
theorem r_svl (p : Nat) (h : VH K own cc fr lo) {i : Nat} (hi : i < 10) (d : decode cc pc = .ok (.arraylength, 1)) (e : p = pc + 1) (kk : V K al w p L (.int (nI (slen.getD i 0)) :: st)) : V K al w pc L (.ref ((kG K).2.2.2.1 i) :: st) := fun H lc ls hP hD hS hl => by
  subst e
  exact va_tlen h.x h.b (h.sk.1.1 i hi).2.2.2 hS rfl d (kk H lc ls hP hD hS hl)
theorem r_svb (p : Nat) (h : VH K own cc fr lo) {i : Nat} {x : Int32} (hi : i < 10) (hx : inb x (slen.getD i 0) = true) (d : decode cc pc = .ok (.baload, 1)) (e : p = pc + 1) (kk : V K al w p L (.int ((sbyt.getD i []).getD x.toNatClampNeg 0) :: st)) : V K al w pc L (.int x :: .ref ((kG K).2.2.2.1 i) :: st) := fun H lc ls hP hD hS hl => by
  subst e
  exact va_tb h.x h.b (h.sk.1.1 i hi).2.2.2 hS (inb_in hx) rfl d (kk H lc ls hP hD hS hl)
theorem r_i2c (p : Nat) (h : VH K own cc fr lo) {x v : Int32} (d : decode cc pc = .ok (.i2c, 1)) (e : p = pc + 1) (hv : (x.toUInt32 % 65536).toInt32 = v) (kk : V K al w p L (.int v :: st)) : V K al w pc L (.int x :: st) := fun H lc ls hP hD hS hl => by
  subst e
  exact lv_i2c h.x h.b d hv (kk H lc ls hP hD hS hl)
theorem r_nret (h : VH K own cc fr lo) {ty : FieldType} {w2 : Wd} {v : Int32} (hR : VR K al (some ty) (some (.int v)) w2) (d : decode cc pc = .ok (.ireturn, 1)) (hb : narrow ty (.int v) = .int v) (hv : w = w2) : V K al w pc L [.int v] := fun H lc ls hP hD hS hl => by
  cases hv
  show W _ _ _ _ _ _ _ _ _ _ _ _ _ _ (kQ K) _
  rw [hR.2]
  exact W.zret h.x h.b hR.1 hb (vr_end hR hP hD hS) hS.2.2 d h.lk
/-- a call on a word of the texts -/
theorem r_callK (p : Nat) (h : VH K own cc fr lo) {idx n nl fr2 lo2 i : Nat} {y : MethodName} {cc2 : ByteArray} {ret : Option FieldType} {As rest : List Value} {r : Option Value} {w2 : Wd} (hM : MC (kl K) (kG K) y cc2 nl ret fr2 lo2 al w (.ref ((kG K).2.2.1 i) :: As) r w2) (hc : CF own idx y cc2 nl ret n) (hi : Cond.instanceMethod y ∈ big ∧ Cond.selects y.cls y y ∈ big) (hC : y.cls = "java/lang/String") (h10 : i < 10) (d : decode cc pc = .ok (.invokevirtual idx, 3)) (e : p = pc + 3) (hf : fr2 + 1 ≤ fr) (ho : 8 + (nl + 11) + lo2 ≤ lo) (hn : As.length = n) (hst : st = As.reverse ++ .ref ((kG K).2.2.1 i) :: rest) (hr : (rest.map fun v => v.category).sum ≤ 8) (kk : V K al w2 p L (r.toList ++ rest)) : V K al w pc L st := fun H lc ls hP hD hS hl => by
  subst e
  obtain ⟨⟨hcd, hin⟩, hd, hlk⟩ := hc
  have hrecv := vk_recv h.sk.1 h10 hS
  rw [← hC] at hrecv
  have hG : GoodIn big (.code y cc2 nl ret :: big) := big_in (big_cons hcd)
  have hcells : kC K + 0 ≤ (kR K).cells ∧ kT K + 0 ≤ (kR K).slots := ⟨h.ce, h.sl⟩
  have hroom : (rmC fr2 lo2).frames + 1 ≤ (kR K).frames ∧ 8 + (nl + 11) + (rmC fr2 lo2).locals ≤ (kR K).locals := ⟨by rw [h.fr]; exact hf, by rw [h.lo]; exact ho⟩
  rcases hlk with hlk | ⟨host, hlk⟩
  · exact vc_back h hP hD hS hl (va_runV (Ts := big) (As := As) (rest := rest) ⟨h.x, h.b, h.ml, h.own, h.ts⟩ (hM H.size) ⟨callB_of n h.ts hG rfl rfl rfl (h.ts _ hin) (h.ts _ hlk) hd hroom, h.ts _ hi.1, h.ts _ hi.2⟩ ⟨vc_blind, hrecv, vc_pre h hP hD hS⟩ rfl hn hl.1 hst (lv_room hr) d hcells) kk
  · exact vc_back h hP hD hS hl (va_runVN (Ts := big) (As := As) (rest := rest) ⟨h.x, h.b, h.ml, h.own, h.ts⟩ (hM H.size) ⟨va_cnB n h.ts hG rfl rfl rfl (h.sk.2.2.2.2 _ hlk) (h.ts _ hin) hd hroom, h.ts _ hi.1, h.ts _ hi.2⟩ ⟨vc_blind, hrecv, vc_pre h hP hD hS⟩ rfl hn hl.1 hst (lv_room hr) d hcells) kk
theorem kJ0_coder {l : Launch} {G : Gx} {al : Al} {w : Wd} {i : Nat} (hi : i < 10) : MC l G yJ0_coder_7d493 cJ0_coder_7d493 1 (some .byte) 0 0 al w [.ref (G.2.2.1 i)] (some (.int 0)) w := by
  refine mc_of [(0, .ref (G.2.2.1 i))] (by decide) (Nat.le_of_ble_eq_true rfl) rfl ?_
  intro K hk hR hn hl hG
  subst hl; subst hG
  have hk : VH K RJ0 cJ0_coder_7d493 0 0 := hk
  refine r_gsC 3 hk dJ0_coder_7d493_0 rfl ?_
  refine r_if_eq 13 6 hk dJ0_coder_7d493_3 rfl rfl (fun c => absurd c (by decide)) (fun _ => ?_)
  refine r_aload_n 7 hk dJ0_coder_7d493_6 rfl 0 rfl rfl ?_
  refine r_scod 10 hk hi dJ0_coder_7d493_7 rfl ?_
  refine r_goto (x := 0) 14 hk dJ0_coder_7d493_10 rfl ?_
  exact r_nret hk hR dJ0_coder_7d493_14 rfl rfl
theorem kJ0_isLatin1 {l : Launch} {G : Gx} {al : Al} {w : Wd} {i : Nat} (hi : i < 10) : MC l G yJ0_isLatin1_aae02 cJ0_isLatin1_aae02 1 (some .boolean) 0 0 al w [.ref (G.2.2.1 i)] (some (.int 1)) w := by
  refine mc_of [(0, .ref (G.2.2.1 i))] (by decide) (Nat.le_of_ble_eq_true rfl) rfl ?_
  intro K hk hR hn hl hG
  subst hl; subst hG
  have hk : VH K RJ0 cJ0_isLatin1_aae02 0 0 := hk
  refine r_gsC 3 hk dJ0_isLatin1_aae02_0 rfl ?_
  refine r_if_eq 17 6 hk dJ0_isLatin1_aae02_3 rfl rfl (fun c => absurd c (by decide)) (fun _ => ?_)
  refine r_aload_n 7 hk dJ0_isLatin1_aae02_6 rfl 0 rfl rfl ?_
  refine r_scod 10 hk hi dJ0_isLatin1_aae02_7 rfl ?_
  refine r_if_ne 17 13 hk dJ0_isLatin1_aae02_10 rfl rfl (fun c => absurd rfl c) (fun _ => ?_)
  refine r_iconst 14 hk dJ0_isLatin1_aae02_13 rfl (v := 1) (by decide) ?_
  refine r_goto (x := 0) 18 hk dJ0_isLatin1_aae02_14 rfl ?_
  exact r_nret hk hR dJ0_isLatin1_aae02_18 rfl rfl
theorem shr_0 (x : Int32) : x >>> ((0 : Int32) &&& 31) = x := by
  have e : (0 : Int32) &&& 31 = 0 := by decide
  rw [e]
  exact Int32.shiftRight_zero
theorem kJ0_length {l : Launch} {G : Gx} {al : Al} {w : Wd} {i : Nat} (hi : i < 10) : MC l G yJ0_length_8abf5 cJ0_length_8abf5 1 (some .int) 1 20 al w [.ref (G.2.2.1 i)] (some (.int (nI (slen.getD i 0)))) w := by
  refine mc_of [(0, .ref (G.2.2.1 i))] (by decide) (Nat.le_of_ble_eq_true rfl) rfl ?_
  intro K hk hR hn hl hG
  subst hl; subst hG
  have hk : VH K RJ0 cJ0_length_8abf5 1 20 := hk
  refine r_aload_n 1 hk dJ0_length_8abf5_0 rfl 0 rfl rfl ?_
  refine r_sval 4 hk hi dJ0_length_8abf5_1 rfl ?_
  refine r_svl 5 hk hi dJ0_length_8abf5_4 rfl ?_
  refine r_aload_n 6 hk dJ0_length_8abf5_5 rfl 0 rfl rfl ?_
  refine r_callK 9 hk (kJ0_coder hi) cf_RJ0_335 mi_J0_coder_7d493 rfl hi dJ0_length_8abf5_6 rfl (Nat.le_of_ble_eq_true rfl) (Nat.le_of_ble_eq_true rfl) (As := []) (rest := [.int (nI (slen.getD i 0))]) rfl rfl (Nat.le_of_ble_eq_true rfl) ?_
  refine r_ishr 10 hk dJ0_length_8abf5_9 rfl ?_
  rw [shr_0]
  exact r_iret hk hR dJ0_length_8abf5_10 rfl
theorem kJ3_checkIndex {l : Launch} {G : Gx} {al : Al} {w : Wd} {x y : Int32} {v : Value} (hv : v = .null ∨ ∃ t, v = .ref t) (h0 : ¬ x < 0) (h1 : x < y) : MC l G yJ3_checkIndex_8e157 cJ3_checkIndex_8e157 3 (some .int) 0 0 al w [.int x, .int y, v] (some (.int x)) w := by
  have hL : lv_args 0 [.int x, .int y, v] = [(0, .int x), (1, .int y), (2, v)] := by
    rcases hv with rfl | ⟨t, rfl⟩ <;> rfl
  refine mc_of [(0, .int x), (1, .int y), (2, v)] (by decide) (by rcases hv with rfl | ⟨t, rfl⟩ <;> exact Nat.le_of_ble_eq_true rfl) hL ?_
  intro K hk hR hn hl hG
  subst hl; subst hG
  have hk : VH K RJ3 cJ3_checkIndex_8e157 0 0 := hk
  refine r_iload_n 1 hk dJ3_checkIndex_8e157_0 rfl 0 rfl rfl ?_
  refine r_if_lt 9 4 hk dJ3_checkIndex_8e157_1 rfl rfl (fun c => absurd c h0) (fun _ => ?_)
  refine r_iload_n 5 hk dJ3_checkIndex_8e157_4 rfl 0 rfl rfl ?_
  refine r_iload_n 6 hk dJ3_checkIndex_8e157_5 rfl 1 rfl rfl ?_
  refine r_icmp_lt 16 9 hk dJ3_checkIndex_8e157_6 rfl rfl (fun _ => ?_) (fun c => absurd h1 c)
  refine r_iload_n 17 hk dJ3_checkIndex_8e157_16 rfl 0 rfl rfl ?_
  exact r_iret hk hR dJ3_checkIndex_8e157_17 rfl
theorem ms_J3_checkIndex : Cond.static yJ3_checkIndex_8e157 ∈ big := big_t 411 (by decide +kernel) rfl
theorem kJ0_checkIndex {l : Launch} {G : Gx} {al : Al} {w : Wd} {x y : Int32} (h0 : ¬ x < 0) (h1 : x < y) : MC l G yJ0_checkIndex_df160 cJ0_checkIndex_df160 2 none 1 22 al w [.int x, .int y] none w := by
  refine mc_of [(0, .int x), (1, .int y)] (by decide) (Nat.le_of_ble_eq_true rfl) rfl ?_
  intro K hk hR hn hl hG
  subst hl; subst hG
  have hk : VH K RJ0 cJ0_checkIndex_df160 1 22 := hk
  refine r_iload_n 1 hk dJ0_checkIndex_df160_0 rfl 0 rfl rfl ?_
  refine r_iload_n 2 hk dJ0_checkIndex_df160_1 rfl 1 rfl rfl ?_
  refine r_gsF 5 hk dJ0_checkIndex_df160_2 rfl (fun v hv => ?_)
  refine r_callS 8 hk (kJ3_checkIndex hv h0 h1) cf_RJ0_1059 ms_J3_checkIndex dJ0_checkIndex_df160_5 rfl (Nat.le_of_ble_eq_true rfl) (Nat.le_of_ble_eq_true rfl) (As := [.int x, .int y, v]) (rest := []) rfl rfl (Nat.le_of_ble_eq_true rfl) ?_
  refine r_pop 9 hk dJ0_checkIndex_df160_8 rfl rfl ?_
  exact r_vret hk hR dJ0_checkIndex_df160_9 rfl
theorem sb_char {i k : Nat} (hi : i < 10) (hk : k < slen.getD i 0) : ((((sbyt.getD i []).getD k 0) &&& 255).toUInt32 % 65536).toInt32 = (sbyt.getD i []).getD k 0 ∧ narrow .char (.int ((sbyt.getD i []).getD k 0)) = .int ((sbyt.getD i []).getD k 0) := by
  have : ∀ i, i < 10 → ∀ k, k < slen.getD i 0 → ((((sbyt.getD i []).getD k 0) &&& 255).toUInt32 % 65536).toInt32 = (sbyt.getD i []).getD k 0 ∧ narrow .char (.int ((sbyt.getD i []).getD k 0)) = .int ((sbyt.getD i []).getD k 0) := by decide +kernel
  exact this i hi k hk
theorem in_nat {x : Int32} {n : Nat} (hx : inb x n = true) : x.toNatClampNeg < n ∧ ¬ x < 0 := by
  have h := of_decide_eq_true hx
  refine ⟨?_, fun z => ?_⟩
  · show x.toInt.toNat < n
    omega
  · have := Int32.lt_iff_toInt_lt.mp z
    have e : (0 : Int32).toInt = 0 := by decide
    omega
theorem sl_lt {i : Nat} (hi : i < 10) {x : Int32} (hx : inb x (slen.getD i 0) = true) : x < nI (slen.getD i 0) := by
  have h := of_decide_eq_true hx
  have hs : ∀ i, i < 10 → (nI (slen.getD i 0)).toInt = (slen.getD i 0 : Int) := by decide +kernel
  rw [Int32.lt_iff_toInt_lt, hs i hi]
  omega
theorem kJ1_charAt {l : Launch} {G : Gx} {al : Al} {w : Wd} {i : Nat} {x : Int32} (hi : i < 10) (hx : inb x (slen.getD i 0) = true) : MC l G yJ1_charAt_3b067 cJ1_charAt_3b067 2 (some .char) 2 43 al w [.ref (G.2.2.2.1 i), .int x] (some (.int ((sbyt.getD i []).getD x.toNatClampNeg 0))) w := by
  refine mc_of [(0, .ref (G.2.2.2.1 i)), (1, .int x)] (by decide) (Nat.le_of_ble_eq_true rfl) rfl ?_
  intro K hk hR hn hl hG
  subst hl; subst hG
  have hk : VH K RJ1 cJ1_charAt_3b067 2 43 := hk
  obtain ⟨h1, h2⟩ := in_nat hx
  obtain ⟨h3, h4⟩ := sb_char hi h1
  refine r_iload_n 1 hk dJ1_charAt_3b067_0 rfl 1 rfl rfl ?_
  refine r_aload_n 2 hk dJ1_charAt_3b067_1 rfl 0 rfl rfl ?_
  refine r_svl 3 hk hi dJ1_charAt_3b067_2 rfl ?_
  refine r_callS 6 hk (kJ0_checkIndex h2 (sl_lt hi hx)) cf_RJ1_9 ms_J0_checkIndex_df160 dJ1_charAt_3b067_3 rfl (Nat.le_of_ble_eq_true rfl) (Nat.le_of_ble_eq_true rfl) (As := [.int x, .int (nI (slen.getD i 0))]) (rest := []) rfl rfl (Nat.le_of_ble_eq_true rfl) ?_
  refine r_aload_n 7 hk dJ1_charAt_3b067_6 rfl 0 rfl rfl ?_
  refine r_iload_n 8 hk dJ1_charAt_3b067_7 rfl 1 rfl rfl ?_
  refine r_svb 9 hk hi hx dJ1_charAt_3b067_8 rfl ?_
  refine r_sipush 12 hk dJ1_charAt_3b067_9 rfl (v := 255) (by decide) ?_
  refine r_iand 13 hk dJ1_charAt_3b067_12 rfl ?_
  refine r_i2c 14 hk dJ1_charAt_3b067_13 rfl h3 ?_
  exact r_nret hk hR dJ1_charAt_3b067_14 h4 rfl
theorem kJ0_charAt {l : Launch} {G : Gx} {al : Al} {w : Wd} {i : Nat} {x : Int32} (hi : i < 10) (hx : inb x (slen.getD i 0) = true) : MC l G yJ0_charAt_5068e cJ0_charAt_5068e 2 (some .char) 3 64 al w [.ref (G.2.2.1 i), .int x] (some (.int ((sbyt.getD i []).getD x.toNatClampNeg 0))) w := by
  refine mc_of [(0, .ref (G.2.2.1 i)), (1, .int x)] (by decide) (Nat.le_of_ble_eq_true rfl) rfl ?_
  intro K hk hR hn hl hG
  subst hl; subst hG
  have hk : VH K RJ0 cJ0_charAt_5068e 3 64 := hk
  obtain ⟨h1, h2⟩ := in_nat hx
  obtain ⟨h3, h4⟩ := sb_char hi h1
  refine r_aload_n 1 hk dJ0_charAt_5068e_0 rfl 0 rfl rfl ?_
  refine r_callK 4 hk (kJ0_isLatin1 hi) cf_RJ0_492 mi_J0_isLatin1_aae02 rfl hi dJ0_charAt_5068e_1 rfl (Nat.le_of_ble_eq_true rfl) (Nat.le_of_ble_eq_true rfl) (As := []) (rest := []) rfl rfl (Nat.le_of_ble_eq_true rfl) ?_
  refine r_if_eq 16 7 hk dJ0_charAt_5068e_4 rfl rfl (fun c => absurd c (by decide)) (fun _ => ?_)
  refine r_aload_n 8 hk dJ0_charAt_5068e_7 rfl 0 rfl rfl ?_
  refine r_sval 11 hk hi dJ0_charAt_5068e_8 rfl ?_
  refine r_iload_n 12 hk dJ0_charAt_5068e_11 rfl 1 rfl rfl ?_
  refine r_callS 15 hk (kJ1_charAt hi hx) cf_RJ0_495 ms_J1_charAt_3b067 dJ0_charAt_5068e_12 rfl (Nat.le_of_ble_eq_true rfl) (Nat.le_of_ble_eq_true rfl) (As := [.ref ((kG K).2.2.2.1 i), .int x]) (rest := []) rfl rfl (Nat.le_of_ble_eq_true rfl) ?_
  exact r_nret hk hR dJ0_charAt_5068e_15 h4 rfl
theorem r_slen (p : Nat) (h : VH K own cc fr lo) {idx i : Nat} (d : decode cc pc = .ok (.invokevirtual idx, 3)) (e : p = pc + 3) (hi : i < 10) (hc : CF own idx yJ0_length_8abf5 cJ0_length_8abf5 1 (some .int) 0) (hf : 3 ≤ fr) (ho : 80 ≤ lo) (hr : (st.map fun v => v.category).sum ≤ 8) (kk : V K al w p L (.int (nI (slen.getD i 0)) :: st)) : V K al w pc L (.ref ((kG K).2.2.1 i) :: st) :=
  r_callK p h (kJ0_length hi) hc mi_J0_length_8abf5 rfl hi d e (by omega) (by omega) (As := []) (rest := st) rfl rfl hr kk
theorem r_schar (p : Nat) (h : VH K own cc fr lo) {idx i : Nat} {x : Int32} (d : decode cc pc = .ok (.invokevirtual idx, 3)) (e : p = pc + 3) (hi : i < 10) (hc : CF own idx yJ0_charAt_5068e cJ0_charAt_5068e 2 (some .char) 1) (hx : inb x (slen.getD i 0) = true) (hf : 4 ≤ fr) (ho : 100 ≤ lo) (hr : (st.map fun v => v.category).sum ≤ 8) (kk : V K al w p L (.int ((sbyt.getD i []).getD x.toNatClampNeg 0) :: st)) : V K al w pc L (.int x :: .ref ((kG K).2.2.1 i) :: st) :=
  r_callK p h (kJ0_charAt hi hx) hc mi_J0_charAt_5068e rfl hi d e (by omega) (by omega) (As := [.int x]) (rest := st) rfl rfl hr kk
end RS
