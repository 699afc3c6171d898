/-! THE CLAIM OUT OF ONE WALK OF THE LAW'S BODY. Your part is whole_start (and what it stands on); all else here is the same for every law, but numbers. -/
def R_law : String := "ShingledDiskLaw"
def lw_P (b : Addr) (xs : List Int32) (args : Array Value) (s : State) : Prop := args = #[.ref b] ∧ s.IntsAt b xs ∧ xs.length ≤ 3072 ∧ (Jvm.Cond.and given_1 narrow_1).before args s = true
def lw_Q (_ : Array Value) (s : State) (o : Outcome) (t : State) : Prop := o = .returned (some (.int 1)) ∧ Framed s o t [] 601024 7293034
def lw_Z (below : List Frame) (a : Array Value) (s : State) : State → Prop := fun t => ∃ o, t.status = .running ∧ Ended t below o ∧ lw_Q a s o t
/-- the law's own end, with 1 on the stack, nothing written that was there before, its room as the claim has it -/
theorem lw_ret {p : Program} {l : Launch} {e : Env} {s : State} {m : MethodId} {below : List Frame} {meth : Method} {c : Code} {b : Nat} (hx : p.tables.exec = Jvm.exec) (hb : c.code = code) (hr : meth.sig.returnType = ret) (hlocks : meth.locks = false) {pc : Nat} {H : Heap} {ls : Array Slot} (hdg : decode code pc = .ok (.ireturn, 1)) : W p l e room_1 s m #[Value.ref b] below meth c H [] 601024 7293034 (lw_Z below #[Value.ref b] s) (F0 m pc ls [.int 1]) := by
  intro T hT X
  obtain ⟨fs, hret, hrun, hended, hW, hframe⟩ := X.leave (v := some (.int 1)) (hlocks := hlocks) (fun h => by rw [hr] at h; cases h)
  have hmeth' : T.vm.method? m = some meth := X.method'
  refine ⟨T.setFrames fs, ?_, .returned (some (.int 1)), hrun, hended, rfl, ⟨_, rfl⟩, hW, hframe⟩
  jvm_step X.here [X.here.top, hx, hb, hdg, hmeth', hr, ret, narrow_b1]
  (try refine ⟨rfl, ?_⟩); (try refine ⟨rfl, ?_⟩)
  first | (intro acts; rw [hret _ acts rfl rfl rfl]) | rw [hret _ _ rfl rfl rfl]
  exact Steps.refl _
/-- what holds at the law's entry: the machine, the code, the tables' words (any of lw_tbl by 'hts w (by decide +kernel)'), the script of L ints xs at the cell b, what the Statement gives of the start (any of its parts by flat_of_before) -/
def lw_At (p : Program) (s : State) (m : MethodId) (meth : Method) (c : Code) (b L : Nat) (xs : Nat → Int32) : Prop :=
  p.tables.exec = Jvm.exec ∧ c.code = code ∧ meth.sig.returnType = ret ∧ c.maxLocals = 7 ∧ s.vm.findClass R_law = some m.cls ∧ (∀ w ∈ lw_tbl, w.before #[Value.ref b] s = true) ∧ va_X b L xs s s.heap ∧ b < s.heap.size ∧ meth.locks = false ∧ (Jvm.Cond.and given_1 narrow_1).before #[Value.ref b] s = true
/-! ===== the law's walk ===== -/
theorem ws_u {G : Gx} {n : Nat → Nat} {al : Al} {w : Wd} : wsW (gU G n) al w = (keys n).map (cellK G al w) := rfl
theorem nx0 {G : Gx} : NX (gU G n0) := ⟨rfl, rfl, rfl, rfl, rfl, rfl, rfl, rfl, rfl, rfl, rfl⟩
set_option maxRecDepth 100000 in
set_option maxHeartbeats 4000000 in
theorem whole_start {p : Program} {e : Env} {s : State} {m : MethodId} {below : List Frame} {meth : Method} {c : Code} (l : Launch) (hfl : l.stackTraces = false) {b L : Nat} {xs : Nat → Int32} (hL : L ≤ 3072) (C0 : lw_At p s m meth c b L xs) : W p l e room_1 s m #[Value.ref b] below meth c s.heap [] 0 0 (lw_Z below #[Value.ref b] s) (entryFrame m ([Value.ref b] : List Value).toArray 7) := by
  obtain ⟨hx, hb, hret, hml, hown, hts, hX, hbl, hlk, hgv⟩ := C0
  have hA : ∀ a : Nat, a < s.heap.size → ¬ (s.heap.size ≤ a) := fun a h1 h2 => absurd h1 (by omega)
  obtain ⟨D, ids, hK⟩ := st_G hts
  obtain ⟨adK, adV, hSK⟩ := st_SK (A := fun q => s.heap.size ≤ q) hts hgv hA
  have hXP := st_XP (A := fun q => s.heap.size ≤ q) hts hgv hA
  have hbig := tb_big hts
  generalize hKe : (((p, l, e, room_1, s, m, #[Value.ref b], below, meth, c), lw_Z below #[Value.ref b] s, (fun q => s.heap.size ≤ q), 7, 0, 0, (D, ids, adK, adV, n0)) : VC) = K
  have hk : NH K RL cL_law 15 560 601024 7293034 true := by
    rw [← hKe]
    exact ⟨hx, hb, hml, hown, hbig, hK adK adV n0, fun q hq => hq, hlk, rfl, rfl, rfl, rfl, st_nst hts, fun _ => va_AO.of (tb_t hts (w := Cond.arrayOver (.object "ShingledDisk$State")) 264 (by decide +kernel))⟩
  have hv : VH K RL cL_law 15 560 := by
    rw [← hKe]
    exact ⟨hx, hb, hml, hown, hbig, hK adK adV n0, fun q hq => hq, hlk, rfl, rfl, Nat.zero_le _, Nat.zero_le _, hSK D ids n0⟩
  have hn : kn K = 7 := by rw [← hKe]
  have hst : (kl K).stackTraces = false := by rw [← hKe]; exact hfl
  have hXK : XP (kA K) (kS K) (kS K).heap := by rw [← hKe]; exact hXP
  have hs : SC K b L xs := by rw [← hKe]; exact ⟨hX, hbl, hA b hbl⟩
  have fin : ∀ (n : Nat → Nat) (al : Al) (w : Wd) (Lc : List (Nat × Value)) (cs ts : Nat), cs ≤ (kR K).cells → ts ≤ (kR K).slots → V (kU K n cs ts) al w 1559 Lc [.int 1] := by
    intro n al w Lc cs ts h1 h2 H lc ls hP hD hS hl
    rw [← hKe] at h1 h2 hS ⊢
    refine va_forget (fun q hq => hS.2.2 q hq) ?_
    refine W.widen (k := 601024) (n := 7293034) h1 h2 ?_
    exact lw_ret hx hb hret hlk dL_law_1559
  have body : VN K [] 0 0 0 [(0, .ref b)] [] := by
    refine n_new 3 hk tyX9 (ci := 9) rfl cu_9 tyX9_ok (big_t 23 (by decide +kernel) rfl) (big_t 24 (by decide +kernel) rfl) (big_t 1 (by decide +kernel) rfl) df_9 (by omega) (by omega) dL_law_0 rfl (fun q9 => ?_)
    refine n_dup 4 hk dL_law_3 rfl ?_
    refine n_call 7 hk (fun h => h) (As := []) (rest := [.ref q9]) nX9_init cf_RL_15 (big_t 26 (by decide +kernel) rfl) rfl dL_law_4 rfl (by omega) (by omega) (by omega) (by omega) rfl rfl (Nat.le_of_ble_eq_true rfl) (fun P9 hP9 => ?_)
    obtain ⟨tp, t0, u0, t1, u1, pa, fi, bf, s0, b0, s1, b1, sh, bh, dr, hi, h6, hr, bi, im, ir, bm, rfl⟩ := hP9
    refine n_astore_n 8 [(1, .ref q9), (0, .ref b)] hk dL_law_7 rfl rfl hn (by decide) rfl ?_
    refine n_new 11 hk tyX11 (ci := 11) rfl cu_11 tyX11_ok (big_t 1029 (by decide +kernel) rfl) (big_t 1030 (by decide +kernel) rfl) (big_t 12 (by decide +kernel) rfl) df_11 (by omega) (by omega) dL_law_8 rfl (fun q11 => ?_)
    refine n_dup 12 hk dL_law_11 rfl ?_
    refine n_call 15 hk (z2 := true) (fun h => h) (As := []) (rest := [.ref q11]) nX11_init cf_RL_18 (big_t 1032 (by decide +kernel) rfl) rfl dL_law_12 rfl (by omega) (by omega) (by omega) (by omega) rfl rfl (Nat.le_of_ble_eq_true rfl) (fun P11 hP11 => ?_)
    obtain ⟨bM, rfl⟩ := hP11
    refine n_astore_n 16 [(2, .ref q11), (1, .ref q9), (0, .ref b)] hk dL_law_15 rfl rfl hn (by decide) rfl ?_
    refine n_iconst 17 hk dL_law_16 rfl ci_1 ?_
    refine n_newa 19 hk 5 (ty := .long) rfl rfl (big_t 1761 (by decide +kernel) rfl) (N := 1) (a0 := (1, .inr (.inl (fun _ => 0)))) (fun _ => rfl) (by decide) (by decide) (by decide) (by omega) (by omega) dL_law_17 rfl (fun q12 => ?_)
    refine n_astore_n 20 [(3, .ref q12), (2, .ref q11), (1, .ref q9), (0, .ref b)] hk dL_law_19 rfl rfl hn (by decide) rfl ?_
    refine n_iconst 21 hk dL_law_20 rfl ci_0 ?_
    refine n_istore 23 [(4, .int 0), (3, .ref q12), (2, .ref q11), (1, .ref q9), (0, .ref b)] hk dL_law_21 rfl hn (by decide) rfl ?_
    intro H lc ls hP hD hS hl
    rw [← orL_m] at hP hD
    have hP3 := ri_P2 hP or_mem raw_at
    have hD3 := ri_D2 hD or_mem (fun x _ => raw_1 x) (keys_nd n0)
    have hcs : (200 : Nat) + 5120 ≤ (kR K).cells := by rw [hk.ce]; decide
    have hts2 : (7000 : Nat) + 88064 ≤ (kR K).slots := by rw [hk.sl]; decide
    have go := law_loop (c0 := 200) (t0 := 7000) hv hn hst hXK hs hL hcs hts2 fin 512 0 n0 (alZ q9 tp t0 u0 t1 u1 pa fi bf s0 b0 s1 b1 sh bh dr hi h6 hr bi im ir bm q11 bM q12) w0 A0 (0 + 1 + 153 + 1 + 10 + 1) (0 + 16 + 3666 + 36 + 3158 + 1) (by omega) (by omega) nx0 rfl aok0 xrel0 mrel0 (by omega) (by omega)
    exact go H lc ls hP3 hD3 hS (lv_sub hl [4, 3, 2, 1, 0] rfl)
  have he := lv_entry [.ref b] (n := 7) (Nat.le_of_ble_eq_true rfl)
  rw [lg_entry_eq]
  have b2 := body
  rw [← hKe] at b2
  exact b2 s.heap [] _ (fun k q hq => by simp at hq) ⟨fun i j x y h1 _ _ => by simp at h1, fun k q hq => by simp at hq⟩ va_S.rf he
