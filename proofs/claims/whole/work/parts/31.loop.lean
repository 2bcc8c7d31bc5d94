def R_law : String := "MeasuredStagesLaw"
def lw_P (b : Addr) (xs : List Int32) (args : Array Value) (s : State) : Prop := args = #[.ref b] ∧ s.IntsAt b xs ∧ xs.length ≤ 3072 ∧ (Jvm.Cond.and given_1 narrow_1).before args s = true
def lw_Q (_ : Array Value) (s : State) (o : Outcome) (t : State) : Prop := o = .returned (some (.int 1)) ∧ Framed s o t [] 1069 8600
def lw_Z (below : List Frame) (a : Array Value) (s : State) : State → Prop := fun t => ∃ o, t.status = .running ∧ Ended t below o ∧ lw_Q a s o t
/-- the law's own end, with 1 on the stack, nothing written that was there before, its room as the claim has it -/
theorem lw_ret {p : Program} {l : Launch} {e : Env} {s : State} {m : MethodId} {below : List Frame} {meth : Method} {c : Code} {b : Nat} (hx : p.tables.exec = Jvm.exec) (hb : c.code = code) (hr : meth.sig.returnType = ret) (hlocks : meth.locks = false) {pc : Nat} {H : Heap} {ls : Array Slot} (hdg : decode code pc = .ok (.ireturn, 1)) : W p l e room_1 s m #[Value.ref b] below meth c H [] 1069 8600 (lw_Z below #[Value.ref b] s) (F0 m pc ls [.int 1]) := by
  intro T hT X
  obtain ⟨fs, hret, hrun, hended, hW, hframe⟩ := X.leave (v := some (.int 1)) (hlocks := hlocks) (fun h => by rw [hr] at h; cases h)
  have hmeth' : T.vm.method? m = some meth := X.method'
  refine ⟨T.setFrames fs, ?_, .returned (some (.int 1)), hrun, hended, rfl, ⟨_, rfl⟩, hW, hframe⟩
  jvm_step X.here [X.here.top, hx, hb, hdg, hmeth', hr, ret, narrow_b1]
  (try refine ⟨rfl, ?_⟩); (try refine ⟨rfl, ?_⟩)
  first | (intro acts; rw [hret _ acts rfl rfl rfl]) | rw [hret _ _ rfl rfl rfl]
  exact Steps.refl _
/-- what holds at the law's entry: the machine, the code, the tables' words (any of lw_tbl by 'hts w (by decide +kernel)'), the script of L ints xs at the cell b, what the Statement gives of the start (any of its parts by flat_of_before) -/
def lw_At (p : Program) (s : State) (m : MethodId) (meth : Method) (c : Code) (b L : Nat) (xs : Nat → Int32) : Prop :=
  p.tables.exec = Jvm.exec ∧ c.code = code ∧ meth.sig.returnType = ret ∧ c.maxLocals = 8 ∧ s.vm.findClass R_law = some m.cls ∧ (∀ w ∈ lw_tbl, w.before #[Value.ref b] s = true) ∧ va_X b L xs s s.heap ∧ b < s.heap.size ∧ meth.locks = false ∧ (Jvm.Cond.and given_1 narrow_1).before #[Value.ref b] s = true
theorem lw_cmp {L r : Nat} (hL : L ≤ 3072) (hr : r ≤ 513) (h : ¬ Int32.ofNat L - 6 < nI (6 * r)) : 6 * r + 6 ≤ L := by
  rcases Nat.lt_or_ge L (6 * r + 6) with q | q
  · exfalso
    apply h
    rcases Nat.lt_or_ge L 6 with q6 | q6
    · have h1 : Int32.ofNat L - 6 < 0 := by
        rcases (show L = 0 ∨ L = 1 ∨ L = 2 ∨ L = 3 ∨ L = 4 ∨ L = 5 by omega) with z | z | z | z | z | z <;> subst z <;> decide
      exact Int32.lt_of_lt_of_le h1 (nI_le (a := 0) (Nat.zero_le _) (by omega))
    · have h1 : Int32.ofNat L - 6 = nI (L - 6) := by
        have h2 : nI (L - 6) + nI 6 = nI L := by rw [nI_add, Nat.sub_add_cancel q6]
        show nI L - nI 6 = nI (L - 6)
        rw [← h2]
        exact Int32.add_sub_cancel _ _
      rw [h1]
      exact nI_lt (by omega) (by omega)
  · exact q
set_option maxHeartbeats 4000000 in
set_option maxRecDepth 100000 in
theorem law_step {p : Program} {l : Launch} {e : Env} {s : State} {m : MethodId} {below : List Frame} {meth : Method} {c : Code} {H : Heap} {locs : List Loc} {ls : Array Slot} {D : va_G} {cs cm : Nat → ClassId} {ad am : Nat → Nat} {u : Sg} {A : Nat → Prop} {j : Jy} {k : Jm} {b L r : Nat} {xs : Nat → Int32}
    (hl0 : l.stackTraces = false) (hx : p.tables.exec = Jvm.exec) (hb : c.code = b_lw_law) (hml : c.maxLocals = 8) (hown : s.vm.findClass "MeasuredStagesLaw" = some m.cls) (hT : ∀ w ∈ TB, w.before #[Value.ref b] s = true) (hN : xw_N s) (hC : xC s) (hX : va_X b L xs s s.heap) (hbl : b < s.heap.size) (hbA : ¬ A b) (hA : ∀ q, s.heap.size ≤ q → A q)  (hA2 : ∀ q, A q → s.heap.size ≤ q) (hret : meth.sig.returnType = ret) (hlocks : meth.locks = false) (hr9 : r ≤ 513) (hL : L ≤ 3072) (hK : va_K D cx (zty cs cm) s)
    (hP : va_P D cx (zw ad cs am cm u j u k) H) (hD : va_D A (zw ad cs am cm u j u k)) (hS : va_S A s.heap H locs) (hZ : xTA A s H) (hok : sp_ok u) (hl : lv_has ls 8 [(4, .int (nI (6 * r))), (0, .ref b), (1, .ref (ad 0)), (2, .ref (am 0)), (3, .ref (ad 15))])
    (ih : 6 * r + 6 ≤ L → ∀ (H1 : Heap) (locs1 : List Loc) (ls1 : Array Slot) (u1 : Sg) (j1 : Jy) (k1 : Jm), lv_has ls1 8 [(4, .int (nI (6 * (r + 1)))), (0, .ref b), (1, .ref (ad 0)), (2, .ref (am 0)), (3, .ref (ad 15))] → va_P D cx (zw ad cs am cm u1 j1 u1 k1) H1 → va_D A (zw ad cs am cm u1 j1 u1 k1) → va_S A s.heap H1 locs1 → xTA A s H1 → sp_ok u1 → W p l e room_1 s m #[Value.ref b] below meth c H1 locs1 (29 + (r + 1)) (312 + 6 * (r + 1)) (lw_Z below #[Value.ref b] s) (F0 m 23 ls1 [])) :
    W p l e room_1 s m #[Value.ref b] below meth c H locs (29 + r) (312 + 6 * r) (lw_Z below #[Value.ref b] s) (F0 m 23 ls []) := by
  refine lv_iload hx hb d_lw_law_23 (lv_at hl 0 rfl) ?_
  refine lv_aload_n hx hb d_lw_law_25 rfl (lv_at hl 1 rfl) ?_
  refine va_slen hx hb hX hbl hbA hS d_lw_law_26 ?_
  refine lv_bipush (v := 6) hx hb d_lw_law_27 (by decide) ?_
  refine lv_isub hx hb d_lw_law_29 ?_
  refine lv_icmp_gt hx hb d_lw_law_30 (tgt := 1045) (by decide) (fun hg => ?_) (fun hg => ?_)
  · refine lv_iconst (v := 1) hx hb d_lw_law_1045 (by decide) ?_
    refine W.widen (k := 1069) (n := 8600) (by omega) (by omega) ?_
    exact va_forget (fun q hq => hA2 _ (hS.2.2 q hq)) (lw_ret hx hb hret hlocks d_lw_law_1046)
  have hr : 6 * r + 6 ≤ L := lw_cmp hL hr9 hg
  have ih2 : ∀ (H1 : Heap) (locs1 : List Loc) (ls1 : Array Slot) (u1 : Sg) (j1 : Jy) (k1 : Jm), lv_has ls1 8 [(4, .int (nI (6 * r))), (0, .ref b), (1, .ref (ad 0)), (2, .ref (am 0)), (3, .ref (ad 15))] → va_P D cx (zw ad cs am cm u1 j1 u1 k1) H1 → va_D A (zw ad cs am cm u1 j1 u1 k1) → va_S A s.heap H1 locs1 → xTA A s H1 → sp_ok u1 → W p l e room_1 s m #[Value.ref b] below meth c H1 locs1 (30 + r) (318 + 6 * r) (lw_Z below #[Value.ref b] s) (F0 m 1039 ls1 []) := by
    intro H locs ls u j k hl hP hD hS hZ hok
    refine lv_iinc (nL := 8) (k := 0) (v := nI (6 * (r + 1))) (lv' := [(4, .int (nI (6 * (r + 1)))), (0, .ref b), (1, .ref (ad 0)), (2, .ref (am 0)), (3, .ref (ad 15))]) hx hb d_lw_law_1039 hl rfl (by rw [show 6 * (r + 1) = 6 * r + 6 by omega, ← nI_add]; rfl) (by decide) rfl (fun ls hl => ?_)
    refine lv_goto hx hb d_lw_law_1042 (tgt := 23) (by decide) ?_
    refine W.widen (k := 29 + (r + 1)) (n := 312 + 6 * (r + 1)) (by omega) (by omega) ?_
    exact ih hr _ _ _ _ _ _ hl hP hD hS hZ hok
  refine lv_aload_n hx hb d_lw_law_33 rfl (lv_at hl 1 rfl) ?_
  refine lv_iload hx hb d_lw_law_34 (lv_at hl 0 rfl) ?_
  refine va_sld hx hb hX hbl hbA hS (vp_in_nI (by omega) (by omega)) d_lw_law_36 ?_
  refine lv_bipush (v := 31) hx hb d_lw_law_37 (by decide) ?_
  refine lv_iand hx hb d_lw_law_39 ?_
  obtain ⟨t, ht, et⟩ := pk_andE (xs (nI (6 * r)).toNatClampNeg) (m := 31) 5 rfl
  rw [et]
  have ht : t < 32 := ht
  rcases (show t = 0 ∨ t = 1 ∨ t = 2 ∨ t = 3 ∨ t = 4 ∨ t = 5 ∨ t = 6 ∨ t = 7 ∨ t = 8 ∨ t = 9 ∨ t = 10 ∨ t = 11 ∨ t = 12 ∨ t = 13 ∨ t = 14 ∨ t = 15 ∨ t = 16 ∨ t = 17 ∨ 17 < t by omega) with h | h | h | h | h | h | h | h | h | h | h | h | h | h | h | h | h | h | h
  · subst h
    refine lv_tableIn hx hb d_lw_law_40 (off := 88) (tgt := 128) (by decide) (by decide) rfl (by decide) ?_
    exact lc_0 hl0 hx hb hml hown hT hN hC hX hbl hbA hA hr hL hK hP hD hS hZ hok hl ih2
  · subst h
    refine lv_tableIn hx hb d_lw_law_40 (off := 168) (tgt := 208) (by decide) (by decide) rfl (by decide) ?_
    exact lc_1 hl0 hx hb hml hown hT hN hC hX hbl hbA hA hr hL hK hP hD hS hZ hok hl ih2
  · subst h
    refine lv_tableIn hx hb d_lw_law_40 (off := 204) (tgt := 244) (by decide) (by decide) rfl (by decide) ?_
    exact lc_2 hl0 hx hb hml hown hT hN hC hX hbl hbA hA hr hL hK hP hD hS hZ hok hl ih2
  · subst h
    refine lv_tableIn hx hb d_lw_law_40 (off := 260) (tgt := 300) (by decide) (by decide) rfl (by decide) ?_
    exact lc_3 hl0 hx hb hml hown hT hN hC hX hbl hbA hA hr hL hK hP hD hS hZ hok hl ih2
  · subst h
    refine lv_tableIn hx hb d_lw_law_40 (off := 273) (tgt := 313) (by decide) (by decide) rfl (by decide) ?_
    exact lc_4 hl0 hx hb hml hown hT hN hC hX hbl hbA hA hr hL hK hP hD hS hZ hok hl ih2
  · subst h
    refine lv_tableIn hx hb d_lw_law_40 (off := 286) (tgt := 326) (by decide) (by decide) rfl (by decide) ?_
    exact lc_5 hl0 hx hb hml hown hT hN hC hX hbl hbA hA hr hL hK hP hD hS hZ hok hl ih2
  · subst h
    refine lv_tableIn hx hb d_lw_law_40 (off := 299) (tgt := 339) (by decide) (by decide) rfl (by decide) ?_
    exact lc_6 hl0 hx hb hml hown hT hN hC hX hbl hbA hA hr hL hK hP hD hS hZ hok hl ih2
  · subst h
    refine lv_tableIn hx hb d_lw_law_40 (off := 313) (tgt := 353) (by decide) (by decide) rfl (by decide) ?_
    exact lc_7 hl0 hx hb hml hown hT hN hC hX hbl hbA hA hr hL hK hP hD hS hZ hok hl ih2
  · subst h
    refine lv_tableIn hx hb d_lw_law_40 (off := 368) (tgt := 408) (by decide) (by decide) rfl (by decide) ?_
    exact lc_8 hl0 hx hb hml hown hT hN hC hX hbl hbA hA hr hL hK hP hD hS hZ hok hl ih2
  · subst h
    refine lv_tableIn hx hb d_lw_law_40 (off := 448) (tgt := 488) (by decide) (by decide) rfl (by decide) ?_
    exact lc_9 hl0 hx hb hml hown hT hN hC hX hbl hbA hA hr hL hK hP hD hS hZ hok hl ih2
  · subst h
    refine lv_tableIn hx hb d_lw_law_40 (off := 461) (tgt := 501) (by decide) (by decide) rfl (by decide) ?_
    exact lc_10 hl0 hx hb hml hown hT hN hC hX hbl hbA hA hr hL hK hP hD hS hZ hok hl ih2
  · subst h
    refine lv_tableIn hx hb d_lw_law_40 (off := 517) (tgt := 557) (by decide) (by decide) rfl (by decide) ?_
    exact lc_11 hl0 hx hb hml hown hT hN hC hX hbl hbA hA hr hL hK hP hD hS hZ hok hl ih2
  · subst h
    refine lv_tableIn hx hb d_lw_law_40 (off := 572) (tgt := 612) (by decide) (by decide) rfl (by decide) ?_
    exact lc_12 hl0 hx hb hml hown hT hN hC hX hbl hbA hA hr hL hK hP hD hS hZ hok hl ih2
  · subst h
    refine lv_tableIn hx hb d_lw_law_40 (off := 652) (tgt := 692) (by decide) (by decide) rfl (by decide) ?_
    exact lc_13 hl0 hx hb hml hown hT hN hC hX hbl hbA hA hr hL hK hP hD hS hZ hok hl ih2
  · subst h
    refine lv_tableIn hx hb d_lw_law_40 (off := 665) (tgt := 705) (by decide) (by decide) rfl (by decide) ?_
    exact lc_14 hl0 hx hb hml hown hT hN hC hX hbl hbA hA hr hL hK hP hD hS hZ hok hl ih2
  · subst h
    refine lv_tableIn hx hb d_lw_law_40 (off := 765) (tgt := 805) (by decide) (by decide) rfl (by decide) ?_
    exact lc_15 hl0 hx hb hml hown hT hN hC hX hbl hbA hA hr hL hK hP hD hS hZ hok hl ih2
  · subst h
    refine lv_tableIn hx hb d_lw_law_40 (off := 820) (tgt := 860) (by decide) (by decide) rfl (by decide) ?_
    exact lc_16 hl0 hx hb hml hown hT hN hC hX hbl hbA hA hr hL hK hP hD hS hZ hok hl ih2
  · subst h
    refine lv_tableIn hx hb d_lw_law_40 (off := 856) (tgt := 896) (by decide) (by decide) rfl (by decide) ?_
    exact lc_17 hl0 hx hb hml hown hT hN hC hX hbl hbA hA hr hL hK hP hD hS hZ hok hl ih2
  · refine lv_tableOut hx hb d_lw_law_40 (tgt := 1039) (Or.inr (Int32.lt_iff_toInt_lt.mp (nI_lt (a := 17) h (by omega)))) (by decide) ?_
    exact lc_default hl0 hx hb hml hown hT hN hC hX hbl hbA hA hr hL hK hP hD hS hZ hok hl ih2
/-- the law's loop -/
theorem law_loop {p : Program} {l : Launch} {e : Env} {s : State} {m : MethodId} {below : List Frame} {meth : Method} {c : Code} {D : va_G} {cs cm : Nat → ClassId} {ad am : Nat → Nat} {A : Nat → Prop} {b L : Nat} {xs : Nat → Int32}
    (hl0 : l.stackTraces = false) (hx : p.tables.exec = Jvm.exec) (hb : c.code = b_lw_law) (hml : c.maxLocals = 8) (hown : s.vm.findClass "MeasuredStagesLaw" = some m.cls) (hT : ∀ w ∈ TB, w.before #[Value.ref b] s = true) (hN : xw_N s) (hC : xC s) (hX : va_X b L xs s s.heap) (hbl : b < s.heap.size) (hbA : ¬ A b) (hA : ∀ q, s.heap.size ≤ q → A q)  (hA2 : ∀ q, A q → s.heap.size ≤ q) (hret : meth.sig.returnType = ret) (hlocks : meth.locks = false) (hL : L ≤ 3072) (hK : va_K D cx (zty cs cm) s) :
    ∀ (n r : Nat) (H : Heap) (locs : List Loc) (ls : Array Slot) (u : Sg) (j : Jy) (k : Jm), r + n = 513 → lv_has ls 8 [(4, .int (nI (6 * r))), (0, .ref b), (1, .ref (ad 0)), (2, .ref (am 0)), (3, .ref (ad 15))] → va_P D cx (zw ad cs am cm u j u k) H → va_D A (zw ad cs am cm u j u k) → va_S A s.heap H locs → xTA A s H → sp_ok u → W p l e room_1 s m #[Value.ref b] below meth c H locs (29 + r) (312 + 6 * r) (lw_Z below #[Value.ref b] s) (F0 m 23 ls []) := by
  intro n
  induction n with
  | zero =>
    intro r H locs ls u j k hn hl hP hD hS hZ hok
    exact law_step hl0 hx hb hml hown hT hN hC hX hbl hbA hA hA2 hret hlocks (by omega) hL hK hP hD hS hZ hok hl (fun hr => by omega)
  | succ n ih =>
    intro r H locs ls u j k hn hl hP hD hS hZ hok
    exact law_step hl0 hx hb hml hown hT hN hC hX hbl hbA hA hA2 hret hlocks (by omega) hL hK hP hD hS hZ hok hl (fun _ H1 locs1 ls1 u1 j1 k1 h1 h2 h3 h4 h5 h6 => ih (r + 1) H1 locs1 ls1 u1 j1 k1 (by omega) h1 h2 h3 h4 h5 h6)
