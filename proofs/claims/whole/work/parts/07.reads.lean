/-- blob k is taken, as an answer -/
def sp_tk (ma : Nat → Int32) (k : Int32) : Int32 := if k < 0 then 0 else if 8 ≤ k then 0 else if ma k.toNatClampNeg = 0 then 0 else 1
/-- blob k is open, as an answer -/
def sp_on (u : Sg) (k : Int32) : Int32 := if sg_po u k.toNatClampNeg = sp_po u (sg_ma u k.toNatClampNeg) then 1 else 0
/-- image n is approved as it is, as an answer -/
def sp_ia (u : Sg) (n : Int32) : Int32 := if sg_ap u n.toNatClampNeg = 0 then 0 else if sg_ag u n.toNatClampNeg = sp_di u n then 1 else 0
/-- a loop that counts up to N -/
theorem wl_up {p : Program} {l : Launch} {e : Env} {R : Room} {s : State} {m : MethodId} {args : Array Value} {below : List Frame} {meth : Method} {c : Code} {cells slots : Nat} {Q : State → Prop} {α : Type} (N : Nat) (P : Nat → Heap → List Loc → Array Slot → α → Prop) (head : Nat)
    (exit : ∀ (H : Heap) (L : List Loc) (ls : Array Slot) (a : α), P N H L ls a → W p l e R s m args below meth c H L cells slots Q (F0 m head ls []))
    (step : ∀ (r : Nat) (H : Heap) (L : List Loc) (ls : Array Slot) (a : α), r < N → P r H L ls a → (∀ (H' : Heap) (L' : List Loc) (ls' : Array Slot) (a' : α), P (r + 1) H' L' ls' a' → W p l e R s m args below meth c H' L' cells slots Q (F0 m head ls' [])) → W p l e R s m args below meth c H L cells slots Q (F0 m head ls [])) :
    ∀ (r : Nat) (H : Heap) (L : List Loc) (ls : Array Slot) (a : α), r ≤ N → P r H L ls a → W p l e R s m args below meth c H L cells slots Q (F0 m head ls []) := by
  intro r
  induction hk : N - r generalizing r with
  | zero =>
    intro H L ls a hr hP
    have : r = N := by omega
    subst this
    exact exit H L ls a hP
  | succ k ih =>
    intro H L ls a hr hP
    exact step r H L ls a (by omega) hP (fun H' L' ls' a' h' => ih (r + 1) (by omega) H' L' ls' a' (by omega) h')
theorem d_bl_isTaken_0 : decode b_bl_isTaken 0 = .ok (.iload_n 1, 1) := by decide +kernel
theorem d_bl_isTaken_1 : decode b_bl_isTaken 1 = .ok (.ifCond .lt 22, 3) := by decide +kernel
theorem d_bl_isTaken_4 : decode b_bl_isTaken 4 = .ok (.iload_n 1, 1) := by decide +kernel
theorem d_bl_isTaken_5 : decode b_bl_isTaken 5 = .ok (.bipush 8, 2) := by decide +kernel
theorem d_bl_isTaken_7 : decode b_bl_isTaken 7 = .ok (.if_icmp .ge 16, 3) := by decide +kernel
theorem d_bl_isTaken_10 : decode b_bl_isTaken 10 = .ok (.aload_n 0, 1) := by decide +kernel
theorem d_bl_isTaken_11 : decode b_bl_isTaken 11 = .ok (.getfield 9, 3) := by decide +kernel
theorem d_bl_isTaken_14 : decode b_bl_isTaken 14 = .ok (.iload_n 1, 1) := by decide +kernel
theorem d_bl_isTaken_15 : decode b_bl_isTaken 15 = .ok (.iaload, 1) := by decide +kernel
theorem d_bl_isTaken_16 : decode b_bl_isTaken 16 = .ok (.ifCond .eq 7, 3) := by decide +kernel
theorem d_bl_isTaken_19 : decode b_bl_isTaken 19 = .ok (.iconst 1, 1) := by decide +kernel
theorem d_bl_isTaken_20 : decode b_bl_isTaken 20 = .ok (.goto 4, 3) := by decide +kernel
theorem d_bl_isTaken_23 : decode b_bl_isTaken 23 = .ok (.iconst 0, 1) := by decide +kernel
theorem d_bl_isTaken_24 : decode b_bl_isTaken 24 = .ok (.ireturn, 1) := by decide +kernel
theorem d_bl_leastFree_0 : decode b_bl_leastFree 0 = .ok (.iconst 0, 1) := by decide +kernel
theorem d_bl_leastFree_1 : decode b_bl_leastFree 1 = .ok (.istore_n 1, 1) := by decide +kernel
theorem d_bl_leastFree_2 : decode b_bl_leastFree 2 = .ok (.iload_n 1, 1) := by decide +kernel
theorem d_bl_leastFree_3 : decode b_bl_leastFree 3 = .ok (.bipush 8, 2) := by decide +kernel
theorem d_bl_leastFree_5 : decode b_bl_leastFree 5 = .ok (.if_icmp .ge 20, 3) := by decide +kernel
theorem d_bl_leastFree_8 : decode b_bl_leastFree 8 = .ok (.aload_n 0, 1) := by decide +kernel
theorem d_bl_leastFree_9 : decode b_bl_leastFree 9 = .ok (.getfield 9, 3) := by decide +kernel
theorem d_bl_leastFree_12 : decode b_bl_leastFree 12 = .ok (.iload_n 1, 1) := by decide +kernel
theorem d_bl_leastFree_13 : decode b_bl_leastFree 13 = .ok (.iaload, 1) := by decide +kernel
theorem d_bl_leastFree_14 : decode b_bl_leastFree 14 = .ok (.ifCond .ne 5, 3) := by decide +kernel
theorem d_bl_leastFree_17 : decode b_bl_leastFree 17 = .ok (.iload_n 1, 1) := by decide +kernel
theorem d_bl_leastFree_18 : decode b_bl_leastFree 18 = .ok (.ireturn, 1) := by decide +kernel
theorem d_bl_leastFree_19 : decode b_bl_leastFree 19 = .ok (.iinc 1 1, 3) := by decide +kernel
theorem d_bl_leastFree_22 : decode b_bl_leastFree 22 = .ok (.goto (-20), 3) := by decide +kernel
theorem d_bl_leastFree_25 : decode b_bl_leastFree 25 = .ok (.iconst (-1), 1) := by decide +kernel
theorem d_bl_leastFree_26 : decode b_bl_leastFree 26 = .ok (.ireturn, 1) := by decide +kernel
theorem d_rg_hasEvent_0 : decode b_rg_hasEvent 0 = .ok (.iload_n 1, 1) := by decide +kernel
theorem d_rg_hasEvent_1 : decode b_rg_hasEvent 1 = .ok (.ifCond .lt 15, 3) := by decide +kernel
theorem d_rg_hasEvent_4 : decode b_rg_hasEvent 4 = .ok (.iload_n 1, 1) := by decide +kernel
theorem d_rg_hasEvent_5 : decode b_rg_hasEvent 5 = .ok (.aload_n 0, 1) := by decide +kernel
theorem d_rg_hasEvent_6 : decode b_rg_hasEvent 6 = .ok (.getfield 25, 3) := by decide +kernel
theorem d_rg_hasEvent_9 : decode b_rg_hasEvent 9 = .ok (.if_icmp .ge 7, 3) := by decide +kernel
theorem d_rg_hasEvent_12 : decode b_rg_hasEvent 12 = .ok (.iconst 1, 1) := by decide +kernel
theorem d_rg_hasEvent_13 : decode b_rg_hasEvent 13 = .ok (.goto 4, 3) := by decide +kernel
theorem d_rg_hasEvent_16 : decode b_rg_hasEvent 16 = .ok (.iconst 0, 1) := by decide +kernel
theorem d_rg_hasEvent_17 : decode b_rg_hasEvent 17 = .ok (.ireturn, 1) := by decide +kernel
theorem d_rg_policyOf_0 : decode b_rg_policyOf 0 = .ok (.ldc2_w 39, 3) := by decide +kernel
theorem d_rg_policyOf_3 : decode b_rg_policyOf 3 = .ok (.iload_n 1, 1) := by decide +kernel
theorem d_rg_policyOf_4 : decode b_rg_policyOf 4 = .ok (.i2l, 1) := by decide +kernel
theorem d_rg_policyOf_5 : decode b_rg_policyOf 5 = .ok (.invokestatic 35, 3) := by decide +kernel
theorem d_rg_policyOf_8 : decode b_rg_policyOf 8 = .ok (.lstore_n 2, 1) := by decide +kernel
theorem d_rg_policyOf_9 : decode b_rg_policyOf 9 = .ok (.iconst 0, 1) := by decide +kernel
theorem d_rg_policyOf_10 : decode b_rg_policyOf 10 = .ok (.istore 4, 2) := by decide +kernel
theorem d_rg_policyOf_12 : decode b_rg_policyOf 12 = .ok (.iload 4, 2) := by decide +kernel
theorem d_rg_policyOf_14 : decode b_rg_policyOf 14 = .ok (.bipush 6, 2) := by decide +kernel
theorem d_rg_policyOf_16 : decode b_rg_policyOf 16 = .ok (.if_icmp .ge 31, 3) := by decide +kernel
theorem d_rg_policyOf_19 : decode b_rg_policyOf 19 = .ok (.iload_n 1, 1) := by decide +kernel
theorem d_rg_policyOf_20 : decode b_rg_policyOf 20 = .ok (.iload 4, 2) := by decide +kernel
theorem d_rg_policyOf_22 : decode b_rg_policyOf 22 = .ok (.ishr, 1) := by decide +kernel
theorem d_rg_policyOf_23 : decode b_rg_policyOf 23 = .ok (.iconst 1, 1) := by decide +kernel
theorem d_rg_policyOf_24 : decode b_rg_policyOf 24 = .ok (.iand, 1) := by decide +kernel
theorem d_rg_policyOf_25 : decode b_rg_policyOf 25 = .ok (.iconst 1, 1) := by decide +kernel
theorem d_rg_policyOf_26 : decode b_rg_policyOf 26 = .ok (.if_icmp .ne 15, 3) := by decide +kernel
theorem d_rg_policyOf_29 : decode b_rg_policyOf 29 = .ok (.lload_n 2, 1) := by decide +kernel
theorem d_rg_policyOf_30 : decode b_rg_policyOf 30 = .ok (.aload_n 0, 1) := by decide +kernel
theorem d_rg_policyOf_31 : decode b_rg_policyOf 31 = .ok (.getfield 11, 3) := by decide +kernel
theorem d_rg_policyOf_34 : decode b_rg_policyOf 34 = .ok (.iload 4, 2) := by decide +kernel
theorem d_rg_policyOf_36 : decode b_rg_policyOf 36 = .ok (.laload, 1) := by decide +kernel
theorem d_rg_policyOf_37 : decode b_rg_policyOf 37 = .ok (.invokestatic 35, 3) := by decide +kernel
theorem d_rg_policyOf_40 : decode b_rg_policyOf 40 = .ok (.lstore_n 2, 1) := by decide +kernel
theorem d_rg_policyOf_41 : decode b_rg_policyOf 41 = .ok (.iinc 4 1, 3) := by decide +kernel
theorem d_rg_policyOf_44 : decode b_rg_policyOf 44 = .ok (.goto (-32), 3) := by decide +kernel
theorem d_rg_policyOf_47 : decode b_rg_policyOf 47 = .ok (.lload_n 2, 1) := by decide +kernel
theorem d_rg_policyOf_48 : decode b_rg_policyOf 48 = .ok (.lreturn, 1) := by decide +kernel
theorem d_ms_digestOf_0 : decode b_ms_digestOf 0 = .ok (.ldc2_w 168, 3) := by decide +kernel
theorem d_ms_digestOf_3 : decode b_ms_digestOf 3 = .ok (.aload_n 0, 1) := by decide +kernel
theorem d_ms_digestOf_4 : decode b_ms_digestOf 4 = .ok (.getfield 9, 3) := by decide +kernel
theorem d_ms_digestOf_7 : decode b_ms_digestOf 7 = .ok (.iload_n 1, 1) := by decide +kernel
theorem d_ms_digestOf_8 : decode b_ms_digestOf 8 = .ok (.laload, 1) := by decide +kernel
theorem d_ms_digestOf_9 : decode b_ms_digestOf 9 = .ok (.invokestatic 158, 3) := by decide +kernel
theorem d_ms_digestOf_12 : decode b_ms_digestOf 12 = .ok (.lreturn, 1) := by decide +kernel
set_option maxHeartbeats 4000000 in
set_option maxRecDepth 100000 in
theorem c_bl_isTaken (l : Launch) (D : va_G) (cs : Nat → ClassId) (ad : Nat → Nat) (sz : Nat) (u : Sg) (j : Jx) (k : Int32)  : Met l y_bl_isTaken (Cond.code y_bl_isTaken b_bl_isTaken 2 (some .boolean) :: TB) { frames := 0, cells := 0, slots := 0, locals := 0 } (va_Pc [.ref (ad 5), .int k] (xw_Pre D cs ad u j sz)) (vp_Si (fun r => r = sp_tk (sg_ma u) k)) 0 0 (fun _ => False) := by
  refine Met.ofW (cc := b_bl_isTaken) (maxL := 2) (ret := (some .boolean)) (by decide) rfl ?_
  intro p e s m args below meth c s₁ B hml hv
  obtain ⟨rfl, hsz, hP, hK, hD, hN⟩ := hv
  have hx := B.exec
  have hb := B.bytes
  have hret := B.returns
  have hts := atoms_spec (ws := Cond.code y_bl_isTaken b_bl_isTaken 2 (some .boolean) :: TB) B.pre
  have hT : ∀ w ∈ TB, w.before _ s = true := fun w h => hts w (List.mem_cons_of_mem _ h)
  have hown : s.vm.findClass "MeasuredStages$Blobs" = some m.cls := findClass_of_methodNamed B.named
  have hlocks := B.notSynchronized
  subst hsz
  have hl := lv_entry ([.ref (ad 5), .int k]) (n := 2) (Nat.le_of_ble_eq_true rfl)
  rw [lg_entry_eq]
  generalize (lg_sl ([.ref (ad 5), .int k]) ++ List.replicate (2 - (lg_sl ([.ref (ad 5), .int k])).length) Slot.unset).toArray = ls at hl ⊢
  have hl : lv_has ls 2 [(0, .ref (ad 5)), (1, .int k)] := hl
  refine lv_iload_n hx hb d_bl_isTaken_0 rfl (lv_at hl 1 rfl) ?_
  refine lv_if_lt hx hb d_bl_isTaken_1 (tgt := 23) (by decide) (fun h1 => ?_) (fun h1 => ?_)
  · skip
    refine lv_iconst (v := 0) hx hb d_bl_isTaken_23 (by decide) ?_
    exact W.zret (v := 0) hx hb hret rfl (fun t ht hW => ⟨_, rfl, by simp [sp_tk, h1], ht⟩) (fun q h => by cases h) d_bl_isTaken_24
  · skip
    refine lv_iload_n hx hb d_bl_isTaken_4 rfl (lv_at hl 1 rfl) ?_
    refine lv_bipush (v := 8) hx hb d_bl_isTaken_5 (by decide) ?_
    refine lv_icmp_ge hx hb d_bl_isTaken_7 (tgt := 23) (by decide) (fun h2 => ?_) (fun h2 => ?_)
    · skip
      refine lv_iconst (v := 0) hx hb d_bl_isTaken_23 (by decide) ?_
      exact W.zret (v := 0) hx hb hret rfl (fun t ht hW => ⟨_, rfl, by simp [sp_tk, h1, h2], ht⟩) (fun q h => by cases h) d_bl_isTaken_24
    · skip
      refine lv_aload_n hx hb d_bl_isTaken_10 rfl (lv_at hl 0 rfl) ?_
      refine va_get (D := D) (ci := 2) (v := .ref (ad 12)) (C := "MeasuredStages$Blobs") (T := F_bl) (N := 3) hx hb hts (fun w h => List.mem_cons_of_mem _ (i_bl w h)) hown hK hP 5 rfl rfl 0 (by decide) (hT _ tb_56) (fun _ h9 => h9) rfl d_bl_isTaken_11 ?_
      refine lv_iload_n hx hb d_bl_isTaken_14 rfl (lv_at hl 1 rfl) ?_
      refine va_iald hx hb hK hP 12 9 rfl rfl (xn_in (by decide) h1 (Int32.not_le.mp h2)) d_bl_isTaken_15 ?_
      refine lv_if_eq hx hb d_bl_isTaken_16 (tgt := 23) (by decide) (fun h3 => ?_) (fun h3 => ?_)
      · skip
        refine lv_iconst (v := 0) hx hb d_bl_isTaken_23 (by decide) ?_
        exact W.zret (v := 0) hx hb hret rfl (fun t ht hW => ⟨_, rfl, by simp [sp_tk, h1, h2, h3], ht⟩) (fun q h => by cases h) d_bl_isTaken_24
      · skip
        refine lv_iconst (v := 1) hx hb d_bl_isTaken_19 (by decide) ?_
        refine lv_goto hx hb d_bl_isTaken_20 (tgt := 24) (by decide) ?_
        exact W.zret (v := 1) hx hb hret rfl (fun t ht hW => ⟨_, rfl, by simp [sp_tk, h1, h2, h3], ht⟩) (fun q h => by cases h) d_bl_isTaken_24
set_option maxHeartbeats 4000000 in
set_option maxRecDepth 100000 in
theorem c_bl_leastFree (l : Launch) (D : va_G) (cs : Nat → ClassId) (ad : Nat → Nat) (sz : Nat) (u : Sg) (j : Jx)   : Met l y_bl_leastFree (Cond.code y_bl_leastFree b_bl_leastFree 2 (some .int) :: TB) { frames := 0, cells := 0, slots := 0, locals := 0 } (va_Pc [.ref (ad 5)] (xw_Pre D cs ad u j sz)) (vp_Si (fun r => r = sp_lf (sg_ma u))) 0 0 (fun _ => False) := by
  refine Met.ofW (cc := b_bl_leastFree) (maxL := 2) (ret := (some .int)) (by decide) rfl ?_
  intro p e s m args below meth c s₁ B hml hv
  obtain ⟨rfl, hsz, hP, hK, hD, hN⟩ := hv
  have hx := B.exec
  have hb := B.bytes
  have hret := B.returns
  have hts := atoms_spec (ws := Cond.code y_bl_leastFree b_bl_leastFree 2 (some .int) :: TB) B.pre
  have hT : ∀ w ∈ TB, w.before _ s = true := fun w h => hts w (List.mem_cons_of_mem _ h)
  have hown : s.vm.findClass "MeasuredStages$Blobs" = some m.cls := findClass_of_methodNamed B.named
  have hlocks := B.notSynchronized
  subst hsz
  have hl := lv_entry ([.ref (ad 5)]) (n := 2) (Nat.le_of_ble_eq_true rfl)
  rw [lg_entry_eq]
  generalize (lg_sl ([.ref (ad 5)]) ++ List.replicate (2 - (lg_sl ([.ref (ad 5)])).length) Slot.unset).toArray = ls at hl ⊢
  have hl : lv_has ls 2 [(0, .ref (ad 5))] := hl
  refine lv_iconst (v := 0) hx hb d_bl_leastFree_0 (by decide) ?_
  refine lv_istore_n (nL := 2) (lv' := [(1, .int (0)), (0, .ref (ad 5))]) hx hb d_bl_leastFree_1 rfl hl (by decide) rfl (fun ls hl => ?_)
  refine lv_iload_n hx hb d_bl_leastFree_2 rfl (lv_at hl 0 rfl) ?_
  refine lv_bipush (v := 8) hx hb d_bl_leastFree_3 (by decide) ?_
  refine lv_icmp_ge hx hb d_bl_leastFree_5 (tgt := 25) (by decide) (fun z => absurd z (by decide)) (fun _ => ?_)
  refine lv_aload_n hx hb d_bl_leastFree_8 rfl (lv_at hl 1 rfl) ?_
  refine va_get (D := D) (ci := 2) (v := .ref (ad 12)) (C := "MeasuredStages$Blobs") (T := F_bl) (N := 3) hx hb hts (fun w h => List.mem_cons_of_mem _ (i_bl w h)) hown hK hP 5 rfl rfl 0 (by decide) (hT _ tb_56) (fun _ h9 => h9) rfl d_bl_leastFree_9 ?_
  refine lv_iload_n hx hb d_bl_leastFree_12 rfl (lv_at hl 0 rfl) ?_
  refine va_iald hx hb hK hP 12 9 rfl rfl (by unfold vp_in; decide) d_bl_leastFree_13 ?_
  refine lv_if_ne hx hb d_bl_leastFree_14 (tgt := 19) (by decide) (fun h1 => ?_) (fun h1 => ?_)
  · skip
    refine lv_iinc (nL := 2) (k := 0) (v := 1) (lv' := [(1, .int (1)), (0, .ref (ad 5))]) hx hb d_bl_leastFree_19 hl rfl (by decide) (by decide) rfl (fun ls hl => ?_)
    refine lv_goto hx hb d_bl_leastFree_22 (tgt := 2) (by decide) ?_
    refine lv_iload_n hx hb d_bl_leastFree_2 rfl (lv_at hl 0 rfl) ?_
    refine lv_bipush (v := 8) hx hb d_bl_leastFree_3 (by decide) ?_
    refine lv_icmp_ge hx hb d_bl_leastFree_5 (tgt := 25) (by decide) (fun z => absurd z (by decide)) (fun _ => ?_)
    refine lv_aload_n hx hb d_bl_leastFree_8 rfl (lv_at hl 1 rfl) ?_
    refine va_get (D := D) (ci := 2) (v := .ref (ad 12)) (C := "MeasuredStages$Blobs") (T := F_bl) (N := 3) hx hb hts (fun w h => List.mem_cons_of_mem _ (i_bl w h)) hown hK hP 5 rfl rfl 0 (by decide) (hT _ tb_56) (fun _ h9 => h9) rfl d_bl_leastFree_9 ?_
    refine lv_iload_n hx hb d_bl_leastFree_12 rfl (lv_at hl 0 rfl) ?_
    refine va_iald hx hb hK hP 12 9 rfl rfl (by unfold vp_in; decide) d_bl_leastFree_13 ?_
    refine lv_if_ne hx hb d_bl_leastFree_14 (tgt := 19) (by decide) (fun h2 => ?_) (fun h2 => ?_)
    · skip
      refine lv_iinc (nL := 2) (k := 0) (v := 2) (lv' := [(1, .int (2)), (0, .ref (ad 5))]) hx hb d_bl_leastFree_19 hl rfl (by decide) (by decide) rfl (fun ls hl => ?_)
      refine lv_goto hx hb d_bl_leastFree_22 (tgt := 2) (by decide) ?_
      refine lv_iload_n hx hb d_bl_leastFree_2 rfl (lv_at hl 0 rfl) ?_
      refine lv_bipush (v := 8) hx hb d_bl_leastFree_3 (by decide) ?_
      refine lv_icmp_ge hx hb d_bl_leastFree_5 (tgt := 25) (by decide) (fun z => absurd z (by decide)) (fun _ => ?_)
      refine lv_aload_n hx hb d_bl_leastFree_8 rfl (lv_at hl 1 rfl) ?_
      refine va_get (D := D) (ci := 2) (v := .ref (ad 12)) (C := "MeasuredStages$Blobs") (T := F_bl) (N := 3) hx hb hts (fun w h => List.mem_cons_of_mem _ (i_bl w h)) hown hK hP 5 rfl rfl 0 (by decide) (hT _ tb_56) (fun _ h9 => h9) rfl d_bl_leastFree_9 ?_
      refine lv_iload_n hx hb d_bl_leastFree_12 rfl (lv_at hl 0 rfl) ?_
      refine va_iald hx hb hK hP 12 9 rfl rfl (by unfold vp_in; decide) d_bl_leastFree_13 ?_
      refine lv_if_ne hx hb d_bl_leastFree_14 (tgt := 19) (by decide) (fun h3 => ?_) (fun h3 => ?_)
      · skip
        refine lv_iinc (nL := 2) (k := 0) (v := 3) (lv' := [(1, .int (3)), (0, .ref (ad 5))]) hx hb d_bl_leastFree_19 hl rfl (by decide) (by decide) rfl (fun ls hl => ?_)
        refine lv_goto hx hb d_bl_leastFree_22 (tgt := 2) (by decide) ?_
        refine lv_iload_n hx hb d_bl_leastFree_2 rfl (lv_at hl 0 rfl) ?_
        refine lv_bipush (v := 8) hx hb d_bl_leastFree_3 (by decide) ?_
        refine lv_icmp_ge hx hb d_bl_leastFree_5 (tgt := 25) (by decide) (fun z => absurd z (by decide)) (fun _ => ?_)
        refine lv_aload_n hx hb d_bl_leastFree_8 rfl (lv_at hl 1 rfl) ?_
        refine va_get (D := D) (ci := 2) (v := .ref (ad 12)) (C := "MeasuredStages$Blobs") (T := F_bl) (N := 3) hx hb hts (fun w h => List.mem_cons_of_mem _ (i_bl w h)) hown hK hP 5 rfl rfl 0 (by decide) (hT _ tb_56) (fun _ h9 => h9) rfl d_bl_leastFree_9 ?_
        refine lv_iload_n hx hb d_bl_leastFree_12 rfl (lv_at hl 0 rfl) ?_
        refine va_iald hx hb hK hP 12 9 rfl rfl (by unfold vp_in; decide) d_bl_leastFree_13 ?_
        refine lv_if_ne hx hb d_bl_leastFree_14 (tgt := 19) (by decide) (fun h4 => ?_) (fun h4 => ?_)
        · skip
          refine lv_iinc (nL := 2) (k := 0) (v := 4) (lv' := [(1, .int (4)), (0, .ref (ad 5))]) hx hb d_bl_leastFree_19 hl rfl (by decide) (by decide) rfl (fun ls hl => ?_)
          refine lv_goto hx hb d_bl_leastFree_22 (tgt := 2) (by decide) ?_
          refine lv_iload_n hx hb d_bl_leastFree_2 rfl (lv_at hl 0 rfl) ?_
          refine lv_bipush (v := 8) hx hb d_bl_leastFree_3 (by decide) ?_
          refine lv_icmp_ge hx hb d_bl_leastFree_5 (tgt := 25) (by decide) (fun z => absurd z (by decide)) (fun _ => ?_)
          refine lv_aload_n hx hb d_bl_leastFree_8 rfl (lv_at hl 1 rfl) ?_
          refine va_get (D := D) (ci := 2) (v := .ref (ad 12)) (C := "MeasuredStages$Blobs") (T := F_bl) (N := 3) hx hb hts (fun w h => List.mem_cons_of_mem _ (i_bl w h)) hown hK hP 5 rfl rfl 0 (by decide) (hT _ tb_56) (fun _ h9 => h9) rfl d_bl_leastFree_9 ?_
          refine lv_iload_n hx hb d_bl_leastFree_12 rfl (lv_at hl 0 rfl) ?_
          refine va_iald hx hb hK hP 12 9 rfl rfl (by unfold vp_in; decide) d_bl_leastFree_13 ?_
          refine lv_if_ne hx hb d_bl_leastFree_14 (tgt := 19) (by decide) (fun h5 => ?_) (fun h5 => ?_)
          · skip
            refine lv_iinc (nL := 2) (k := 0) (v := 5) (lv' := [(1, .int (5)), (0, .ref (ad 5))]) hx hb d_bl_leastFree_19 hl rfl (by decide) (by decide) rfl (fun ls hl => ?_)
            refine lv_goto hx hb d_bl_leastFree_22 (tgt := 2) (by decide) ?_
            refine lv_iload_n hx hb d_bl_leastFree_2 rfl (lv_at hl 0 rfl) ?_
            refine lv_bipush (v := 8) hx hb d_bl_leastFree_3 (by decide) ?_
            refine lv_icmp_ge hx hb d_bl_leastFree_5 (tgt := 25) (by decide) (fun z => absurd z (by decide)) (fun _ => ?_)
            refine lv_aload_n hx hb d_bl_leastFree_8 rfl (lv_at hl 1 rfl) ?_
            refine va_get (D := D) (ci := 2) (v := .ref (ad 12)) (C := "MeasuredStages$Blobs") (T := F_bl) (N := 3) hx hb hts (fun w h => List.mem_cons_of_mem _ (i_bl w h)) hown hK hP 5 rfl rfl 0 (by decide) (hT _ tb_56) (fun _ h9 => h9) rfl d_bl_leastFree_9 ?_
            refine lv_iload_n hx hb d_bl_leastFree_12 rfl (lv_at hl 0 rfl) ?_
            refine va_iald hx hb hK hP 12 9 rfl rfl (by unfold vp_in; decide) d_bl_leastFree_13 ?_
            refine lv_if_ne hx hb d_bl_leastFree_14 (tgt := 19) (by decide) (fun h6 => ?_) (fun h6 => ?_)
            · skip
              refine lv_iinc (nL := 2) (k := 0) (v := 6) (lv' := [(1, .int (6)), (0, .ref (ad 5))]) hx hb d_bl_leastFree_19 hl rfl (by decide) (by decide) rfl (fun ls hl => ?_)
              refine lv_goto hx hb d_bl_leastFree_22 (tgt := 2) (by decide) ?_
              refine lv_iload_n hx hb d_bl_leastFree_2 rfl (lv_at hl 0 rfl) ?_
              refine lv_bipush (v := 8) hx hb d_bl_leastFree_3 (by decide) ?_
              refine lv_icmp_ge hx hb d_bl_leastFree_5 (tgt := 25) (by decide) (fun z => absurd z (by decide)) (fun _ => ?_)
              refine lv_aload_n hx hb d_bl_leastFree_8 rfl (lv_at hl 1 rfl) ?_
              refine va_get (D := D) (ci := 2) (v := .ref (ad 12)) (C := "MeasuredStages$Blobs") (T := F_bl) (N := 3) hx hb hts (fun w h => List.mem_cons_of_mem _ (i_bl w h)) hown hK hP 5 rfl rfl 0 (by decide) (hT _ tb_56) (fun _ h9 => h9) rfl d_bl_leastFree_9 ?_
              refine lv_iload_n hx hb d_bl_leastFree_12 rfl (lv_at hl 0 rfl) ?_
              refine va_iald hx hb hK hP 12 9 rfl rfl (by unfold vp_in; decide) d_bl_leastFree_13 ?_
              refine lv_if_ne hx hb d_bl_leastFree_14 (tgt := 19) (by decide) (fun h7 => ?_) (fun h7 => ?_)
              · skip
                refine lv_iinc (nL := 2) (k := 0) (v := 7) (lv' := [(1, .int (7)), (0, .ref (ad 5))]) hx hb d_bl_leastFree_19 hl rfl (by decide) (by decide) rfl (fun ls hl => ?_)
                refine lv_goto hx hb d_bl_leastFree_22 (tgt := 2) (by decide) ?_
                refine lv_iload_n hx hb d_bl_leastFree_2 rfl (lv_at hl 0 rfl) ?_
                refine lv_bipush (v := 8) hx hb d_bl_leastFree_3 (by decide) ?_
                refine lv_icmp_ge hx hb d_bl_leastFree_5 (tgt := 25) (by decide) (fun z => absurd z (by decide)) (fun _ => ?_)
                refine lv_aload_n hx hb d_bl_leastFree_8 rfl (lv_at hl 1 rfl) ?_
                refine va_get (D := D) (ci := 2) (v := .ref (ad 12)) (C := "MeasuredStages$Blobs") (T := F_bl) (N := 3) hx hb hts (fun w h => List.mem_cons_of_mem _ (i_bl w h)) hown hK hP 5 rfl rfl 0 (by decide) (hT _ tb_56) (fun _ h9 => h9) rfl d_bl_leastFree_9 ?_
                refine lv_iload_n hx hb d_bl_leastFree_12 rfl (lv_at hl 0 rfl) ?_
                refine va_iald hx hb hK hP 12 9 rfl rfl (by unfold vp_in; decide) d_bl_leastFree_13 ?_
                refine lv_if_ne hx hb d_bl_leastFree_14 (tgt := 19) (by decide) (fun h8 => ?_) (fun h8 => ?_)
                · skip
                  refine lv_iinc (nL := 2) (k := 0) (v := 8) (lv' := [(1, .int (8)), (0, .ref (ad 5))]) hx hb d_bl_leastFree_19 hl rfl (by decide) (by decide) rfl (fun ls hl => ?_)
                  refine lv_goto hx hb d_bl_leastFree_22 (tgt := 2) (by decide) ?_
                  refine lv_iload_n hx hb d_bl_leastFree_2 rfl (lv_at hl 0 rfl) ?_
                  refine lv_bipush (v := 8) hx hb d_bl_leastFree_3 (by decide) ?_
                  refine lv_icmp_ge hx hb d_bl_leastFree_5 (tgt := 25) (by decide) (fun _ => ?_) (fun z => absurd (by decide) z)
                  refine lv_iconst (v := (-1)) hx hb d_bl_leastFree_25 (by decide) ?_
                  exact W.iret (v := (-1)) hx hb hret (fun t ht hW => ⟨_, rfl, by show _ = sp_lf _; unfold sp_lf; rw [if_neg (show ¬ sg_ma u 0 = 0 from h1), if_neg (show ¬ sg_ma u 1 = 0 from h2), if_neg (show ¬ sg_ma u 2 = 0 from h3), if_neg (show ¬ sg_ma u 3 = 0 from h4), if_neg (show ¬ sg_ma u 4 = 0 from h5), if_neg (show ¬ sg_ma u 5 = 0 from h6), if_neg (show ¬ sg_ma u 6 = 0 from h7), if_neg (show ¬ sg_ma u 7 = 0 from h8)], ht⟩) (fun q h => by cases h) d_bl_leastFree_26
                · skip
                  refine lv_iload_n hx hb d_bl_leastFree_17 rfl (lv_at hl 0 rfl) ?_
                  exact W.iret (v := 7) hx hb hret (fun t ht hW => ⟨_, rfl, by show _ = sp_lf _; unfold sp_lf; rw [if_neg (show ¬ sg_ma u 0 = 0 from h1), if_neg (show ¬ sg_ma u 1 = 0 from h2), if_neg (show ¬ sg_ma u 2 = 0 from h3), if_neg (show ¬ sg_ma u 3 = 0 from h4), if_neg (show ¬ sg_ma u 4 = 0 from h5), if_neg (show ¬ sg_ma u 5 = 0 from h6), if_neg (show ¬ sg_ma u 6 = 0 from h7), if_pos (show sg_ma u 7 = 0 from h8)], ht⟩) (fun q h => by cases h) d_bl_leastFree_18
              · skip
                refine lv_iload_n hx hb d_bl_leastFree_17 rfl (lv_at hl 0 rfl) ?_
                exact W.iret (v := 6) hx hb hret (fun t ht hW => ⟨_, rfl, by show _ = sp_lf _; unfold sp_lf; rw [if_neg (show ¬ sg_ma u 0 = 0 from h1), if_neg (show ¬ sg_ma u 1 = 0 from h2), if_neg (show ¬ sg_ma u 2 = 0 from h3), if_neg (show ¬ sg_ma u 3 = 0 from h4), if_neg (show ¬ sg_ma u 4 = 0 from h5), if_neg (show ¬ sg_ma u 5 = 0 from h6), if_pos (show sg_ma u 6 = 0 from h7)], ht⟩) (fun q h => by cases h) d_bl_leastFree_18
            · skip
              refine lv_iload_n hx hb d_bl_leastFree_17 rfl (lv_at hl 0 rfl) ?_
              exact W.iret (v := 5) hx hb hret (fun t ht hW => ⟨_, rfl, by show _ = sp_lf _; unfold sp_lf; rw [if_neg (show ¬ sg_ma u 0 = 0 from h1), if_neg (show ¬ sg_ma u 1 = 0 from h2), if_neg (show ¬ sg_ma u 2 = 0 from h3), if_neg (show ¬ sg_ma u 3 = 0 from h4), if_neg (show ¬ sg_ma u 4 = 0 from h5), if_pos (show sg_ma u 5 = 0 from h6)], ht⟩) (fun q h => by cases h) d_bl_leastFree_18
          · skip
            refine lv_iload_n hx hb d_bl_leastFree_17 rfl (lv_at hl 0 rfl) ?_
            exact W.iret (v := 4) hx hb hret (fun t ht hW => ⟨_, rfl, by show _ = sp_lf _; unfold sp_lf; rw [if_neg (show ¬ sg_ma u 0 = 0 from h1), if_neg (show ¬ sg_ma u 1 = 0 from h2), if_neg (show ¬ sg_ma u 2 = 0 from h3), if_neg (show ¬ sg_ma u 3 = 0 from h4), if_pos (show sg_ma u 4 = 0 from h5)], ht⟩) (fun q h => by cases h) d_bl_leastFree_18
        · skip
          refine lv_iload_n hx hb d_bl_leastFree_17 rfl (lv_at hl 0 rfl) ?_
          exact W.iret (v := 3) hx hb hret (fun t ht hW => ⟨_, rfl, by show _ = sp_lf _; unfold sp_lf; rw [if_neg (show ¬ sg_ma u 0 = 0 from h1), if_neg (show ¬ sg_ma u 1 = 0 from h2), if_neg (show ¬ sg_ma u 2 = 0 from h3), if_pos (show sg_ma u 3 = 0 from h4)], ht⟩) (fun q h => by cases h) d_bl_leastFree_18
      · skip
        refine lv_iload_n hx hb d_bl_leastFree_17 rfl (lv_at hl 0 rfl) ?_
        exact W.iret (v := 2) hx hb hret (fun t ht hW => ⟨_, rfl, by show _ = sp_lf _; unfold sp_lf; rw [if_neg (show ¬ sg_ma u 0 = 0 from h1), if_neg (show ¬ sg_ma u 1 = 0 from h2), if_pos (show sg_ma u 2 = 0 from h3)], ht⟩) (fun q h => by cases h) d_bl_leastFree_18
    · skip
      refine lv_iload_n hx hb d_bl_leastFree_17 rfl (lv_at hl 0 rfl) ?_
      exact W.iret (v := 1) hx hb hret (fun t ht hW => ⟨_, rfl, by show _ = sp_lf _; unfold sp_lf; rw [if_neg (show ¬ sg_ma u 0 = 0 from h1), if_pos (show sg_ma u 1 = 0 from h2)], ht⟩) (fun q h => by cases h) d_bl_leastFree_18
  · skip
    refine lv_iload_n hx hb d_bl_leastFree_17 rfl (lv_at hl 0 rfl) ?_
    exact W.iret (v := 0) hx hb hret (fun t ht hW => ⟨_, rfl, by show _ = sp_lf _; unfold sp_lf; rw [if_pos (show sg_ma u 0 = 0 from h1)], ht⟩) (fun q h => by cases h) d_bl_leastFree_18
set_option maxHeartbeats 4000000 in
set_option maxRecDepth 100000 in
theorem c_rg_hasEvent (l : Launch) (D : va_G) (cs : Nat → ClassId) (ad : Nat → Nat) (sz : Nat) (u : Sg) (j : Jx) (k : Int32)  : Met l y_rg_hasEvent (Cond.code y_rg_hasEvent b_rg_hasEvent 2 (some .boolean) :: TB) { frames := 0, cells := 0, slots := 0, locals := 0 } (va_Pc [.ref (ad 4), .int k] (xw_Pre D cs ad u j sz)) (vp_Si (fun r => r = sp_rg k (sg_en u))) 0 0 (fun _ => False) := by
  refine Met.ofW (cc := b_rg_hasEvent) (maxL := 2) (ret := (some .boolean)) (by decide) rfl ?_
  intro p e s m args below meth c s₁ B hml hv
  obtain ⟨rfl, hsz, hP, hK, hD, hN⟩ := hv
  have hx := B.exec
  have hb := B.bytes
  have hret := B.returns
  have hts := atoms_spec (ws := Cond.code y_rg_hasEvent b_rg_hasEvent 2 (some .boolean) :: TB) B.pre
  have hT : ∀ w ∈ TB, w.before _ s = true := fun w h => hts w (List.mem_cons_of_mem _ h)
  have hown : s.vm.findClass "MeasuredStages$Registers" = some m.cls := findClass_of_methodNamed B.named
  have hlocks := B.notSynchronized
  subst hsz
  have hl := lv_entry ([.ref (ad 4), .int k]) (n := 2) (Nat.le_of_ble_eq_true rfl)
  rw [lg_entry_eq]
  generalize (lg_sl ([.ref (ad 4), .int k]) ++ List.replicate (2 - (lg_sl ([.ref (ad 4), .int k])).length) Slot.unset).toArray = ls at hl ⊢
  have hl : lv_has ls 2 [(0, .ref (ad 4)), (1, .int k)] := hl
  refine lv_iload_n hx hb d_rg_hasEvent_0 rfl (lv_at hl 1 rfl) ?_
  refine lv_if_lt hx hb d_rg_hasEvent_1 (tgt := 16) (by decide) (fun h1 => ?_) (fun h1 => ?_)
  · skip
    refine lv_iconst (v := 0) hx hb d_rg_hasEvent_16 (by decide) ?_
    exact W.zret (v := 0) hx hb hret rfl (fun t ht hW => ⟨_, rfl, by simp [sp_rg, h1], ht⟩) (fun q h => by cases h) d_rg_hasEvent_17
  · skip
    refine lv_iload_n hx hb d_rg_hasEvent_4 rfl (lv_at hl 1 rfl) ?_
    refine lv_aload_n hx hb d_rg_hasEvent_5 rfl (lv_at hl 0 rfl) ?_
    refine va_get (D := D) (ci := 1) (v := .int (sg_en u)) (C := "MeasuredStages$Registers") (T := F_rg) (N := 5) hx hb hts (fun w h => List.mem_cons_of_mem _ (i_rg w h)) hown hK hP 4 rfl rfl 3 (by decide) (hT _ tb_33) (fun _ h9 => h9) rfl d_rg_hasEvent_6 ?_
    refine lv_icmp_ge hx hb d_rg_hasEvent_9 (tgt := 16) (by decide) (fun h2 => ?_) (fun h2 => ?_)
    · skip
      refine lv_iconst (v := 0) hx hb d_rg_hasEvent_16 (by decide) ?_
      exact W.zret (v := 0) hx hb hret rfl (fun t ht hW => ⟨_, rfl, by simp [sp_rg, h1, h2], ht⟩) (fun q h => by cases h) d_rg_hasEvent_17
    · skip
      refine lv_iconst (v := 1) hx hb d_rg_hasEvent_12 (by decide) ?_
      refine lv_goto hx hb d_rg_hasEvent_13 (tgt := 17) (by decide) ?_
      exact W.zret (v := 1) hx hb hret rfl (fun t ht hW => ⟨_, rfl, by simp [sp_rg, h1, h2], ht⟩) (fun q h => by cases h) d_rg_hasEvent_17
set_option maxHeartbeats 4000000 in
set_option maxRecDepth 100000 in
theorem c_rg_policyOf (l : Launch) (D : va_G) (cs : Nat → ClassId) (ad : Nat → Nat) (sz : Nat) (u : Sg) (j : Jx) (mask : Int32)  : Met l y_rg_policyOf (Cond.code y_rg_policyOf b_rg_policyOf 5 (some .long) :: TB) { frames := 1, cells := 0, slots := 0, locals := 25 } (va_Pc [.ref (ad 4), .int mask] (xw_Pre D cs ad u j sz)) (vp_Sl (fun r => r = sp_po u mask)) 0 0 (fun _ => False) := by
  refine Met.ofW (cc := b_rg_policyOf) (maxL := 5) (ret := (some .long)) (by decide) rfl ?_
  intro p e s m args below meth c s₁ B hml hv
  obtain ⟨rfl, hsz, hP, hK, hD, hN⟩ := hv
  have hx := B.exec
  have hb := B.bytes
  have hret := B.returns
  have hts := atoms_spec (ws := Cond.code y_rg_policyOf b_rg_policyOf 5 (some .long) :: TB) B.pre
  have hT : ∀ w ∈ TB, w.before _ s = true := fun w h => hts w (List.mem_cons_of_mem _ h)
  have hown : s.vm.findClass "MeasuredStages$Registers" = some m.cls := findClass_of_methodNamed B.named
  have hlocks := B.notSynchronized
  subst hsz
  have hl := lv_entry ([.ref (ad 4), .int mask]) (n := 5) (Nat.le_of_ble_eq_true rfl)
  rw [lg_entry_eq]
  generalize (lg_sl ([.ref (ad 4), .int mask]) ++ List.replicate (5 - (lg_sl ([.ref (ad 4), .int mask])).length) Slot.unset).toArray = ls at hl ⊢
  have hl : lv_has ls 5 [(0, .ref (ad 4)), (1, .int mask)] := hl
  refine lv_ldc2 (v := 9) hx hb hown (hT _ tb_304) d_rg_policyOf_0 ?_
  refine lv_iload_n hx hb d_rg_policyOf_3 rfl (lv_at hl 1 rfl) ?_
  refine lv_i2l hx hb d_rg_policyOf_4 rfl ?_
  refine sn_l (v := sp_h (9) (mask.toInt64)) (As := [.long (9), .long (mask.toInt64)]) (rest := []) ⟨hx, hb, hml, hown, hts⟩ (c_ms_hash l 9 (mask.toInt64)) hN tb_138 tb_1 tb_139 hd_ms_hash ⟨Nat.le_of_ble_eq_true rfl, Nat.le_of_ble_eq_true rfl⟩ rfl rfl hl.1 rfl (Nat.le_of_ble_eq_true rfl) d_rg_policyOf_5 ⟨Nat.zero_le _, Nat.zero_le _⟩ ?_
  refine lv_lstore_n (nL := 5) (lv' := [(2, .long (sp_h (9) (mask.toInt64))), (0, .ref (ad 4)), (1, .int mask)]) hx hb d_rg_policyOf_8 rfl hl (by decide) rfl (fun ls hl => ?_)
  refine lv_iconst (v := 0) hx hb d_rg_policyOf_9 (by decide) ?_
  refine lv_istore (nL := 5) (lv' := [(4, .int (0)), (2, .long (sp_h (9) (mask.toInt64))), (0, .ref (ad 4)), (1, .int mask)]) hx hb d_rg_policyOf_10 hl (by decide) rfl (fun ls hl => ?_)
  refine wl_up (α := Unit) 6 (fun r H1 L1 ls _ => H1 = s.heap ∧ L1 = [] ∧ lv_has ls 5 [(4, .int (nI r)), (2, .long (sp_pl (sg_he u) mask r)), (0, .ref (ad 4)), (1, .int mask)]) 12 ?_ ?_ 0 _ _ ls () (Nat.zero_le _) ⟨rfl, rfl, lv_sub hl [0, 1, 2, 3] rfl⟩
  · intro H1 L1 ls _ hI
    obtain ⟨rfl, rfl, hl⟩ := hI
    refine lv_iload hx hb d_rg_policyOf_12 (lv_at hl 0 rfl) ?_
    refine lv_bipush (v := 6) hx hb d_rg_policyOf_14 (by decide) ?_
    refine lv_icmp_ge hx hb d_rg_policyOf_16 (tgt := 47) (by decide) (fun _ => ?_) (fun z => absurd (by decide) z)
    refine lv_lload_n hx hb d_rg_policyOf_47 rfl (lv_at hl 1 rfl) ?_
    exact W.lret (v := sp_pl (sg_he u) mask (6)) hx hb hret (fun t ht hW => ⟨_, rfl, rfl, ht⟩) (fun q h => by cases h) d_rg_policyOf_48
  · intro r H1 L1 ls _ hr hI ih
    obtain ⟨rfl, rfl, hl⟩ := hI
    refine lv_iload hx hb d_rg_policyOf_12 (lv_at hl 0 rfl) ?_
    refine lv_bipush (v := 6) hx hb d_rg_policyOf_14 (by decide) ?_
    refine lv_icmp_ge hx hb d_rg_policyOf_16 (tgt := 47) (by decide) (fun z => absurd z (nI_ge hr (by decide))) (fun _ => ?_)
    refine lv_iload_n hx hb d_rg_policyOf_19 rfl (lv_at hl 3 rfl) ?_
    refine lv_iload hx hb d_rg_policyOf_20 (lv_at hl 0 rfl) ?_
    refine lv_ishr hx hb d_rg_policyOf_22 ?_
    refine lv_iconst (v := 1) hx hb d_rg_policyOf_23 (by decide) ?_
    refine lv_iand hx hb d_rg_policyOf_24 ?_
    refine lv_iconst (v := 1) hx hb d_rg_policyOf_25 (by decide) ?_
    refine lv_icmp_ne hx hb d_rg_policyOf_26 (tgt := 41) (by decide) (fun h1 => ?_) (fun h1 => ?_)
    · skip
      refine lv_iinc (nL := 5) (k := 0) (v := nI (r + 1)) (lv' := [(4, .int (nI (r + 1))), (2, .long (sp_pl (sg_he u) mask r)), (0, .ref (ad 4)), (1, .int mask)]) hx hb d_rg_policyOf_41 hl rfl ((nI_succ r).symm) (by decide) rfl (fun ls hl => ?_)
      refine lv_goto hx hb d_rg_policyOf_44 (tgt := 12) (by decide) ?_
      have e9 : sp_pl (sg_he u) mask (r + 1) = sp_pl (sg_he u) mask r := by
        show (if _ then _ else _) = _
        rw [if_neg h1]
      rw [← e9] at hl
      exact ih _ _ ls () ⟨rfl, rfl, lv_sub hl [0, 1, 2, 3] rfl⟩
    · skip
      refine lv_lload_n hx hb d_rg_policyOf_29 rfl (lv_at hl 1 rfl) ?_
      refine lv_aload_n hx hb d_rg_policyOf_30 rfl (lv_at hl 2 rfl) ?_
      refine va_get (D := D) (ci := 1) (v := .ref (ad 8)) (C := "MeasuredStages$Registers") (T := F_rg) (N := 5) hx hb hts (fun w h => List.mem_cons_of_mem _ (i_rg w h)) hown hK hP 4 rfl rfl 0 (by decide) (hT _ tb_27) (fun _ h9 => h9) rfl d_rg_policyOf_31 ?_
      refine lv_iload hx hb d_rg_policyOf_34 (lv_at hl 0 rfl) ?_
      refine va_lald hx hb hK hP 8 5 rfl rfl (vp_in_nI hr (by decide)) d_rg_policyOf_36 ?_
      refine sn_l (v := sp_h (sp_pl (sg_he u) mask r) (sg_he u (nI r).toNatClampNeg)) (As := [.long (sp_pl (sg_he u) mask r), .long (sg_he u (nI r).toNatClampNeg)]) (rest := []) ⟨hx, hb, hml, hown, hts⟩ (c_ms_hash l (sp_pl (sg_he u) mask r) (sg_he u (nI r).toNatClampNeg)) hN tb_138 tb_1 tb_139 hd_ms_hash ⟨Nat.le_of_ble_eq_true rfl, Nat.le_of_ble_eq_true rfl⟩ rfl rfl hl.1 rfl (Nat.le_of_ble_eq_true rfl) d_rg_policyOf_37 ⟨Nat.zero_le _, Nat.zero_le _⟩ ?_
      refine lv_lstore_n (nL := 5) (lv' := [(2, .long (sp_h (sp_pl (sg_he u) mask r) (sg_he u (nI r).toNatClampNeg))), (4, .int (nI r)), (0, .ref (ad 4)), (1, .int mask)]) hx hb d_rg_policyOf_40 rfl hl (by decide) rfl (fun ls hl => ?_)
      refine lv_iinc (nL := 5) (k := 1) (v := nI (r + 1)) (lv' := [(4, .int (nI (r + 1))), (2, .long (sp_h (sp_pl (sg_he u) mask r) (sg_he u (nI r).toNatClampNeg))), (0, .ref (ad 4)), (1, .int mask)]) hx hb d_rg_policyOf_41 hl rfl ((nI_succ r).symm) (by decide) rfl (fun ls hl => ?_)
      refine lv_goto hx hb d_rg_policyOf_44 (tgt := 12) (by decide) ?_
      have e9 : sp_pl (sg_he u) mask (r + 1) = sp_h (sp_pl (sg_he u) mask r) (sg_he u (nI r).toNatClampNeg) := by
        show (if _ then _ else _) = _
        rw [if_pos h1, nI_clamp (by omega)]
      rw [← e9] at hl
      exact ih _ _ ls () ⟨rfl, rfl, lv_sub hl [0, 1, 2, 3] rfl⟩
set_option maxHeartbeats 4000000 in
set_option maxRecDepth 100000 in
theorem c_ms_digestOf (l : Launch) (D : va_G) (cs : Nat → ClassId) (ad : Nat → Nat) (sz : Nat) (u : Sg) (j : Jx) (n : Int32) (hn : vp_in n 8) : Met l y_ms_digestOf (Cond.code y_ms_digestOf b_ms_digestOf 2 (some .long) :: TB) { frames := 1, cells := 0, slots := 0, locals := 25 } (va_Pc [.ref (ad 0), .int n] (xw_Pre D cs ad u j sz)) (vp_Sl (fun r => r = sp_di u n)) 0 0 (fun _ => False) := by
  refine Met.ofW (cc := b_ms_digestOf) (maxL := 2) (ret := (some .long)) (by decide) rfl ?_
  intro p e s m args below meth c s₁ B hml hv
  obtain ⟨rfl, hsz, hP, hK, hD, hN⟩ := hv
  have hx := B.exec
  have hb := B.bytes
  have hret := B.returns
  have hts := atoms_spec (ws := Cond.code y_ms_digestOf b_ms_digestOf 2 (some .long) :: TB) B.pre
  have hT : ∀ w ∈ TB, w.before _ s = true := fun w h => hts w (List.mem_cons_of_mem _ h)
  have hown : s.vm.findClass "MeasuredStages" = some m.cls := findClass_of_methodNamed B.named
  have hlocks := B.notSynchronized
  subst hsz
  have hl := lv_entry ([.ref (ad 0), .int n]) (n := 2) (Nat.le_of_ble_eq_true rfl)
  rw [lg_entry_eq]
  generalize (lg_sl ([.ref (ad 0), .int n]) ++ List.replicate (2 - (lg_sl ([.ref (ad 0), .int n])).length) Slot.unset).toArray = ls at hl ⊢
  have hl : lv_has ls 2 [(0, .ref (ad 0)), (1, .int n)] := hl
  refine lv_ldc2 (v := 5) hx hb hown (hT _ tb_234) d_ms_digestOf_0 ?_
  refine lv_aload_n hx hb d_ms_digestOf_3 rfl (lv_at hl 0 rfl) ?_
  refine va_get (D := D) (ci := 0) (v := .ref (ad 1)) (C := "MeasuredStages") (T := F_ms) (N := 12) hx hb hts (fun w h => List.mem_cons_of_mem _ (i_ms w h)) hown hK hP 0 rfl rfl 0 (by decide) (hT _ tb_69) (fun _ h9 => h9) rfl d_ms_digestOf_4 ?_
  refine lv_iload_n hx hb d_ms_digestOf_7 rfl (lv_at hl 1 rfl) ?_
  refine va_lald hx hb hK hP 1 0 rfl rfl hn d_ms_digestOf_8 ?_
  refine st_l (v := sp_h (5) (sg_im u n.toNatClampNeg)) (As := [.long (5), .long (sg_im u n.toNatClampNeg)]) (rest := []) ⟨hx, hb, hml, hown, hts⟩ (c_ms_hash l 5 (sg_im u n.toNatClampNeg)) tb_235 tb_138 tb_1 tb_139 hd_ms_hash ⟨Nat.le_of_ble_eq_true rfl, Nat.le_of_ble_eq_true rfl⟩ rfl rfl hl.1 rfl (Nat.le_of_ble_eq_true rfl) d_ms_digestOf_9 ⟨Nat.zero_le _, Nat.zero_le _⟩ ?_
  exact W.lret (v := sp_h (5) (sg_im u n.toNatClampNeg)) hx hb hret (fun t ht hW => ⟨_, rfl, rfl, ht⟩) (fun q h => by cases h) d_ms_digestOf_12
