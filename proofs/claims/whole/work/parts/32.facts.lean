section S32
variable {s : State} {b : Nat}
theorem st_at (hts : ∀ w ∈ lw_tbl, w.before #[Value.ref b] s = true) {w : Cond} (i : Nat) (h : tables_1[i]? = some w) : w.before #[Value.ref b] s = true := hts w (List.mem_append_right _ (List.mem_of_getElem? h))
theorem st_T (hts : ∀ w ∈ lw_tbl, w.before #[Value.ref b] s = true) : ∀ w ∈ TB, w.before #[Value.ref b] s = true := fun w h => hts w (List.mem_filter.mp h).1
theorem st_N (hts : ∀ w ∈ lw_tbl, w.before #[Value.ref b] s = true) : xw_N s := va_Nw.of rfl (st_at hts 137 (by decide +kernel))
theorem st_cN (hts : ∀ w ∈ lw_tbl, w.before #[Value.ref b] s = true) : cN s := ⟨va_Nw.of rfl (st_at hts 23 (by decide +kernel)), va_Nw.of rfl (st_at hts 52 (by decide +kernel))⟩
theorem st_S {tx : String} {i : Nat} {c : ClassId} (hc : s.vm.findClass "MeasuredStages" = some c) (h : (Cond.stringRef "MeasuredStages" i tx).before #[Value.ref b] s = true) : ∃ a : Nat, vk_R "MeasuredStages" i tx a s := by
  obtain ⟨-, -, -, a, -, -, -, -, -, hev⟩ := Cond.stringRef_spec hc h
  exact ⟨a, vk_R.of h hev⟩
theorem st_Z (hts : ∀ w ∈ lw_tbl, w.before #[Value.ref b] s = true) (hgv : (Jvm.Cond.and given_1 narrow_1).before #[Value.ref b] s = true) {c : ClassId} (hc : s.vm.findClass "MeasuredStages" = some c) {A : Nat → Prop} (hA : ∀ a : Nat, a < s.heap.size → ¬ A a) : xTA A s s.heap := by
  have hs := flat_of_before _ hgv
  exact ⟨vx_Zqof (st_at hts 181 (by decide +kernel)) (st_T hts _ tb_5) (hs _ (by decide +kernel)) hA, vx_Zqof (st_at hts 183 (by decide +kernel)) (st_T hts _ tb_5) (hs _ (by decide +kernel)) hA, va_Nw.of rfl (st_at hts 158 (by decide +kernel)), va_Nw.of rfl (st_at hts 160 (by decide +kernel)), va_Nw.of rfl (st_at hts 162 (by decide +kernel)), st_S hc (st_at hts 196 (by decide +kernel)), st_S hc (st_at hts 330 (by decide +kernel)), st_S hc (st_at hts 357 (by decide +kernel)), st_S hc (st_at hts 371 (by decide +kernel)), st_S hc (st_at hts 393 (by decide +kernel)), st_S hc (st_at hts 424 (by decide +kernel)), st_S hc (st_at hts 425 (by decide +kernel)), st_S hc (st_at hts 433 (by decide +kernel)), st_S hc (st_at hts 434 (by decide +kernel))⟩
theorem st_C (hgv : (Jvm.Cond.and given_1 narrow_1).before #[Value.ref b] s = true) : xC s := by
  have hs := flat_of_before _ hgv
  exact ⟨va_Nc.of (hs _ (by decide +kernel)), va_Nc.of (hs _ (by decide +kernel)), va_Nc.of (hs _ (by decide +kernel))⟩
theorem st_K (hts : ∀ w ∈ lw_tbl, w.before #[Value.ref b] s = true) : ∃ D : va_G, va_K D cx [] s ∧ ∃ c : ClassId, s.vm.findClass "MeasuredStages" = some c := by
  have hT := st_T hts
  obtain ⟨c0, i0, k0⟩ := u_known hT i_ms (hT _ tb_14)
  obtain ⟨c1, i1, k1⟩ := u_known hT i_rg (hT _ tb_22)
  obtain ⟨c2, i2, k2⟩ := u_known hT i_bl (hT _ tb_51)
  obtain ⟨c3, i3, k3⟩ := u_known hT i_md (hT _ tb_454)
  refine ⟨(fun n => match n with | 0 => c0 | 1 => c1 | 2 => c2 | _ => c3, fun n => match n with | 0 => i0 | 1 => i1 | 2 => i2 | _ => i3), ⟨fun c q hq => ?_, fun k q hq => by cases hq⟩, c0, k0.2.1⟩
  match c, hq with
  | 0, hq => cases hq; exact k0
  | 1, hq => cases hq; exact k1
  | 2, hq => cases hq; exact k2
  | 3, hq => cases hq; exact k3
  | n + 4, hq => cases hq
end S32
