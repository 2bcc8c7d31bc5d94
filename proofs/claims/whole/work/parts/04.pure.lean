/-! the machine of the document, as numbers: im images, ap approved, ag approved digests, he registers, er ev en the log, ma po se the blobs, ac acc, fa fault, la launched, st steps -/
abbrev Sg : Type := (Nat → Int64) × (Nat → Int32) × (Nat → Int64) × (Nat → Int64) × (Nat → Int32) × (Nat → Int64) × Int32 × (Nat → Int32) × (Nat → Int64) × (Nat → Int64) × Int64 × Int32 × Int32 × Int32
def sg_im (u : Sg) : Nat → Int64 := u.1
def sg_ap (u : Sg) : Nat → Int32 := u.2.1
def sg_ag (u : Sg) : Nat → Int64 := u.2.2.1
def sg_he (u : Sg) : Nat → Int64 := u.2.2.2.1
def sg_er (u : Sg) : Nat → Int32 := u.2.2.2.2.1
def sg_ev (u : Sg) : Nat → Int64 := u.2.2.2.2.2.1
def sg_en (u : Sg) : Int32 := u.2.2.2.2.2.2.1
def sg_ma (u : Sg) : Nat → Int32 := u.2.2.2.2.2.2.2.1
def sg_po (u : Sg) : Nat → Int64 := u.2.2.2.2.2.2.2.2.1
def sg_se (u : Sg) : Nat → Int64 := u.2.2.2.2.2.2.2.2.2.1
def sg_ac (u : Sg) : Int64 := u.2.2.2.2.2.2.2.2.2.2.1
def sg_fa (u : Sg) : Int32 := u.2.2.2.2.2.2.2.2.2.2.2.1
def sg_la (u : Sg) : Int32 := u.2.2.2.2.2.2.2.2.2.2.2.2.1
def sg_st (u : Sg) : Int32 := u.2.2.2.2.2.2.2.2.2.2.2.2.2
def ss_im (u : Sg) (x : Nat → Int64) : Sg := (x, u.2.1, u.2.2.1, u.2.2.2.1, u.2.2.2.2.1, u.2.2.2.2.2.1, u.2.2.2.2.2.2.1, u.2.2.2.2.2.2.2.1, u.2.2.2.2.2.2.2.2.1, u.2.2.2.2.2.2.2.2.2.1, u.2.2.2.2.2.2.2.2.2.2.1, u.2.2.2.2.2.2.2.2.2.2.2.1, u.2.2.2.2.2.2.2.2.2.2.2.2.1, u.2.2.2.2.2.2.2.2.2.2.2.2.2)
def ss_ap (u : Sg) (x : Nat → Int32) : Sg := (u.1, x, u.2.2.1, u.2.2.2.1, u.2.2.2.2.1, u.2.2.2.2.2.1, u.2.2.2.2.2.2.1, u.2.2.2.2.2.2.2.1, u.2.2.2.2.2.2.2.2.1, u.2.2.2.2.2.2.2.2.2.1, u.2.2.2.2.2.2.2.2.2.2.1, u.2.2.2.2.2.2.2.2.2.2.2.1, u.2.2.2.2.2.2.2.2.2.2.2.2.1, u.2.2.2.2.2.2.2.2.2.2.2.2.2)
def ss_ag (u : Sg) (x : Nat → Int64) : Sg := (u.1, u.2.1, x, u.2.2.2.1, u.2.2.2.2.1, u.2.2.2.2.2.1, u.2.2.2.2.2.2.1, u.2.2.2.2.2.2.2.1, u.2.2.2.2.2.2.2.2.1, u.2.2.2.2.2.2.2.2.2.1, u.2.2.2.2.2.2.2.2.2.2.1, u.2.2.2.2.2.2.2.2.2.2.2.1, u.2.2.2.2.2.2.2.2.2.2.2.2.1, u.2.2.2.2.2.2.2.2.2.2.2.2.2)
def ss_he (u : Sg) (x : Nat → Int64) : Sg := (u.1, u.2.1, u.2.2.1, x, u.2.2.2.2.1, u.2.2.2.2.2.1, u.2.2.2.2.2.2.1, u.2.2.2.2.2.2.2.1, u.2.2.2.2.2.2.2.2.1, u.2.2.2.2.2.2.2.2.2.1, u.2.2.2.2.2.2.2.2.2.2.1, u.2.2.2.2.2.2.2.2.2.2.2.1, u.2.2.2.2.2.2.2.2.2.2.2.2.1, u.2.2.2.2.2.2.2.2.2.2.2.2.2)
def ss_er (u : Sg) (x : Nat → Int32) : Sg := (u.1, u.2.1, u.2.2.1, u.2.2.2.1, x, u.2.2.2.2.2.1, u.2.2.2.2.2.2.1, u.2.2.2.2.2.2.2.1, u.2.2.2.2.2.2.2.2.1, u.2.2.2.2.2.2.2.2.2.1, u.2.2.2.2.2.2.2.2.2.2.1, u.2.2.2.2.2.2.2.2.2.2.2.1, u.2.2.2.2.2.2.2.2.2.2.2.2.1, u.2.2.2.2.2.2.2.2.2.2.2.2.2)
def ss_ev (u : Sg) (x : Nat → Int64) : Sg := (u.1, u.2.1, u.2.2.1, u.2.2.2.1, u.2.2.2.2.1, x, u.2.2.2.2.2.2.1, u.2.2.2.2.2.2.2.1, u.2.2.2.2.2.2.2.2.1, u.2.2.2.2.2.2.2.2.2.1, u.2.2.2.2.2.2.2.2.2.2.1, u.2.2.2.2.2.2.2.2.2.2.2.1, u.2.2.2.2.2.2.2.2.2.2.2.2.1, u.2.2.2.2.2.2.2.2.2.2.2.2.2)
def ss_en (u : Sg) (x : Int32) : Sg := (u.1, u.2.1, u.2.2.1, u.2.2.2.1, u.2.2.2.2.1, u.2.2.2.2.2.1, x, u.2.2.2.2.2.2.2.1, u.2.2.2.2.2.2.2.2.1, u.2.2.2.2.2.2.2.2.2.1, u.2.2.2.2.2.2.2.2.2.2.1, u.2.2.2.2.2.2.2.2.2.2.2.1, u.2.2.2.2.2.2.2.2.2.2.2.2.1, u.2.2.2.2.2.2.2.2.2.2.2.2.2)
def ss_ma (u : Sg) (x : Nat → Int32) : Sg := (u.1, u.2.1, u.2.2.1, u.2.2.2.1, u.2.2.2.2.1, u.2.2.2.2.2.1, u.2.2.2.2.2.2.1, x, u.2.2.2.2.2.2.2.2.1, u.2.2.2.2.2.2.2.2.2.1, u.2.2.2.2.2.2.2.2.2.2.1, u.2.2.2.2.2.2.2.2.2.2.2.1, u.2.2.2.2.2.2.2.2.2.2.2.2.1, u.2.2.2.2.2.2.2.2.2.2.2.2.2)
def ss_po (u : Sg) (x : Nat → Int64) : Sg := (u.1, u.2.1, u.2.2.1, u.2.2.2.1, u.2.2.2.2.1, u.2.2.2.2.2.1, u.2.2.2.2.2.2.1, u.2.2.2.2.2.2.2.1, x, u.2.2.2.2.2.2.2.2.2.1, u.2.2.2.2.2.2.2.2.2.2.1, u.2.2.2.2.2.2.2.2.2.2.2.1, u.2.2.2.2.2.2.2.2.2.2.2.2.1, u.2.2.2.2.2.2.2.2.2.2.2.2.2)
def ss_se (u : Sg) (x : Nat → Int64) : Sg := (u.1, u.2.1, u.2.2.1, u.2.2.2.1, u.2.2.2.2.1, u.2.2.2.2.2.1, u.2.2.2.2.2.2.1, u.2.2.2.2.2.2.2.1, u.2.2.2.2.2.2.2.2.1, x, u.2.2.2.2.2.2.2.2.2.2.1, u.2.2.2.2.2.2.2.2.2.2.2.1, u.2.2.2.2.2.2.2.2.2.2.2.2.1, u.2.2.2.2.2.2.2.2.2.2.2.2.2)
def ss_ac (u : Sg) (x : Int64) : Sg := (u.1, u.2.1, u.2.2.1, u.2.2.2.1, u.2.2.2.2.1, u.2.2.2.2.2.1, u.2.2.2.2.2.2.1, u.2.2.2.2.2.2.2.1, u.2.2.2.2.2.2.2.2.1, u.2.2.2.2.2.2.2.2.2.1, x, u.2.2.2.2.2.2.2.2.2.2.2.1, u.2.2.2.2.2.2.2.2.2.2.2.2.1, u.2.2.2.2.2.2.2.2.2.2.2.2.2)
def ss_fa (u : Sg) (x : Int32) : Sg := (u.1, u.2.1, u.2.2.1, u.2.2.2.1, u.2.2.2.2.1, u.2.2.2.2.2.1, u.2.2.2.2.2.2.1, u.2.2.2.2.2.2.2.1, u.2.2.2.2.2.2.2.2.1, u.2.2.2.2.2.2.2.2.2.1, u.2.2.2.2.2.2.2.2.2.2.1, x, u.2.2.2.2.2.2.2.2.2.2.2.2.1, u.2.2.2.2.2.2.2.2.2.2.2.2.2)
def ss_la (u : Sg) (x : Int32) : Sg := (u.1, u.2.1, u.2.2.1, u.2.2.2.1, u.2.2.2.2.1, u.2.2.2.2.2.1, u.2.2.2.2.2.2.1, u.2.2.2.2.2.2.2.1, u.2.2.2.2.2.2.2.2.1, u.2.2.2.2.2.2.2.2.2.1, u.2.2.2.2.2.2.2.2.2.2.1, u.2.2.2.2.2.2.2.2.2.2.2.1, x, u.2.2.2.2.2.2.2.2.2.2.2.2.2)
def ss_st (u : Sg) (x : Int32) : Sg := (u.1, u.2.1, u.2.2.1, u.2.2.2.1, u.2.2.2.2.1, u.2.2.2.2.2.1, u.2.2.2.2.2.2.1, u.2.2.2.2.2.2.2.1, u.2.2.2.2.2.2.2.2.1, u.2.2.2.2.2.2.2.2.2.1, u.2.2.2.2.2.2.2.2.2.2.1, u.2.2.2.2.2.2.2.2.2.2.2.1, u.2.2.2.2.2.2.2.2.2.2.2.2.1, x)
/-- x >>> k of a long by an int -/
def sp_sh (x : Int64) (k : Int32) : Int64 := (x.toUInt64 >>> (k.toInt64.toUInt64 &&& Int64.toUInt64 63)).toInt64
/-- H -/
def sp_h (a b : Int64) : Int64 := (fun x : Int64 => (fun y : Int64 => y ^^^ sp_sh y 29) ((x ^^^ sp_sh x 32) * 2862933555777941757)) ((a ^^^ 1442695040888963407) * 6364136223846793005 + b)
/-- the digit i of a code -/
def sp_dg (c : Int64) (i : Int32) : Int32 := if i < 16 then (sp_sh c (4 * i)).toInt32 &&& 15 else 0
/-- the rest of a division, as irem has it -/
def sp_rm (x y : Int32) : Int32 := x - x / y * y
/-- the digest of image n -/
def sp_di (u : Sg) (n : Int32) : Int64 := sp_h 5 (sg_im u n.toNatClampNeg)
/-- the policy of a mask over the registers 0 .. r-1 -/
def sp_pl (he : Nat → Int64) (mask : Int32) : Nat → Int64
  | 0 => sp_h 9 mask.toInt64
  | r + 1 => if (mask >>> (nI r &&& 31)) &&& 1 = 1 then sp_h (sp_pl he mask r) (he r) else sp_pl he mask r
def sp_po (u : Sg) (mask : Int32) : Int64 := sp_pl (sg_he u) mask 6
/-- register r is extended by v, and it's noted -/
def sp_no (u : Sg) (r : Int32) (v : Int64) : Sg :=
  ss_en (ss_ev (ss_er (ss_he u (vp_updL (sg_he u) r.toNatClampNeg (sp_h (sg_he u r.toNatClampNeg) v))) (upd (sg_er u) (sg_en u).toNatClampNeg r)) (vp_updL (sg_ev u) (sg_en u).toNatClampNeg v)) (sg_en u + 1)
/-- the least free blob, or -1 -/
def sp_lf (ma : Nat → Int32) : Int32 :=
  if ma 0 = 0 then 0 else if ma 1 = 0 then 1 else if ma 2 = 0 then 2 else if ma 3 = 0 then 3 else if ma 4 = 0 then 4 else if ma 5 = 0 then 5 else if ma 6 = 0 then 6 else if ma 7 = 0 then 7 else -1
/-- blob k is filled -/
def sp_fi (u : Sg) (k mask : Int32) (secret : Int64) : Sg :=
  ss_se (ss_po (ss_ma u (upd (sg_ma u) k.toNatClampNeg mask)) (vp_updL (sg_po u) k.toNatClampNeg (sp_po u mask))) (vp_updL (sg_se u) k.toNatClampNeg secret)
/-- six zeros -/
def sp_z6 (f : Nat → Int64) : Nat → Int64 := vp_updL (vp_updL (vp_updL (vp_updL (vp_updL (vp_updL f 0 0) 1 0) 2 0) 3 0) 4 0) 5 0
/-- the registers as the first k events of the log make them -/
def sp_ra (er : Nat → Int32) (ev : Nat → Int64) : Nat → Nat → Int64
  | 0 => fun _ => 0
  | k + 1 => vp_updL (sp_ra er ev k) (er k).toNatClampNeg (sp_h (sp_ra er ev k (er k).toNatClampNeg) (ev k))
/-- does the log make the registers? -/
def sp_re (u : Sg) : Int32 :=
  (fun f : Nat → Int64 => if f 0 = sg_he u 0 ∧ f 1 = sg_he u 1 ∧ f 2 = sg_he u 2 ∧ f 3 = sg_he u 3 ∧ f 4 = sg_he u 4 ∧ f 5 = sg_he u 5 then (1 : Int32) else 0) (sp_ra (sg_er u) (sg_ev u) (sg_en u).toNatClampNeg)
/-- what holds of the machine at every time -/
def sp_ok (u : Sg) : Prop := (∃ n : Nat, n ≤ 32 ∧ sg_en u = nI n) ∧ ∀ k : Nat, vp_in (sg_er u k) 6
/-- the machine that has just been made -/
def sp_0 : Sg := (fun _ => 0, fun _ => 0, fun _ => 0, fun _ => 0, fun _ => 0, fun _ => 0, 0, fun _ => 0, fun _ => 0, fun _ => 0, 0, 0, 0, 0)
theorem sp_ok0 : sp_ok sp_0 := ⟨⟨0, by decide, rfl⟩, fun _ => by show vp_in 0 6; rw [← nI_0]; exact vp_in_nI (by decide) (by decide)⟩
/-! the boot: the machine, the depth, at each depth the image that runs and the digit that it reads next -/
abbrev Bt : Type := Sg × Int32 × (Nat → Int32) × (Nat → Int32)
/-- image n is launched at depth d -/
def sp_la (b : Bt) (n d : Int32) : Bt :=
  ((fun v : Sg => ss_la v (sg_la v + 1)) (sp_no b.1 d (sp_di b.1 n)), d, upd b.2.2.1 d.toNatClampNeg n, upd b.2.2.2 d.toNatClampNeg 0)
/-- how many digits an instruction has behind its code -/
def sp_op (code : Int32) : Int32 := if code = 0 then 0 else if code = 2 then 2 else 1
/-- the fault of an instruction, or 0 -/
def sp_fo (u : Sg) (code x d : Int32) : Int32 :=
  if 8 < code then 1
  else if code = 1 ∧ d = 5 then 2
  else if code = 3 then (if sg_ap u (sp_rm x 8).toNatClampNeg = 0 then 5 else if sg_ag u (sp_rm x 8).toNatClampNeg = sp_di u (sp_rm x 8) then 0 else 5)
  else if code = 4 then (if sg_ma u (sp_rm x 8).toNatClampNeg = 0 then 6 else if sg_po u (sp_rm x 8).toNatClampNeg = sp_po u (sg_ma u (sp_rm x 8).toNatClampNeg) then 0 else 7)
  else if code = 8 then (if sp_lf (sg_ma u) < 0 then 8 else 0)
  else if (code = 1 ∨ code = 2 ∨ code = 6) ∧ sg_en u = 32 then 4 else 0
/-- what an instruction without a fault does; its digits are behind it -/
def sp_ac (b : Bt) (code x y d : Int32) : Bt :=
  if code = 0 then (b.1, d - 1, b.2.2.1, b.2.2.2)
  else if code = 1 then sp_la b (sp_rm x 8) (d + 1)
  else if code = 2 then (sp_no b.1 (sp_rm x 6) y.toInt64, b.2)
  else if code = 4 then (ss_ac b.1 (sg_se b.1 (sp_rm x 8).toNatClampNeg), b.2)
  else if code = 5 then (ss_ac b.1 (sp_h (sg_ac b.1) x.toInt64), b.2)
  else if code = 6 then (sp_no b.1 (sp_rm x 6) (sg_ac b.1), b.2)
  else if code = 7 then (b.1, b.2.1, b.2.2.1, if sg_ac b.1 = 0 then upd b.2.2.2 d.toNatClampNeg (b.2.2.2 d.toNatClampNeg + x) else b.2.2.2)
  else if code = 8 then (sp_fi b.1 (sp_lf (sg_ma b.1)) (x + 1) (sg_ac b.1), b.2)
  else b
/-- the digits that come next: the code, and two more -/
def sp_c0 (b : Bt) : Int32 := sp_dg (sg_im b.1 (b.2.2.1 b.2.1.toNatClampNeg).toNatClampNeg) (b.2.2.2 b.2.1.toNatClampNeg)
def sp_c1 (b : Bt) : Int32 := sp_dg (sg_im b.1 (b.2.2.1 b.2.1.toNatClampNeg).toNatClampNeg) (b.2.2.2 b.2.1.toNatClampNeg + 1)
def sp_c2 (b : Bt) : Int32 := sp_dg (sg_im b.1 (b.2.2.1 b.2.1.toNatClampNeg).toNatClampNeg) (b.2.2.2 b.2.1.toNatClampNeg + 2)
/-- the fault of the next instruction -/
def sp_if (b : Bt) : Int32 := sp_fo b.1 (sp_c0 b) (sp_c1 b) b.2.1
/-- the next instruction, where it has no fault -/
def sp_in (b : Bt) : Bt :=
  sp_ac (b.1, b.2.1, b.2.2.1, upd b.2.2.2 b.2.1.toNatClampNeg (b.2.2.2 b.2.1.toNatClampNeg + 1 + sp_op (sp_c0 b))) (sp_c0 b) (sp_c1 b) (sp_c2 b) b.2.1
/-- n turns of a boot, from one that has neither a fault nor an end yet -/
def sp_rn : Nat → Bt → Bt
  | 0, b => b
  | n + 1, b =>
    if b.2.1 < 0 then b
    else if sg_st b.1 = 100 then (ss_fa b.1 3, b.2)
    else if sp_if b = 0 then sp_rn n (ss_st (sp_in b).1 (sg_st (sp_in b).1 + 1), (sp_in b).2)
    else (ss_fa b.1 (sp_if b), b.2)
/-- the machine with which a boot begins -/
def sp_cl (u : Sg) : Sg := ss_fa (ss_st (ss_la (ss_ac (ss_en (ss_he u (sp_z6 (sg_he u))) 0) 0) 0) 0) 0
/-- a boot of image n -/
def sp_bo (u : Sg) (n : Int32) : Sg := (sp_rn 101 (sp_la (sp_cl u, 0, fun _ => 0, fun _ => 0) n 0)).1
/-! rows on numbers -/
theorem sp_and (x : Int64) : (x &&& 15).toInt32 = x.toInt32 &&& 15 := by
  apply Int32.toBitVec_inj.mp
  simp only [Int64.toBitVec_toInt32, Int32.toBitVec_and, Int64.toBitVec_and]
  rw [BitVec.signExtend_and]
  rfl
theorem sp_dg16 (c : Int64) (i : Int32) : ∃ j : Nat, j < 16 ∧ sp_dg c i = nI j := by
  unfold sp_dg
  split
  · exact pk_andE _ 4 rfl
  · exact ⟨0, by decide, rfl⟩
theorem sp_rm8 : ∀ j : Nat, j < 16 → vp_in (sp_rm (nI j) 8) 8 := by
  intro j hj
  unfold vp_in sp_rm
  rcases (show j = 0 ∨ j = 1 ∨ j = 2 ∨ j = 3 ∨ j = 4 ∨ j = 5 ∨ j = 6 ∨ j = 7 ∨ j = 8 ∨ j = 9 ∨ j = 10 ∨ j = 11 ∨ j = 12 ∨ j = 13 ∨ j = 14 ∨ j = 15 by omega) with h | h | h | h | h | h | h | h | h | h | h | h | h | h | h | h <;> subst h <;> decide +kernel
theorem sp_rm6 : ∀ j : Nat, j < 16 → vp_in (sp_rm (nI j) 6) 6 := by
  intro j hj
  unfold vp_in sp_rm
  rcases (show j = 0 ∨ j = 1 ∨ j = 2 ∨ j = 3 ∨ j = 4 ∨ j = 5 ∨ j = 6 ∨ j = 7 ∨ j = 8 ∨ j = 9 ∨ j = 10 ∨ j = 11 ∨ j = 12 ∨ j = 13 ∨ j = 14 ∨ j = 15 by omega) with h | h | h | h | h | h | h | h | h | h | h | h | h | h | h | h <;> subst h <;> decide +kernel
theorem sp_lf_cases (ma : Nat → Int32) : sp_lf ma = -1 ∨ ∃ j : Nat, j < 8 ∧ sp_lf ma = nI j := by
  unfold sp_lf
  split
  · exact Or.inr ⟨0, by decide, rfl⟩
  split
  · exact Or.inr ⟨1, by decide, rfl⟩
  split
  · exact Or.inr ⟨2, by decide, rfl⟩
  split
  · exact Or.inr ⟨3, by decide, rfl⟩
  split
  · exact Or.inr ⟨4, by decide, rfl⟩
  split
  · exact Or.inr ⟨5, by decide, rfl⟩
  split
  · exact Or.inr ⟨6, by decide, rfl⟩
  split
  · exact Or.inr ⟨7, by decide, rfl⟩
  exact Or.inl rfl
theorem sp_ok_no {u : Sg} {r : Int32} {v : Int64} (h : sp_ok u) (hn : ¬ 32 ≤ sg_en u) (hr : vp_in r 6) : sp_ok (sp_no u r v) := by
  obtain ⟨⟨n, h1, h2⟩, h3⟩ := h
  refine ⟨⟨n + 1, ?_, ?_⟩, fun k => ?_⟩
  · rcases Nat.lt_or_ge n 32 with q | q
    · omega
    · exfalso
      rw [h2] at hn
      exact hn (by rw [show (32 : Int32) = nI 32 from rfl]; exact nI_le q (by omega))
  · show sg_en u + 1 = nI (n + 1)
    rw [h2, nI_1]
  · show vp_in (upd (sg_er u) (sg_en u).toNatClampNeg r k) 6
    unfold upd
    split
    · exact hr
    · exact h3 k
theorem sp_cmp {x y : Int64} : lg_cmp x y = 0 ↔ x = y := by
  unfold lg_cmp
  by_cases h1 : x > y
  · rw [if_pos h1]
    refine ⟨fun h => absurd h (by decide), fun h => ?_⟩
    subst h
    exact absurd h1 Int64.lt_irrefl
  · rw [if_neg h1]
    by_cases h2 : x = y
    · rw [if_pos h2]
      exact ⟨fun _ => h2, fun _ => rfl⟩
    · rw [if_neg h2]
      exact ⟨fun h => absurd h (by decide), fun h => absurd h h2⟩
theorem xn_in {n : Int32} {k : Nat} (hk : k < 2 ^ 31) (h1 : ¬ n < 0) (h2 : n < nI k) : vp_in n k := by
  obtain ⟨j, hj, rfl⟩ := nI_of h1
  exact vp_in_nI ((nI_ltI hj hk).mp h2) hk
theorem xn_ge {n : Int32} {k : Nat} (h : vp_in n k) : ¬ n < 0 := fun q => h (Or.inl q)
theorem xn_lt {n : Int32} {k : Nat} (hk : k < 2 ^ 31) (h : vp_in n k) : n < nI k := by
  obtain ⟨j, hj, rfl⟩ := vp_in_of h hk
  exact nI_lt hj hk
theorem xn_nle {n : Int32} {k : Nat} (hk : k < 2 ^ 31) (h : vp_in n k) : ¬ nI k ≤ n := fun q => absurd (xn_lt hk h) (Int32.not_lt.mpr q)
/-- 0 ≤ n < k, as an answer -/
def sp_rg (n k : Int32) : Int32 := if n < 0 then 0 else if k ≤ n then 0 else 1
theorem sp_rg_t {n : Int32} (k : Nat) (hk : k < 2 ^ 31) (h : vp_in n k) : sp_rg n (nI k) = 1 := by
  unfold sp_rg
  rw [if_neg (xn_ge h), if_neg (xn_nle hk h)]
theorem sp_rg_f {n : Int32} (k : Nat) (hk : k < 2 ^ 31) (h : ¬ vp_in n k) : sp_rg n (nI k) = 0 := by
  unfold sp_rg
  by_cases h1 : n < 0
  · rw [if_pos h1]
  · rw [if_neg h1, if_pos (Int32.not_lt.mp (fun q => h (xn_in hk h1 q)))]
/-- 1 ≤ m ≤ 63, as an answer -/
def sp_mk (m : Int32) : Int32 := if m < 1 then 0 else if 63 < m then 0 else 1

