section ZR5
variable {p : Program} {l : Launch} {e : Env} {R : Room} {s : State} {m : MethodId} {args : Array Value} {below : List Frame} {meth : Method} {c : Code} {H : Heap} {locs : List Loc} {cells slots : Nat} {Q : State → Prop} {cc : ByteArray} {pc nL : Nat} {ls : Array Slot} {rest : List Value} {own : String} {g : zGeo} {h : Hp} {β : Type} {r : β}
abbrev zW (p : Program) (l : Launch) (e : Env) (R : Room) (s : State) (m : MethodId) (args : Array Value) (below : List Frame) (meth : Method) (c : Code) (H : Heap) (locs : List Loc) (cells slots : Nat) (Q : State → Prop) (pc : Nat) (ls : Array Slot) (st : List Value) : Prop := W p l e R s m args below meth c H locs cells slots Q (F0 m pc ls st)
theorem z_iconst {n : Int} (C : zC p m c cc nL s args own g) (hdg : decode cc pc = .ok (.iconst n, 1)) (k : W p l e R s m args below meth c H locs cells slots Q (F0 m (pc + 1) ls (qI n :: rest))) : W p l e R s m args below meth c H locs cells slots Q (F0 m pc ls rest) := lv_iconst C.1.1 C.1.2.1 hdg rfl k
theorem z_bipush {n : Int} (C : zC p m c cc nL s args own g) (hdg : decode cc pc = .ok (.bipush n, 2)) (hn : (Int8.ofInt n).toInt32 = Int32.ofInt n) (k : W p l e R s m args below meth c H locs cells slots Q (F0 m (pc + 2) ls (qI n :: rest))) : W p l e R s m args below meth c H locs cells slots Q (F0 m pc ls rest) := lv_bipush C.1.1 C.1.2.1 hdg hn k
theorem z_sipush {n : Int} (C : zC p m c cc nL s args own g) (hdg : decode cc pc = .ok (.sipush n, 3)) (hn : (Int16.ofInt n).toInt32 = Int32.ofInt n) (k : W p l e R s m args below meth c H locs cells slots Q (F0 m (pc + 3) ls (qI n :: rest))) : W p l e R s m args below meth c H locs cells slots Q (F0 m pc ls rest) := lv_sipush C.1.1 C.1.2.1 hdg hn k
theorem z_lconst {n : Fin 2} {v : Int} (C : zC p m c cc nL s args own g) (hdg : decode cc pc = .ok (.lconst n, 1)) (hv : Int64.ofNat (n : Nat) = Int64.ofInt v) (k : W p l e R s m args below meth c H locs cells slots Q (F0 m (pc + 1) ls (qJ v :: rest))) : W p l e R s m args below meth c H locs cells slots Q (F0 m pc ls rest) := lv_lconst C.1.1 C.1.2.1 hdg hv k
theorem z_ldc {idx : Nat} {v : Int} {v32 : Int32} (C : zC p m c cc nL s args own g) (hdg : decode cc pc = .ok (.ldc idx, 2)) (hw : Cond.constant own idx v32 ∈ TW) (hv : v32 = Int32.ofInt v) (k : W p l e R s m args below meth c H locs cells slots Q (F0 m (pc + 2) ls (qI v :: rest))) : W p l e R s m args below meth c H locs cells slots Q (F0 m pc ls rest) := by
  subst hv
  exact lv_ldc C.1.1 C.1.2.1 C.1.2.2.2.1 (C.1.2.2.2.2 _ hw) hdg k
theorem z_ldcw {idx : Nat} {v : Int} {v32 : Int32} (C : zC p m c cc nL s args own g) (hdg : decode cc pc = .ok (.ldc_w idx, 3)) (hw : Cond.constant own idx v32 ∈ TW) (hv : v32 = Int32.ofInt v) (k : W p l e R s m args below meth c H locs cells slots Q (F0 m (pc + 3) ls (qI v :: rest))) : W p l e R s m args below meth c H locs cells slots Q (F0 m pc ls rest) := by
  subst hv
  exact lv_ldcw C.1.1 C.1.2.1 C.1.2.2.2.1 (C.1.2.2.2.2 _ hw) hdg k
theorem z_ldc2 {idx : Nat} {v : Int} {v64 : Int64} (C : zC p m c cc nL s args own g) (hdg : decode cc pc = .ok (.ldc2_w idx, 3)) (hw : Cond.constantLong own idx v64 ∈ TW) (hv : v64 = Int64.ofInt v) (k : W p l e R s m args below meth c H locs cells slots Q (F0 m (pc + 3) ls (qJ v :: rest))) : W p l e R s m args below meth c H locs cells slots Q (F0 m pc ls rest) := by
  subst hv
  exact lv_ldc2 C.1.1 C.1.2.1 C.1.2.2.2.1 (C.1.2.2.2.2 _ hw) hdg k
theorem z_ldcS {idx : Nat} {i : Nat} {tx : String} (C : zC p m c cc nL s args own g) (hdg : decode cc pc = .ok (.ldc idx, 2)) (hw : (own, idx, tx, i) ∈ zStr) (k : W p l e R s m args below meth c H locs cells slots Q (F0 m (pc + 2) ls (qS g (i : Int) :: rest))) : W p l e R s m args below meth c H locs cells slots Q (F0 m pc ls rest) := va_ldcS C.1.1 C.1.2.1 C.1.2.2.2.1 (C.2.2.2.1 _ hw) hdg k
theorem z_iadd {x y : Int} (C : zC p m c cc nL s args own g) (hdg : decode cc pc = .ok (.iadd, 1)) (k : W p l e R s m args below meth c H locs cells slots Q (F0 m (pc + 1) ls (qI (x + y) :: rest))) : W p l e R s m args below meth c H locs cells slots Q (F0 m pc ls (qI y :: qI x :: rest)) := by
  refine lv_iadd C.1.1 C.1.2.1 hdg ?_
  rw [← Int32.ofInt_add]; exact k
theorem z_isub {x y : Int} (C : zC p m c cc nL s args own g) (hdg : decode cc pc = .ok (.isub, 1)) (k : W p l e R s m args below meth c H locs cells slots Q (F0 m (pc + 1) ls (qI (x - y) :: rest))) : W p l e R s m args below meth c H locs cells slots Q (F0 m pc ls (qI y :: qI x :: rest)) := by
  refine lv_isub C.1.1 C.1.2.1 hdg ?_
  rw [← Int32.ofInt_sub]; exact k
theorem z_imul {x y : Int} (C : zC p m c cc nL s args own g) (hdg : decode cc pc = .ok (.imul, 1)) (k : W p l e R s m args below meth c H locs cells slots Q (F0 m (pc + 1) ls (qI (x * y) :: rest))) : W p l e R s m args below meth c H locs cells slots Q (F0 m pc ls (qI y :: qI x :: rest)) := by
  refine lv_imul C.1.1 C.1.2.1 hdg ?_
  rw [← Int32.ofInt_mul]; exact k
theorem z_ladd {x y : Int} (C : zC p m c cc nL s args own g) (hdg : decode cc pc = .ok (.ladd, 1)) (k : W p l e R s m args below meth c H locs cells slots Q (F0 m (pc + 1) ls (qJ (x + y) :: rest))) : W p l e R s m args below meth c H locs cells slots Q (F0 m pc ls (qJ y :: qJ x :: rest)) := by
  refine lv_ladd C.1.1 C.1.2.1 hdg ?_
  rw [← Int64.ofInt_add]; exact k
theorem z_lsub {x y : Int} (C : zC p m c cc nL s args own g) (hdg : decode cc pc = .ok (.lsub, 1)) (k : W p l e R s m args below meth c H locs cells slots Q (F0 m (pc + 1) ls (qJ (x - y) :: rest))) : W p l e R s m args below meth c H locs cells slots Q (F0 m pc ls (qJ y :: qJ x :: rest)) := by
  refine lv_lsub C.1.1 C.1.2.1 hdg ?_
  rw [← Int64.ofInt_sub]; exact k
theorem z_lmul {x y : Int} (C : zC p m c cc nL s args own g) (hdg : decode cc pc = .ok (.lmul, 1)) (k : W p l e R s m args below meth c H locs cells slots Q (F0 m (pc + 1) ls (qJ (x * y) :: rest))) : W p l e R s m args below meth c H locs cells slots Q (F0 m pc ls (qJ y :: qJ x :: rest)) := by
  refine lv_lmul C.1.1 C.1.2.1 hdg ?_
  rw [← Int64.ofInt_mul]; exact k
theorem z_iand {x y : Int} (C : zC p m c cc nL s args own g) (hdg : decode cc pc = .ok (.iand, 1)) (k : W p l e R s m args below meth c H locs cells slots Q (F0 m (pc + 1) ls (qI (iand x y) :: rest))) : W p l e R s m args below meth c H locs cells slots Q (F0 m pc ls (qI y :: qI x :: rest)) := by
  refine lv_iand C.1.1 C.1.2.1 hdg ?_
  unfold qI iand at k; rw [Int32.ofInt_toInt] at k; exact k
theorem z_ior {x y : Int} (C : zC p m c cc nL s args own g) (hdg : decode cc pc = .ok (.ior, 1)) (k : W p l e R s m args below meth c H locs cells slots Q (F0 m (pc + 1) ls (qI (ior x y) :: rest))) : W p l e R s m args below meth c H locs cells slots Q (F0 m pc ls (qI y :: qI x :: rest)) := by
  refine lv_ior C.1.1 C.1.2.1 hdg ?_
  unfold qI ior at k; rw [Int32.ofInt_toInt] at k; exact k
theorem z_land {x y : Int} (C : zC p m c cc nL s args own g) (hdg : decode cc pc = .ok (.land, 1)) (k : W p l e R s m args below meth c H locs cells slots Q (F0 m (pc + 1) ls (qJ (land x y) :: rest))) : W p l e R s m args below meth c H locs cells slots Q (F0 m pc ls (qJ y :: qJ x :: rest)) := by
  refine lv_land C.1.1 C.1.2.1 hdg ?_
  unfold qJ land at k; rw [Int64.ofInt_toInt] at k; exact k
theorem z_lor {x y : Int} (C : zC p m c cc nL s args own g) (hdg : decode cc pc = .ok (.lor, 1)) (k : W p l e R s m args below meth c H locs cells slots Q (F0 m (pc + 1) ls (qJ (lor x y) :: rest))) : W p l e R s m args below meth c H locs cells slots Q (F0 m pc ls (qJ y :: qJ x :: rest)) := by
  refine lv_lor C.1.1 C.1.2.1 hdg ?_
  unfold qJ lor at k; rw [Int64.ofInt_toInt] at k; exact k
theorem z_lxor {x y : Int} (C : zC p m c cc nL s args own g) (hdg : decode cc pc = .ok (.lxor, 1)) (k : W p l e R s m args below meth c H locs cells slots Q (F0 m (pc + 1) ls (qJ (lxor x y) :: rest))) : W p l e R s m args below meth c H locs cells slots Q (F0 m pc ls (qJ y :: qJ x :: rest)) := by
  refine lv_lxor C.1.1 C.1.2.1 hdg ?_
  unfold qJ lxor at k; rw [Int64.ofInt_toInt] at k; exact k
theorem z_ishl {x y : Int} (C : zC p m c cc nL s args own g) (hdg : decode cc pc = .ok (.ishl, 1)) (k : W p l e R s m args below meth c H locs cells slots Q (F0 m (pc + 1) ls (qI (ishl x y) :: rest))) : W p l e R s m args below meth c H locs cells slots Q (F0 m pc ls (qI y :: qI x :: rest)) := by
  refine lv_ishl C.1.1 C.1.2.1 hdg ?_
  unfold qI ishl at k; rw [Int32.ofInt_toInt] at k; exact k
theorem z_ishr {x y : Int} (C : zC p m c cc nL s args own g) (hdg : decode cc pc = .ok (.ishr, 1)) (k : W p l e R s m args below meth c H locs cells slots Q (F0 m (pc + 1) ls (qI (ishr x y) :: rest))) : W p l e R s m args below meth c H locs cells slots Q (F0 m pc ls (qI y :: qI x :: rest)) := by
  refine lv_ishr C.1.1 C.1.2.1 hdg ?_
  unfold qI ishr at k; rw [Int32.ofInt_toInt] at k; exact k
theorem z_iushr {x y : Int} (C : zC p m c cc nL s args own g) (hdg : decode cc pc = .ok (.iushr, 1)) (k : W p l e R s m args below meth c H locs cells slots Q (F0 m (pc + 1) ls (qI (iushr x y) :: rest))) : W p l e R s m args below meth c H locs cells slots Q (F0 m pc ls (qI y :: qI x :: rest)) := lv_iushr C.1.1 C.1.2.1 hdg (by unfold iushr; rw [Int32.ofInt_toInt]) k
theorem z_lushr {x y : Int} (C : zC p m c cc nL s args own g) (hdg : decode cc pc = .ok (.lushr, 1)) (k : W p l e R s m args below meth c H locs cells slots Q (F0 m (pc + 1) ls (qJ (lushr x y) :: rest))) : W p l e R s m args below meth c H locs cells slots Q (F0 m pc ls (qI y :: qJ x :: rest)) := lv_lushr C.1.1 C.1.2.1 hdg (by unfold lushr; rw [Int64.ofInt_toInt]) k
theorem z_lshl {x y : Int} (C : zC p m c cc nL s args own g) (hdg : decode cc pc = .ok (.lshl, 1)) (k : W p l e R s m args below meth c H locs cells slots Q (F0 m (pc + 1) ls (qJ (lshl x y) :: rest))) : W p l e R s m args below meth c H locs cells slots Q (F0 m pc ls (qI y :: qJ x :: rest)) := lv_lshl C.1.1 C.1.2.1 hdg (by unfold lshl; rw [Int64.ofInt_toInt]) k
theorem z_lshr {x y : Int} (C : zC p m c cc nL s args own g) (hdg : decode cc pc = .ok (.lshr, 1)) (k : W p l e R s m args below meth c H locs cells slots Q (F0 m (pc + 1) ls (qJ (lshr x y) :: rest))) : W p l e R s m args below meth c H locs cells slots Q (F0 m pc ls (qI y :: qJ x :: rest)) := lv_lshr C.1.1 C.1.2.1 hdg (by unfold lshr; rw [Int64.ofInt_toInt]) k
theorem z_i2l {x : Int} (C : zC p m c cc nL s args own g) (hdg : decode cc pc = .ok (.i2l, 1)) (k : W p l e R s m args below meth c H locs cells slots Q (F0 m (pc + 1) ls (qJ (w32 x) :: rest))) : W p l e R s m args below meth c H locs cells slots Q (F0 m pc ls (qI x :: rest)) := lv_i2l C.1.1 C.1.2.1 hdg (by
  apply Int64.toInt_inj.mp
  have h1 := w32_lo x; have h2 := w32_hi x
  have : (Int64.ofInt (w32 x)).toInt = w32 x := w64_of (by omega) (by omega)
  rw [this, Int32.toInt_toInt64]; rfl) k
theorem z_l2i {x : Int} (C : zC p m c cc nL s args own g) (hdg : decode cc pc = .ok (.l2i, 1)) (k : W p l e R s m args below meth c H locs cells slots Q (F0 m (pc + 1) ls (qI (w64 x) :: rest))) : W p l e R s m args below meth c H locs cells slots Q (F0 m pc ls (qJ x :: rest)) := lv_l2i C.1.1 C.1.2.1 hdg (by
  unfold w64
  apply Int32.toInt_inj.mp
  rw [Int64.toInt_toInt32, Int32.toInt_ofInt]) k
theorem z_i2b {x : Int} (C : zC p m c cc nL s args own g) (hdg : decode cc pc = .ok (.i2b, 1)) (k : W p l e R s m args below meth c H locs cells slots Q (F0 m (pc + 1) ls (qI (i2b x) :: rest))) : W p l e R s m args below meth c H locs cells slots Q (F0 m pc ls (qI x :: rest)) := lv_i2b C.1.1 C.1.2.1 hdg (by unfold i2b; rw [Int32.ofInt_toInt]) k
theorem z_lcmp {x y : Int} (C : zC p m c cc nL s args own g) (hdg : decode cc pc = .ok (.lcmp, 1)) (k : W p l e R s m args below meth c H locs cells slots Q (F0 m (pc + 1) ls (qI (lcmp x y) :: rest))) : W p l e R s m args below meth c H locs cells slots Q (F0 m pc ls (qJ y :: qJ x :: rest)) := by
  refine W.lcmp C.1.1 C.1.2.1 hdg ?_
  have e1 : lg_cmp (Int64.ofInt x) (Int64.ofInt y) = Int32.ofInt (lcmp x y) := by
    unfold lg_cmp lcmp
    by_cases h1 : w64 y < w64 x
    · rw [if_pos h1, if_pos ((w64_lt y x).mpr h1)]; rfl
    · rw [if_neg h1, if_neg (fun q => h1 ((w64_lt y x).mp q))]
      by_cases h2 : w64 x = w64 y
      · rw [if_pos h2, if_pos ((w64_eq x y).mpr h2)]; rfl
      · rw [if_neg h2, if_neg (fun q => h2 ((w64_eq x y).mp q))]; rfl
  rw [e1]; exact k
theorem ofInt_tdiv32 (x y : Int) : Int32.ofInt ((w32 x).tdiv (w32 y)) = Int32.ofInt x / Int32.ofInt y := by
  apply Int32.toInt_inj.mp
  rw [Int32.toInt_div, Int32.toInt_ofInt]
  rfl
theorem ofInt_tdiv64 (x y : Int) : Int64.ofInt ((w64 x).tdiv (w64 y)) = Int64.ofInt x / Int64.ofInt y := by
  apply Int64.toInt_inj.mp
  rw [Int64.toInt_div, Int64.toInt_ofInt]
  rfl
theorem ofInt_tmod32 (x y : Int) : Int32.ofInt ((w32 x).tmod (w32 y)) = Int32.ofInt x - Int32.ofInt x / Int32.ofInt y * Int32.ofInt y := by
  rw [← ofInt_tdiv32, Int.tmod_def, Int32.ofInt_sub, w32_ofInt, Int.mul_comm, Int32.ofInt_mul, w32_ofInt]
theorem ofInt_tmod64 (x y : Int) : Int64.ofInt ((w64 x).tmod (w64 y)) = Int64.ofInt x - Int64.ofInt x / Int64.ofInt y * Int64.ofInt y := by
  rw [← ofInt_tdiv64, Int.tmod_def, Int64.ofInt_sub, w64_ofInt, Int.mul_comm, Int64.ofInt_mul, w64_ofInt]
theorem z_idiv {x y : Int} {f : Int → Option β} (C : zC p m c cc nL s args own g) (hdg : decode cc pc = .ok (.idiv, 1)) (hm : (idv x y).bind f = some r) (kk : ∀ z : Int, f z = some r → W p l e R s m args below meth c H locs cells slots Q (F0 m (pc + 1) ls (qI z :: rest))) : W p l e R s m args below meth c H locs cells slots Q (F0 m pc ls (qI y :: qI x :: rest)) := by
  unfold idv at hm
  split at hm
  · cases hm
  · rename_i h0
    refine lv_idiv C.1.1 C.1.2.1 hdg (fun q => h0 (show (Int32.ofInt y).toInt = 0 by rw [q]; rfl)) ?_
    rw [← ofInt_tdiv32]; exact kk _ hm
theorem z_irem {x y : Int} {f : Int → Option β} (C : zC p m c cc nL s args own g) (hdg : decode cc pc = .ok (.irem, 1)) (hm : (irm x y).bind f = some r) (kk : ∀ z : Int, f z = some r → W p l e R s m args below meth c H locs cells slots Q (F0 m (pc + 1) ls (qI z :: rest))) : W p l e R s m args below meth c H locs cells slots Q (F0 m pc ls (qI y :: qI x :: rest)) := by
  unfold irm at hm
  split at hm
  · cases hm
  · rename_i h0
    refine lv_irem C.1.1 C.1.2.1 hdg (fun q => h0 (show (Int32.ofInt y).toInt = 0 by rw [q]; rfl)) ?_
    rw [← ofInt_tmod32]; exact kk _ hm
theorem z_ldiv {x y : Int} {f : Int → Option β} (C : zC p m c cc nL s args own g) (hdg : decode cc pc = .ok (.ldiv, 1)) (hm : (ldv x y).bind f = some r) (kk : ∀ z : Int, f z = some r → W p l e R s m args below meth c H locs cells slots Q (F0 m (pc + 1) ls (qJ z :: rest))) : W p l e R s m args below meth c H locs cells slots Q (F0 m pc ls (qJ y :: qJ x :: rest)) := by
  unfold ldv at hm
  split at hm
  · cases hm
  · rename_i h0
    refine lv_ldiv C.1.1 C.1.2.1 hdg (fun q => h0 (show (Int64.ofInt y).toInt = 0 by rw [q]; rfl)) ?_
    rw [← ofInt_tdiv64]; exact kk _ hm
theorem z_lrem {x y : Int} {f : Int → Option β} (C : zC p m c cc nL s args own g) (hdg : decode cc pc = .ok (.lrem, 1)) (hm : (lrm x y).bind f = some r) (kk : ∀ z : Int, f z = some r → W p l e R s m args below meth c H locs cells slots Q (F0 m (pc + 1) ls (qJ z :: rest))) : W p l e R s m args below meth c H locs cells slots Q (F0 m pc ls (qJ y :: qJ x :: rest)) := by
  unfold lrm at hm
  split at hm
  · cases hm
  · rename_i h0
    refine lv_lrem C.1.1 C.1.2.1 hdg (fun q => h0 (show (Int64.ofInt y).toInt = 0 by rw [q]; rfl)) ?_
    rw [← ofInt_tmod64]; exact kk _ hm
theorem z_iinc {i k : Nat} {n x : Int} {lv lv' : List (Nat × Value)} (C : zC p m c cc nL s args own g) (hdg : decode cc pc = .ok (.iinc i n, 3)) (hl : lv_has ls nL lv) (hk : lv[k]? = some (i, qI x)) (hn : i < nL) (hl' : (i, qI (x + n)) :: lv.filter (fun q => !(q.1 == i) && !(q.1 + 1 == i && q.2.category == 2)) = lv')
    (kk : ∀ ls' : Array Slot, lv_has ls' nL lv' → W p l e R s m args below meth c H locs cells slots Q (F0 m (pc + 3) ls' rest)) : W p l e R s m args below meth c H locs cells slots Q (F0 m pc ls rest) := lv_iinc C.1.1 C.1.2.1 hdg hl hk (by rw [← Int32.ofInt_add]) hn hl' kk
theorem z_icmp_eq {x y x1 y1 : Int} {off : Int} {tgt : Nat} {A B : Option β} (C : zC p m c cc nL s args own g) (hdg : decode cc pc = .ok (.if_icmp .eq off, 3)) (ht : (pc : Int) + off = (tgt : Int)) (ex : w32 x = x1) (ey : w32 y = y1) (hm : (if x1 = y1 then A else B) = some r) (kt : x1 = y1 → A = some r → W p l e R s m args below meth c H locs cells slots Q (F0 m tgt ls rest)) (kf : ¬ (x1 = y1) → B = some r → W p l e R s m args below meth c H locs cells slots Q (F0 m (pc + 3) ls rest)) : W p l e R s m args below meth c H locs cells slots Q (F0 m pc ls (qI y :: qI x :: rest)) := by
  subst ex; subst ey
  refine lv_icmp_eq C.1.1 C.1.2.1 hdg ht (fun q => ?_) (fun q => ?_)
  · have q1 : w32 x = w32 y := (w32_eq x y).mp q
    rw [if_pos q1] at hm
    exact kt q1 hm
  · have q1 : ¬ (w32 x = w32 y) := fun z => q ((w32_eq x y).mpr z)
    rw [if_neg q1] at hm
    exact kf q1 hm
theorem z_icmp_ne {x y x1 y1 : Int} {off : Int} {tgt : Nat} {A B : Option β} (C : zC p m c cc nL s args own g) (hdg : decode cc pc = .ok (.if_icmp .ne off, 3)) (ht : (pc : Int) + off = (tgt : Int)) (ex : w32 x = x1) (ey : w32 y = y1) (hm : (if x1 = y1 then B else A) = some r) (kt : ¬ (x1 = y1) → A = some r → W p l e R s m args below meth c H locs cells slots Q (F0 m tgt ls rest)) (kf : x1 = y1 → B = some r → W p l e R s m args below meth c H locs cells slots Q (F0 m (pc + 3) ls rest)) : W p l e R s m args below meth c H locs cells slots Q (F0 m pc ls (qI y :: qI x :: rest)) := by
  subst ex; subst ey
  refine lv_icmp_ne C.1.1 C.1.2.1 hdg ht (fun q => ?_) (fun q => ?_)
  · have q1 : ¬ (w32 x = w32 y) := fun z => q ((w32_eq x y).mpr z)
    rw [if_neg q1] at hm
    exact kt q1 hm
  · have q1 : w32 x = w32 y := (w32_eq x y).mp (by first | exact q | exact Classical.not_not.mp q)
    rw [if_pos q1] at hm
    exact kf q1 hm
theorem z_icmp_lt {x y x1 y1 : Int} {off : Int} {tgt : Nat} {A B : Option β} (C : zC p m c cc nL s args own g) (hdg : decode cc pc = .ok (.if_icmp .lt off, 3)) (ht : (pc : Int) + off = (tgt : Int)) (ex : w32 x = x1) (ey : w32 y = y1) (hm : (if x1 < y1 then A else B) = some r) (kt : x1 < y1 → A = some r → W p l e R s m args below meth c H locs cells slots Q (F0 m tgt ls rest)) (kf : ¬ (x1 < y1) → B = some r → W p l e R s m args below meth c H locs cells slots Q (F0 m (pc + 3) ls rest)) : W p l e R s m args below meth c H locs cells slots Q (F0 m pc ls (qI y :: qI x :: rest)) := by
  subst ex; subst ey
  refine lv_icmp_lt C.1.1 C.1.2.1 hdg ht (fun q => ?_) (fun q => ?_)
  · have q1 : w32 x < w32 y := (w32_lt x y).mp q
    rw [if_pos q1] at hm
    exact kt q1 hm
  · have q1 : ¬ (w32 x < w32 y) := fun z => q ((w32_lt x y).mpr z)
    rw [if_neg q1] at hm
    exact kf q1 hm
theorem z_icmp_ge {x y x1 y1 : Int} {off : Int} {tgt : Nat} {A B : Option β} (C : zC p m c cc nL s args own g) (hdg : decode cc pc = .ok (.if_icmp .ge off, 3)) (ht : (pc : Int) + off = (tgt : Int)) (ex : w32 x = x1) (ey : w32 y = y1) (hm : (if x1 < y1 then B else A) = some r) (kt : ¬ (x1 < y1) → A = some r → W p l e R s m args below meth c H locs cells slots Q (F0 m tgt ls rest)) (kf : x1 < y1 → B = some r → W p l e R s m args below meth c H locs cells slots Q (F0 m (pc + 3) ls rest)) : W p l e R s m args below meth c H locs cells slots Q (F0 m pc ls (qI y :: qI x :: rest)) := by
  subst ex; subst ey
  refine lv_icmp_ge C.1.1 C.1.2.1 hdg ht (fun q => ?_) (fun q => ?_)
  · have q1 : ¬ (w32 x < w32 y) := Int.not_lt.mpr ((w32_le y x).mp q)
    rw [if_neg q1] at hm
    exact kt q1 hm
  · have q1 : w32 x < w32 y := Int.not_le.mp (fun z => q ((w32_le y x).mpr z))
    rw [if_pos q1] at hm
    exact kf q1 hm
theorem z_icmp_gt {x y x1 y1 : Int} {off : Int} {tgt : Nat} {A B : Option β} (C : zC p m c cc nL s args own g) (hdg : decode cc pc = .ok (.if_icmp .gt off, 3)) (ht : (pc : Int) + off = (tgt : Int)) (ex : w32 x = x1) (ey : w32 y = y1) (hm : (if y1 < x1 then A else B) = some r) (kt : y1 < x1 → A = some r → W p l e R s m args below meth c H locs cells slots Q (F0 m tgt ls rest)) (kf : ¬ (y1 < x1) → B = some r → W p l e R s m args below meth c H locs cells slots Q (F0 m (pc + 3) ls rest)) : W p l e R s m args below meth c H locs cells slots Q (F0 m pc ls (qI y :: qI x :: rest)) := by
  subst ex; subst ey
  refine lv_icmp_gt C.1.1 C.1.2.1 hdg ht (fun q => ?_) (fun q => ?_)
  · have q1 : w32 y < w32 x := (w32_lt y x).mp q
    rw [if_pos q1] at hm
    exact kt q1 hm
  · have q1 : ¬ (w32 y < w32 x) := fun z => q ((w32_lt y x).mpr z)
    rw [if_neg q1] at hm
    exact kf q1 hm
theorem z_icmp_le {x y x1 y1 : Int} {off : Int} {tgt : Nat} {A B : Option β} (C : zC p m c cc nL s args own g) (hdg : decode cc pc = .ok (.if_icmp .le off, 3)) (ht : (pc : Int) + off = (tgt : Int)) (ex : w32 x = x1) (ey : w32 y = y1) (hm : (if y1 < x1 then B else A) = some r) (kt : ¬ (y1 < x1) → A = some r → W p l e R s m args below meth c H locs cells slots Q (F0 m tgt ls rest)) (kf : y1 < x1 → B = some r → W p l e R s m args below meth c H locs cells slots Q (F0 m (pc + 3) ls rest)) : W p l e R s m args below meth c H locs cells slots Q (F0 m pc ls (qI y :: qI x :: rest)) := by
  subst ex; subst ey
  refine lv_icmp_le C.1.1 C.1.2.1 hdg ht (fun q => ?_) (fun q => ?_)
  · have q1 : ¬ (w32 y < w32 x) := Int.not_lt.mpr ((w32_le x y).mp q)
    rw [if_neg q1] at hm
    exact kt q1 hm
  · have q1 : w32 y < w32 x := Int.not_le.mp (fun z => q ((w32_le x y).mpr z))
    rw [if_pos q1] at hm
    exact kf q1 hm
theorem z_if_eq {x x1 : Int} {off : Int} {tgt : Nat} {A B : Option β} (C : zC p m c cc nL s args own g) (hdg : decode cc pc = .ok (.ifCond .eq off, 3)) (ht : (pc : Int) + off = (tgt : Int)) (ex : w32 x = x1) (hm : (if x1 = 0 then A else B) = some r) (kt : x1 = 0 → A = some r → W p l e R s m args below meth c H locs cells slots Q (F0 m tgt ls rest)) (kf : ¬ (x1 = 0) → B = some r → W p l e R s m args below meth c H locs cells slots Q (F0 m (pc + 3) ls rest)) : W p l e R s m args below meth c H locs cells slots Q (F0 m pc ls (qI x :: rest)) := by
  subst ex
  refine lv_if_eq C.1.1 C.1.2.1 hdg ht (fun q => ?_) (fun q => ?_)
  · have q1 : w32 x = 0 := (w32_eq x 0).mp q
    rw [if_pos q1] at hm
    exact kt q1 hm
  · have q1 : ¬ (w32 x = 0) := fun z => q ((w32_eq x 0).mpr z)
    rw [if_neg q1] at hm
    exact kf q1 hm
theorem z_if_ne {x x1 : Int} {off : Int} {tgt : Nat} {A B : Option β} (C : zC p m c cc nL s args own g) (hdg : decode cc pc = .ok (.ifCond .ne off, 3)) (ht : (pc : Int) + off = (tgt : Int)) (ex : w32 x = x1) (hm : (if x1 = 0 then B else A) = some r) (kt : ¬ (x1 = 0) → A = some r → W p l e R s m args below meth c H locs cells slots Q (F0 m tgt ls rest)) (kf : x1 = 0 → B = some r → W p l e R s m args below meth c H locs cells slots Q (F0 m (pc + 3) ls rest)) : W p l e R s m args below meth c H locs cells slots Q (F0 m pc ls (qI x :: rest)) := by
  subst ex
  refine lv_if_ne C.1.1 C.1.2.1 hdg ht (fun q => ?_) (fun q => ?_)
  · have q1 : ¬ (w32 x = 0) := fun z => q ((w32_eq x 0).mpr z)
    rw [if_neg q1] at hm
    exact kt q1 hm
  · have q1 : w32 x = 0 := (w32_eq x 0).mp (by first | exact q | exact Classical.not_not.mp q)
    rw [if_pos q1] at hm
    exact kf q1 hm
theorem z_if_lt {x x1 : Int} {off : Int} {tgt : Nat} {A B : Option β} (C : zC p m c cc nL s args own g) (hdg : decode cc pc = .ok (.ifCond .lt off, 3)) (ht : (pc : Int) + off = (tgt : Int)) (ex : w32 x = x1) (hm : (if x1 < 0 then A else B) = some r) (kt : x1 < 0 → A = some r → W p l e R s m args below meth c H locs cells slots Q (F0 m tgt ls rest)) (kf : ¬ (x1 < 0) → B = some r → W p l e R s m args below meth c H locs cells slots Q (F0 m (pc + 3) ls rest)) : W p l e R s m args below meth c H locs cells slots Q (F0 m pc ls (qI x :: rest)) := by
  subst ex
  refine lv_if_lt C.1.1 C.1.2.1 hdg ht (fun q => ?_) (fun q => ?_)
  · have q1 : w32 x < 0 := (w32_lt x 0).mp q
    rw [if_pos q1] at hm
    exact kt q1 hm
  · have q1 : ¬ (w32 x < 0) := fun z => q ((w32_lt x 0).mpr z)
    rw [if_neg q1] at hm
    exact kf q1 hm
theorem z_if_ge {x x1 : Int} {off : Int} {tgt : Nat} {A B : Option β} (C : zC p m c cc nL s args own g) (hdg : decode cc pc = .ok (.ifCond .ge off, 3)) (ht : (pc : Int) + off = (tgt : Int)) (ex : w32 x = x1) (hm : (if x1 < 0 then B else A) = some r) (kt : ¬ (x1 < 0) → A = some r → W p l e R s m args below meth c H locs cells slots Q (F0 m tgt ls rest)) (kf : x1 < 0 → B = some r → W p l e R s m args below meth c H locs cells slots Q (F0 m (pc + 3) ls rest)) : W p l e R s m args below meth c H locs cells slots Q (F0 m pc ls (qI x :: rest)) := by
  subst ex
  refine lv_if_ge C.1.1 C.1.2.1 hdg ht (fun q => ?_) (fun q => ?_)
  · have q1 : ¬ (w32 x < 0) := Int.not_lt.mpr ((w32_le 0 x).mp q)
    rw [if_neg q1] at hm
    exact kt q1 hm
  · have q1 : w32 x < 0 := Int.not_le.mp (fun z => q ((w32_le 0 x).mpr z))
    rw [if_pos q1] at hm
    exact kf q1 hm
theorem z_if_gt {x x1 : Int} {off : Int} {tgt : Nat} {A B : Option β} (C : zC p m c cc nL s args own g) (hdg : decode cc pc = .ok (.ifCond .gt off, 3)) (ht : (pc : Int) + off = (tgt : Int)) (ex : w32 x = x1) (hm : (if 0 < x1 then A else B) = some r) (kt : 0 < x1 → A = some r → W p l e R s m args below meth c H locs cells slots Q (F0 m tgt ls rest)) (kf : ¬ (0 < x1) → B = some r → W p l e R s m args below meth c H locs cells slots Q (F0 m (pc + 3) ls rest)) : W p l e R s m args below meth c H locs cells slots Q (F0 m pc ls (qI x :: rest)) := by
  subst ex
  refine lv_if_gt C.1.1 C.1.2.1 hdg ht (fun q => ?_) (fun q => ?_)
  · have q1 : 0 < w32 x := (w32_lt 0 x).mp q
    rw [if_pos q1] at hm
    exact kt q1 hm
  · have q1 : ¬ (0 < w32 x) := fun z => q ((w32_lt 0 x).mpr z)
    rw [if_neg q1] at hm
    exact kf q1 hm
theorem z_if_le {x x1 : Int} {off : Int} {tgt : Nat} {A B : Option β} (C : zC p m c cc nL s args own g) (hdg : decode cc pc = .ok (.ifCond .le off, 3)) (ht : (pc : Int) + off = (tgt : Int)) (ex : w32 x = x1) (hm : (if 0 < x1 then B else A) = some r) (kt : ¬ (0 < x1) → A = some r → W p l e R s m args below meth c H locs cells slots Q (F0 m tgt ls rest)) (kf : 0 < x1 → B = some r → W p l e R s m args below meth c H locs cells slots Q (F0 m (pc + 3) ls rest)) : W p l e R s m args below meth c H locs cells slots Q (F0 m pc ls (qI x :: rest)) := by
  subst ex
  refine lv_if_le C.1.1 C.1.2.1 hdg ht (fun q => ?_) (fun q => ?_)
  · have q1 : ¬ (0 < w32 x) := Int.not_lt.mpr ((w32_le x 0).mp q)
    rw [if_neg q1] at hm
    exact kt q1 hm
  · have q1 : 0 < w32 x := Int.not_le.mp (fun z => q ((w32_le x 0).mpr z))
    rw [if_pos q1] at hm
    exact kf q1 hm
end ZR5
