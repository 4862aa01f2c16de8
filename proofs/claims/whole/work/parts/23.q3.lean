/-! ints by their toInt -/
theorem q_rng (v : Int32) : -2147483648 ≤ v.toInt ∧ v.toInt ≤ 2147483647 := by
  have h1 := Int32.le_toInt v
  have h2 := Int32.toInt_lt v
  omega
theorem q_add {x y : Int32} (h : -2147483648 ≤ x.toInt + y.toInt ∧ x.toInt + y.toInt ≤ 2147483647) : (x + y).toInt = x.toInt + y.toInt := by
  rw [Int32.toInt_add]
  exact Int.bmod_eq_of_le_mul_two (by omega) (by omega)
theorem q_sub {x y : Int32} (h : -2147483648 ≤ x.toInt - y.toInt ∧ x.toInt - y.toInt ≤ 2147483647) : (x - y).toInt = x.toInt - y.toInt := by
  rw [Int32.toInt_sub]
  exact Int.bmod_eq_of_le_mul_two (by omega) (by omega)
theorem q_mul {x y : Int32} (h : -2147483648 ≤ x.toInt * y.toInt ∧ x.toInt * y.toInt ≤ 2147483647) : (x * y).toInt = x.toInt * y.toInt := by
  rw [Int32.toInt_mul]
  exact Int.bmod_eq_of_le_mul_two (by omega) (by omega)
theorem q_oi {n : Int} (h : -2147483648 ≤ n ∧ n ≤ 2147483647) : (Int32.ofInt n).toInt = n := Int32.toInt_ofInt_of_le (by omega) (by omega)
section QI
variable {p : Program} {l : Launch} {e : Env} {R : Room} {s : State} {m : MethodId} {args : Array Value} {below : List Frame} {meth : Method} {c : Code} {H : Heap} {locs : List Loc} {cells slots : Nat} {Q : State → Prop}
variable {cc : ByteArray} {nL : Nat} {Ts : List Cond} {own : String} {pc : Nat} {ls : Array Slot} {rest : List Value}
theorem q_iconst (F : CallFix p m c cc nL s args Ts own) {n : Int} (hdg : decode cc pc = .ok (.iconst n, 1)) (hn : (Int32.ofInt n).toInt = n)
    (kk : ∀ v : Int32, v.toInt = n → W p l e R s m args below meth c H locs cells slots Q (F0 m (pc + 1) ls (.int v :: rest))) : W p l e R s m args below meth c H locs cells slots Q (F0 m pc ls rest) :=
  lv_iconst F.1 F.2.1 hdg rfl (kk _ hn)
theorem q_bipush (F : CallFix p m c cc nL s args Ts own) {n : Int} (hdg : decode cc pc = .ok (.bipush n, 2)) (hn : ((Int8.ofInt n).toInt32).toInt = n)
    (kk : ∀ v : Int32, v.toInt = n → W p l e R s m args below meth c H locs cells slots Q (F0 m (pc + 2) ls (.int v :: rest))) : W p l e R s m args below meth c H locs cells slots Q (F0 m pc ls rest) :=
  lv_bipush F.1 F.2.1 hdg rfl (kk _ hn)
theorem q_sipush (F : CallFix p m c cc nL s args Ts own) {n : Int} (hdg : decode cc pc = .ok (.sipush n, 3)) (hn : ((Int16.ofInt n).toInt32).toInt = n)
    (kk : ∀ v : Int32, v.toInt = n → W p l e R s m args below meth c H locs cells slots Q (F0 m (pc + 3) ls (.int v :: rest))) : W p l e R s m args below meth c H locs cells slots Q (F0 m pc ls rest) :=
  lv_sipush F.1 F.2.1 hdg rfl (kk _ hn)
theorem q_iadd (F : CallFix p m c cc nL s args Ts own) {x y : Int32} (hdg : decode cc pc = .ok (.iadd, 1)) (h : -2147483648 ≤ x.toInt + y.toInt ∧ x.toInt + y.toInt ≤ 2147483647)
    (kk : ∀ v : Int32, v.toInt = x.toInt + y.toInt → W p l e R s m args below meth c H locs cells slots Q (F0 m (pc + 1) ls (.int v :: rest))) : W p l e R s m args below meth c H locs cells slots Q (F0 m pc ls (.int y :: .int x :: rest)) :=
  lv_iadd F.1 F.2.1 hdg (kk _ (q_add h))
theorem q_isub (F : CallFix p m c cc nL s args Ts own) {x y : Int32} (hdg : decode cc pc = .ok (.isub, 1)) (h : -2147483648 ≤ x.toInt - y.toInt ∧ x.toInt - y.toInt ≤ 2147483647)
    (kk : ∀ v : Int32, v.toInt = x.toInt - y.toInt → W p l e R s m args below meth c H locs cells slots Q (F0 m (pc + 1) ls (.int v :: rest))) : W p l e R s m args below meth c H locs cells slots Q (F0 m pc ls (.int y :: .int x :: rest)) :=
  lv_isub F.1 F.2.1 hdg (kk _ (q_sub h))
theorem q_imul (F : CallFix p m c cc nL s args Ts own) {x y : Int32} (hdg : decode cc pc = .ok (.imul, 1)) (h : -2147483648 ≤ x.toInt * y.toInt ∧ x.toInt * y.toInt ≤ 2147483647)
    (kk : ∀ v : Int32, v.toInt = x.toInt * y.toInt → W p l e R s m args below meth c H locs cells slots Q (F0 m (pc + 1) ls (.int v :: rest))) : W p l e R s m args below meth c H locs cells slots Q (F0 m pc ls (.int y :: .int x :: rest)) :=
  lv_imul F.1 F.2.1 hdg (kk _ (q_mul h))
theorem q_iinc (F : CallFix p m c cc nL s args Ts own) {i k : Nat} {n : Int} {x : Int32} {lv : List (Nat × Value)} {lv' : Int32 → List (Nat × Value)} (hdg : decode cc pc = .ok (.iinc i n, 3)) (hl : lv_has ls nL lv) (hk : lv[k]? = some (i, .int x)) (hn : -2147483648 ≤ n ∧ n ≤ 2147483647) (h : -2147483648 ≤ x.toInt + n ∧ x.toInt + n ≤ 2147483647) (hi : i < nL) (hl' : ∀ v, (i, Value.int v) :: lv.filter (fun q => !(q.1 == i) && !(q.1 + 1 == i && q.2.category == 2)) = lv' v)
    (kk : ∀ (v : Int32) (ls' : Array Slot), v.toInt = x.toInt + n → lv_has ls' nL (lv' v) → W p l e R s m args below meth c H locs cells slots Q (F0 m (pc + 3) ls' rest)) : W p l e R s m args below meth c H locs cells slots Q (F0 m pc ls rest) := by
  have e : (x + Int32.ofInt n).toInt = x.toInt + n := by rw [q_add (by rw [q_oi hn]; exact h), q_oi hn]
  exact lv_iinc (v := x + Int32.ofInt n) (lv' := lv' (x + Int32.ofInt n)) F.1 F.2.1 hdg hl hk rfl hi (hl' _) (fun ls' h' => kk _ ls' e h')
theorem q_eqI {x y : Int32} : x = y ↔ x.toInt = y.toInt := Int32.toInt_inj.symm
theorem q_ltI {x y : Int32} : x < y ↔ x.toInt < y.toInt := Int32.lt_iff_toInt_lt
theorem q_leI {x y : Int32} : x ≤ y ↔ x.toInt ≤ y.toInt := Int32.le_iff_toInt_le
theorem q_icmp_eq (F : CallFix p m c cc nL s args Ts own) {x y : Int32} {off : Int} {tgt : Nat} (hdg : decode cc pc = .ok (.if_icmp .eq off, 3)) (ht : (pc : Int) + off = (tgt : Int))
    (kt : x.toInt = y.toInt → W p l e R s m args below meth c H locs cells slots Q (F0 m tgt ls rest)) (kf : x.toInt ≠ y.toInt → W p l e R s m args below meth c H locs cells slots Q (F0 m (pc + 3) ls rest)) : W p l e R s m args below meth c H locs cells slots Q (F0 m pc ls (.int y :: .int x :: rest)) := by
  have z0 : (0 : Int32).toInt = 0 := rfl
  refine lv_icmp_eq F.1 F.2.1 hdg ht (fun h => kt ?_) (fun h => kf ?_)
  · simp only [q_eqI, q_ltI, q_leI, z0, ge_iff_le, gt_iff_lt, ne_eq] at h ⊢; omega
  · simp only [q_eqI, q_ltI, q_leI, z0, ge_iff_le, gt_iff_lt, ne_eq] at h ⊢; omega
theorem q_if_eq (F : CallFix p m c cc nL s args Ts own) {x : Int32} {off : Int} {tgt : Nat} (hdg : decode cc pc = .ok (.ifCond .eq off, 3)) (ht : (pc : Int) + off = (tgt : Int))
    (kt : x.toInt = 0 → W p l e R s m args below meth c H locs cells slots Q (F0 m tgt ls rest)) (kf : x.toInt ≠ 0 → W p l e R s m args below meth c H locs cells slots Q (F0 m (pc + 3) ls rest)) : W p l e R s m args below meth c H locs cells slots Q (F0 m pc ls (.int x :: rest)) := by
  have z0 : (0 : Int32).toInt = 0 := rfl
  refine lv_if_eq F.1 F.2.1 hdg ht (fun h => kt ?_) (fun h => kf ?_)
  · simp only [q_eqI, q_ltI, q_leI, z0, ge_iff_le, gt_iff_lt, ne_eq] at h ⊢; omega
  · simp only [q_eqI, q_ltI, q_leI, z0, ge_iff_le, gt_iff_lt, ne_eq] at h ⊢; omega
theorem q_icmp_ne (F : CallFix p m c cc nL s args Ts own) {x y : Int32} {off : Int} {tgt : Nat} (hdg : decode cc pc = .ok (.if_icmp .ne off, 3)) (ht : (pc : Int) + off = (tgt : Int))
    (kt : x.toInt ≠ y.toInt → W p l e R s m args below meth c H locs cells slots Q (F0 m tgt ls rest)) (kf : x.toInt = y.toInt → W p l e R s m args below meth c H locs cells slots Q (F0 m (pc + 3) ls rest)) : W p l e R s m args below meth c H locs cells slots Q (F0 m pc ls (.int y :: .int x :: rest)) := by
  have z0 : (0 : Int32).toInt = 0 := rfl
  refine lv_icmp_ne F.1 F.2.1 hdg ht (fun h => kt ?_) (fun h => kf ?_)
  · simp only [q_eqI, q_ltI, q_leI, z0, ge_iff_le, gt_iff_lt, ne_eq] at h ⊢; omega
  · simp only [q_eqI, q_ltI, q_leI, z0, ge_iff_le, gt_iff_lt, ne_eq] at h ⊢; omega
theorem q_if_ne (F : CallFix p m c cc nL s args Ts own) {x : Int32} {off : Int} {tgt : Nat} (hdg : decode cc pc = .ok (.ifCond .ne off, 3)) (ht : (pc : Int) + off = (tgt : Int))
    (kt : x.toInt ≠ 0 → W p l e R s m args below meth c H locs cells slots Q (F0 m tgt ls rest)) (kf : x.toInt = 0 → W p l e R s m args below meth c H locs cells slots Q (F0 m (pc + 3) ls rest)) : W p l e R s m args below meth c H locs cells slots Q (F0 m pc ls (.int x :: rest)) := by
  have z0 : (0 : Int32).toInt = 0 := rfl
  refine lv_if_ne F.1 F.2.1 hdg ht (fun h => kt ?_) (fun h => kf ?_)
  · simp only [q_eqI, q_ltI, q_leI, z0, ge_iff_le, gt_iff_lt, ne_eq] at h ⊢; omega
  · simp only [q_eqI, q_ltI, q_leI, z0, ge_iff_le, gt_iff_lt, ne_eq] at h ⊢; omega
theorem q_icmp_lt (F : CallFix p m c cc nL s args Ts own) {x y : Int32} {off : Int} {tgt : Nat} (hdg : decode cc pc = .ok (.if_icmp .lt off, 3)) (ht : (pc : Int) + off = (tgt : Int))
    (kt : x.toInt < y.toInt → W p l e R s m args below meth c H locs cells slots Q (F0 m tgt ls rest)) (kf : y.toInt ≤ x.toInt → W p l e R s m args below meth c H locs cells slots Q (F0 m (pc + 3) ls rest)) : W p l e R s m args below meth c H locs cells slots Q (F0 m pc ls (.int y :: .int x :: rest)) := by
  have z0 : (0 : Int32).toInt = 0 := rfl
  refine lv_icmp_lt F.1 F.2.1 hdg ht (fun h => kt ?_) (fun h => kf ?_)
  · simp only [q_eqI, q_ltI, q_leI, z0, ge_iff_le, gt_iff_lt, ne_eq] at h ⊢; omega
  · simp only [q_eqI, q_ltI, q_leI, z0, ge_iff_le, gt_iff_lt, ne_eq] at h ⊢; omega
theorem q_if_lt (F : CallFix p m c cc nL s args Ts own) {x : Int32} {off : Int} {tgt : Nat} (hdg : decode cc pc = .ok (.ifCond .lt off, 3)) (ht : (pc : Int) + off = (tgt : Int))
    (kt : x.toInt < 0 → W p l e R s m args below meth c H locs cells slots Q (F0 m tgt ls rest)) (kf : 0 ≤ x.toInt → W p l e R s m args below meth c H locs cells slots Q (F0 m (pc + 3) ls rest)) : W p l e R s m args below meth c H locs cells slots Q (F0 m pc ls (.int x :: rest)) := by
  have z0 : (0 : Int32).toInt = 0 := rfl
  refine lv_if_lt F.1 F.2.1 hdg ht (fun h => kt ?_) (fun h => kf ?_)
  · simp only [q_eqI, q_ltI, q_leI, z0, ge_iff_le, gt_iff_lt, ne_eq] at h ⊢; omega
  · simp only [q_eqI, q_ltI, q_leI, z0, ge_iff_le, gt_iff_lt, ne_eq] at h ⊢; omega
theorem q_icmp_ge (F : CallFix p m c cc nL s args Ts own) {x y : Int32} {off : Int} {tgt : Nat} (hdg : decode cc pc = .ok (.if_icmp .ge off, 3)) (ht : (pc : Int) + off = (tgt : Int))
    (kt : y.toInt ≤ x.toInt → W p l e R s m args below meth c H locs cells slots Q (F0 m tgt ls rest)) (kf : x.toInt < y.toInt → W p l e R s m args below meth c H locs cells slots Q (F0 m (pc + 3) ls rest)) : W p l e R s m args below meth c H locs cells slots Q (F0 m pc ls (.int y :: .int x :: rest)) := by
  have z0 : (0 : Int32).toInt = 0 := rfl
  refine lv_icmp_ge F.1 F.2.1 hdg ht (fun h => kt ?_) (fun h => kf ?_)
  · simp only [q_eqI, q_ltI, q_leI, z0, ge_iff_le, gt_iff_lt, ne_eq] at h ⊢; omega
  · simp only [q_eqI, q_ltI, q_leI, z0, ge_iff_le, gt_iff_lt, ne_eq] at h ⊢; omega
theorem q_if_ge (F : CallFix p m c cc nL s args Ts own) {x : Int32} {off : Int} {tgt : Nat} (hdg : decode cc pc = .ok (.ifCond .ge off, 3)) (ht : (pc : Int) + off = (tgt : Int))
    (kt : 0 ≤ x.toInt → W p l e R s m args below meth c H locs cells slots Q (F0 m tgt ls rest)) (kf : x.toInt < 0 → W p l e R s m args below meth c H locs cells slots Q (F0 m (pc + 3) ls rest)) : W p l e R s m args below meth c H locs cells slots Q (F0 m pc ls (.int x :: rest)) := by
  have z0 : (0 : Int32).toInt = 0 := rfl
  refine lv_if_ge F.1 F.2.1 hdg ht (fun h => kt ?_) (fun h => kf ?_)
  · simp only [q_eqI, q_ltI, q_leI, z0, ge_iff_le, gt_iff_lt, ne_eq] at h ⊢; omega
  · simp only [q_eqI, q_ltI, q_leI, z0, ge_iff_le, gt_iff_lt, ne_eq] at h ⊢; omega
theorem q_icmp_gt (F : CallFix p m c cc nL s args Ts own) {x y : Int32} {off : Int} {tgt : Nat} (hdg : decode cc pc = .ok (.if_icmp .gt off, 3)) (ht : (pc : Int) + off = (tgt : Int))
    (kt : y.toInt < x.toInt → W p l e R s m args below meth c H locs cells slots Q (F0 m tgt ls rest)) (kf : x.toInt ≤ y.toInt → W p l e R s m args below meth c H locs cells slots Q (F0 m (pc + 3) ls rest)) : W p l e R s m args below meth c H locs cells slots Q (F0 m pc ls (.int y :: .int x :: rest)) := by
  have z0 : (0 : Int32).toInt = 0 := rfl
  refine lv_icmp_gt F.1 F.2.1 hdg ht (fun h => kt ?_) (fun h => kf ?_)
  · simp only [q_eqI, q_ltI, q_leI, z0, ge_iff_le, gt_iff_lt, ne_eq] at h ⊢; omega
  · simp only [q_eqI, q_ltI, q_leI, z0, ge_iff_le, gt_iff_lt, ne_eq] at h ⊢; omega
theorem q_if_gt (F : CallFix p m c cc nL s args Ts own) {x : Int32} {off : Int} {tgt : Nat} (hdg : decode cc pc = .ok (.ifCond .gt off, 3)) (ht : (pc : Int) + off = (tgt : Int))
    (kt : 0 < x.toInt → W p l e R s m args below meth c H locs cells slots Q (F0 m tgt ls rest)) (kf : x.toInt ≤ 0 → W p l e R s m args below meth c H locs cells slots Q (F0 m (pc + 3) ls rest)) : W p l e R s m args below meth c H locs cells slots Q (F0 m pc ls (.int x :: rest)) := by
  have z0 : (0 : Int32).toInt = 0 := rfl
  refine lv_if_gt F.1 F.2.1 hdg ht (fun h => kt ?_) (fun h => kf ?_)
  · simp only [q_eqI, q_ltI, q_leI, z0, ge_iff_le, gt_iff_lt, ne_eq] at h ⊢; omega
  · simp only [q_eqI, q_ltI, q_leI, z0, ge_iff_le, gt_iff_lt, ne_eq] at h ⊢; omega
theorem q_icmp_le (F : CallFix p m c cc nL s args Ts own) {x y : Int32} {off : Int} {tgt : Nat} (hdg : decode cc pc = .ok (.if_icmp .le off, 3)) (ht : (pc : Int) + off = (tgt : Int))
    (kt : x.toInt ≤ y.toInt → W p l e R s m args below meth c H locs cells slots Q (F0 m tgt ls rest)) (kf : y.toInt < x.toInt → W p l e R s m args below meth c H locs cells slots Q (F0 m (pc + 3) ls rest)) : W p l e R s m args below meth c H locs cells slots Q (F0 m pc ls (.int y :: .int x :: rest)) := by
  have z0 : (0 : Int32).toInt = 0 := rfl
  refine lv_icmp_le F.1 F.2.1 hdg ht (fun h => kt ?_) (fun h => kf ?_)
  · simp only [q_eqI, q_ltI, q_leI, z0, ge_iff_le, gt_iff_lt, ne_eq] at h ⊢; omega
  · simp only [q_eqI, q_ltI, q_leI, z0, ge_iff_le, gt_iff_lt, ne_eq] at h ⊢; omega
theorem q_if_le (F : CallFix p m c cc nL s args Ts own) {x : Int32} {off : Int} {tgt : Nat} (hdg : decode cc pc = .ok (.ifCond .le off, 3)) (ht : (pc : Int) + off = (tgt : Int))
    (kt : x.toInt ≤ 0 → W p l e R s m args below meth c H locs cells slots Q (F0 m tgt ls rest)) (kf : 0 < x.toInt → W p l e R s m args below meth c H locs cells slots Q (F0 m (pc + 3) ls rest)) : W p l e R s m args below meth c H locs cells slots Q (F0 m pc ls (.int x :: rest)) := by
  have z0 : (0 : Int32).toInt = 0 := rfl
  refine lv_if_le F.1 F.2.1 hdg ht (fun h => kt ?_) (fun h => kf ?_)
  · simp only [q_eqI, q_ltI, q_leI, z0, ge_iff_le, gt_iff_lt, ne_eq] at h ⊢; omega
  · simp only [q_eqI, q_ltI, q_leI, z0, ge_iff_le, gt_iff_lt, ne_eq] at h ⊢; omega
end QI
