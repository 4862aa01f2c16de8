/-! quotients, remainders, the lesser and the greater, shifts by four -/
theorem q_nat {x : Int32} (h : 0 ≤ x.toInt) : ∃ a : Nat, x.toInt = (a : Int) ∧ a < 2 ^ 31 := ⟨x.toInt.toNat, by omega, by have := q_rng x; omega⟩
theorem mm_min_code : Cond.code Lib.Math.min.name Lib.Math.min.code 2 (some .int) ∈ lw_good := tw_at 433 (by decide +kernel) (by decide +kernel)
theorem mm_min_static : Cond.static Lib.Math.min.name ∈ lw_good := tw_at 432 (by decide +kernel) (by decide +kernel)
theorem mm_max_code : Cond.code Lib.Math.max.name Lib.Math.max.code 2 (some .int) ∈ lw_good := tw_at 470 (by decide +kernel) (by decide +kernel)
theorem mm_max_static : Cond.static Lib.Math.max.name ∈ lw_good := tw_at 469 (by decide +kernel) (by decide +kernel)
section QQ
variable {p : Program} {l : Launch} {e : Env} {R : Room} {s : State} {m : MethodId} {args : Array Value} {below : List Frame} {meth : Method} {c : Code} {H : Heap} {locs : List Loc} {cells slots : Nat} {Q : State → Prop}
variable {cc : ByteArray} {nL : Nat} {own : String} {pc : Nat} {ls : Array Slot} {rest : List Value}
theorem q_irem (F : CallFix p m c cc nL s args lw_good own) {x y : Int32} (hx : 0 ≤ x.toInt) (hy : 0 < y.toInt) (hdg : decode cc pc = .ok (.irem, 1)) (kk : ∀ v : Int32, v.toInt = x.toInt % y.toInt → W p l e R s m args below meth c H locs cells slots Q (F0 m (pc + 1) ls (.int v :: rest))) : W p l e R s m args below meth c H locs cells slots Q (F0 m pc ls (.int y :: .int x :: rest)) := by
  obtain ⟨a, ha, ha2⟩ := q_nat hx
  obtain ⟨d, hd, hd2⟩ := q_nat (x := y) (by omega)
  have z0 : (0 : Int32).toInt = 0 := rfl
  refine lv_irem F.1 F.2.1 hdg (by rw [q_eqI, z0]; omega) (kk _ ?_)
  rw [ha, hd, q_nI ha, q_nI hd, pk_rem ha2 (by omega) hd2, nI_toInt (Nat.lt_of_le_of_lt (Nat.mod_le _ _) ha2)]
  rfl
theorem q_idiv (F : CallFix p m c cc nL s args lw_good own) {x y : Int32} (hx : 0 ≤ x.toInt) (hy : 0 < y.toInt) (hdg : decode cc pc = .ok (.idiv, 1)) (kk : ∀ v : Int32, v.toInt = x.toInt / y.toInt → W p l e R s m args below meth c H locs cells slots Q (F0 m (pc + 1) ls (.int v :: rest))) : W p l e R s m args below meth c H locs cells slots Q (F0 m pc ls (.int y :: .int x :: rest)) := by
  obtain ⟨a, ha, ha2⟩ := q_nat hx
  obtain ⟨d, hd, hd2⟩ := q_nat (x := y) (by omega)
  have z0 : (0 : Int32).toInt = 0 := rfl
  refine lv_idiv F.1 F.2.1 hdg (by rw [q_eqI, z0]; omega) (kk _ ?_)
  rw [ha, hd, q_nI ha, q_nI hd, pk_div ha2 (by omega) hd2, nI_toInt (Nat.lt_of_le_of_lt (Nat.div_le_self _ _) ha2)]
  rfl
theorem q_min (F : CallFix p m c cc nL s args lw_good own) {x y : Int32} {index : Nat} (hsize : ls.size = nL) (hlink : Cond.methodLink own index Lib.Math.min.name ∈ lw_good) (hfr : 1 ≤ R.frames) (hlo : (rest.map fun v => v.category).sum + 13 ≤ R.locals) (hc : cells ≤ R.cells) (hs : slots ≤ R.slots) (hdg : decode cc pc = .ok (.invokestatic index, 3)) (kk : ∀ v : Int32, v.toInt = (if y.toInt < x.toInt then y.toInt else x.toInt) → W p l e R s m args below meth c H locs cells slots Q (F0 m (pc + 3) ls (.int v :: rest))) : W p l e R s m args below meth c H locs cells slots Q (F0 m pc ls (.int y :: .int x :: rest)) := by
  refine va_mmin F.1 F.2.1 (F.2.2.1.trans hsize.symm) F.2.2.2.1 (F.2.2.2.2 _ hlink) (F.2.2.2.2 _ mm_min_static) (F.2.2.2.2 _ tw_17) (F.2.2.2.2 _ mm_min_code) hfr hlo hc hs hdg (kk _ ?_)
  by_cases z : y < x
  · rw [if_pos z, if_pos (q_ltI.mp z)]
  · rw [if_neg z, if_neg (fun q => z (q_ltI.mpr q))]
theorem q_max (F : CallFix p m c cc nL s args lw_good own) {x y : Int32} {index : Nat} (hsize : ls.size = nL) (hlink : Cond.methodLink own index Lib.Math.max.name ∈ lw_good) (hfr : 1 ≤ R.frames) (hlo : (rest.map fun v => v.category).sum + 13 ≤ R.locals) (hc : cells ≤ R.cells) (hs : slots ≤ R.slots) (hdg : decode cc pc = .ok (.invokestatic index, 3)) (kk : ∀ v : Int32, v.toInt = (if x.toInt < y.toInt then y.toInt else x.toInt) → W p l e R s m args below meth c H locs cells slots Q (F0 m (pc + 3) ls (.int v :: rest))) : W p l e R s m args below meth c H locs cells slots Q (F0 m pc ls (.int y :: .int x :: rest)) := by
  refine va_mmax F.1 F.2.1 (F.2.2.1.trans hsize.symm) F.2.2.2.1 (F.2.2.2.2 _ hlink) (F.2.2.2.2 _ mm_max_static) (F.2.2.2.2 _ tw_17) (F.2.2.2.2 _ mm_max_code) hfr hlo hc hs hdg (kk _ ?_)
  by_cases z : x < y
  · rw [if_pos z, if_pos (q_ltI.mp z)]
  · rw [if_neg z, if_neg (fun q => z (q_ltI.mpr q))]
end QQ
