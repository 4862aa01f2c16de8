theorem wb_mod32 (n : Nat) : nI n = nI (n % 2 ^ 32) := Int32.toBitVec_inj.mp (by show BitVec.ofNat 32 n = BitVec.ofNat 32 _; apply BitVec.eq_of_toNat_eq; rw [BitVec.toNat_ofNat, BitVec.toNat_ofNat, Nat.mod_mod])
section QLL
variable {p : Program} {l : Launch} {e : Env} {R : Room} {s : State} {m : MethodId} {args : Array Value} {below : List Frame} {meth : Method} {c : Code} {H : Heap} {locs : List Loc} {cells slots : Nat} {Q : State → Prop}
variable {cc : ByteArray} {nL : Nat} {own : String} {pc : Nat} {ls : Array Slot} {rest : List Value}
theorem q_lushr (F : CallFix p m c cc nL s args lw_good own) {x : Int32} {S : Nat} (j : Nat) (hx : x.toInt = (j : Int)) (hj : j < 64) (hS : S < 2 ^ 64) (hdg : decode cc pc = .ok (.lushr, 1)) (kk : W p l e R s m args below meth c H locs cells slots Q (F0 m (pc + 1) ls (.long (lN (S / 2 ^ j)) :: rest))) : W p l e R s m args below meth c H locs cells slots Q (F0 m pc ls (.int x :: .long (lN S) :: rest)) := by
  refine lv_lushr (v := lN (S / 2 ^ j)) F.1 F.2.1 hdg ?_ kk
  rw [q_nI hx]
  exact wb_shr hS hj
theorem q_ladd (F : CallFix p m c cc nL s args lw_good own) {a b : Nat} (hdg : decode cc pc = .ok (.ladd, 1)) (kk : W p l e R s m args below meth c H locs cells slots Q (F0 m (pc + 1) ls (.long (lN (a + b)) :: rest))) : W p l e R s m args below meth c H locs cells slots Q (F0 m pc ls (.long (lN b) :: .long (lN a) :: rest)) := by
  refine lv_ladd F.1 F.2.1 hdg ?_
  rw [lN_add]
  exact kk
theorem q_lsub (F : CallFix p m c cc nL s args lw_good own) {a b : Nat} (h : b ≤ a) (hdg : decode cc pc = .ok (.lsub, 1)) (kk : W p l e R s m args below meth c H locs cells slots Q (F0 m (pc + 1) ls (.long (lN (a - b)) :: rest))) : W p l e R s m args below meth c H locs cells slots Q (F0 m pc ls (.long (lN b) :: .long (lN a) :: rest)) := by
  refine lv_lsub F.1 F.2.1 hdg ?_
  rw [lN_sub h]
  exact kk
end QLL
set_option maxHeartbeats 4000000 in
set_option maxRecDepth 100000 in
/-- how many bits -/
theorem k_Lo_bitCount (l : Launch) (D : va_G) (τ : Nat → ClassId) (A : Nat → Prop) (ad : Nat → Nat) (N : Nat) (w : Nat → va_E) (S : Nat) (hS : S < 2 ^ 40) : Met l y_Lo_bitCount (qws y_Lo_bitCount c_Lo_bitCount 2 (some .int)) ({ frames := 0, cells := 0, slots := 0, locals := 0 }) (qPc D τ A ad N w [.long (lN S)]) (va_Qi (fun r w1 => w1 = w ∧ r.toInt = (zc (fun i => S.testBit i = true) 40 : Int)) (qB D τ A ad N) A) 0 0 A := by
  refine q_of (by decide) (Nat.le_of_ble_eq_true rfl) rfl ?_
  intro PP EE s MM below meth CC ls F hr hlk hnm hex hl hW
  have hl : lv_has ls 2 [(0, .long (lN S))] := hl
  obtain ⟨a, ha⟩ : ∃ a, S - (S / 2 &&& 6148914691236517205) = a := ⟨_, rfl⟩
  obtain ⟨b, hb⟩ : ∃ b, (a &&& 3689348814741910323) + (a / 4 &&& 3689348814741910323) = b := ⟨_, rfl⟩
  obtain ⟨c, hc⟩ : ∃ c, (b + b / 16) &&& 1085102592571150095 = c := ⟨_, rfl⟩
  obtain ⟨z1, z2, z3, z4, z5⟩ := zbc hS ha hb hc
  refine lv_lload_n F.1 F.2.1 d_Lo_bitCount_0 rfl (lv_at hl 0 rfl) ?_
  refine lv_lload_n F.1 F.2.1 d_Lo_bitCount_1 rfl (lv_at hl 0 rfl) ?_
  refine q_iconst F d_Lo_bitCount_2 (by decide) (fun v1 hv1 => ?_)
  refine q_lushr F 1 (by omega) (by decide) (by omega) d_Lo_bitCount_3 ?_
  refine lv_ldc2 (v := lN 6148914691236517205) F.1 F.2.1 F.2.2.2.1 (F.2.2.2.2 _ tw_465) d_Lo_bitCount_4 ?_
  refine q_land F (by omega) (by decide) d_Lo_bitCount_7 ?_
  refine q_lsub F z1 d_Lo_bitCount_8 ?_
  refine lv_lstore_n (lv' := [(0, .long (lN (S - (((S / 2 ^ 1) &&& 6148914691236517205)))))]) F.1 F.2.1 d_Lo_bitCount_9 rfl hl (by decide) rfl (fun ls2 hl2 => ?_)
  clear hl
  have hl3 : lv_has ls2 2 [(0, .long (lN a))] := by rw [show S - (S / 2 ^ 1 &&& 6148914691236517205) = a from ha] at hl2; exact hl2
  clear hl2
  refine lv_lload_n F.1 F.2.1 d_Lo_bitCount_10 rfl (lv_at hl3 0 rfl) ?_
  refine lv_ldc2 (v := lN 3689348814741910323) F.1 F.2.1 F.2.2.2.1 (F.2.2.2.2 _ tw_466) d_Lo_bitCount_11 ?_
  refine q_land F (by omega) (by decide) d_Lo_bitCount_14 ?_
  refine lv_lload_n F.1 F.2.1 d_Lo_bitCount_15 rfl (lv_at hl3 0 rfl) ?_
  refine q_iconst F d_Lo_bitCount_16 (by decide) (fun v4 hv4 => ?_)
  refine q_lushr F 2 (by omega) (by decide) (by omega) d_Lo_bitCount_17 ?_
  refine lv_ldc2 (v := lN 3689348814741910323) F.1 F.2.1 F.2.2.2.1 (F.2.2.2.2 _ tw_466) d_Lo_bitCount_18 ?_
  refine q_land F (by omega) (by decide) d_Lo_bitCount_21 ?_
  refine q_ladd F d_Lo_bitCount_22 ?_
  refine lv_lstore_n (lv' := [(0, .long (lN ((a &&& 3689348814741910323) + ((a / 2 ^ 2) &&& 3689348814741910323))))]) F.1 F.2.1 d_Lo_bitCount_23 rfl hl3 (by decide) rfl (fun ls5 hl5 => ?_)
  clear hl3
  have hl6 : lv_has ls5 2 [(0, .long (lN b))] := by rw [show (a &&& 3689348814741910323) + (a / 2 ^ 2 &&& 3689348814741910323) = b from hb] at hl5; exact hl5
  clear hl5
  refine lv_lload_n F.1 F.2.1 d_Lo_bitCount_24 rfl (lv_at hl6 0 rfl) ?_
  refine lv_lload_n F.1 F.2.1 d_Lo_bitCount_25 rfl (lv_at hl6 0 rfl) ?_
  refine q_iconst F d_Lo_bitCount_26 (by decide) (fun v7 hv7 => ?_)
  refine q_lushr F 4 (by omega) (by decide) (by omega) d_Lo_bitCount_27 ?_
  refine q_ladd F d_Lo_bitCount_28 ?_
  refine lv_ldc2 (v := lN 1085102592571150095) F.1 F.2.1 F.2.2.2.1 (F.2.2.2.2 _ tw_467) d_Lo_bitCount_29 ?_
  refine q_land F (by omega) (by decide) d_Lo_bitCount_32 ?_
  refine lv_lstore_n (lv' := [(0, .long (lN ((b + (b / 2 ^ 4)) &&& 1085102592571150095)))]) F.1 F.2.1 d_Lo_bitCount_33 rfl hl6 (by decide) rfl (fun ls8 hl8 => ?_)
  clear hl6
  have hl9 : lv_has ls8 2 [(0, .long (lN c))] := by rw [show (b + b / 2 ^ 4) &&& 1085102592571150095 = c from hc] at hl8; exact hl8
  clear hl8
  obtain ⟨d, hd⟩ : ∃ d, c + c / 256 = d := ⟨_, rfl⟩
  obtain ⟨g, hg⟩ : ∃ g, d + d / 65536 = g := ⟨_, rfl⟩
  obtain ⟨h, hh⟩ : ∃ h, g + g / 4294967296 = h := ⟨_, rfl⟩
  rw [hd, hg, hh] at z5
  have d1 : d < 2 ^ 42 := by omega
  have g1 : g < 2 ^ 44 := by omega
  have h1 : h < 2 ^ 46 := by omega
  refine lv_lload_n F.1 F.2.1 d_Lo_bitCount_34 rfl (lv_at hl9 0 rfl) ?_
  refine lv_lload_n F.1 F.2.1 d_Lo_bitCount_35 rfl (lv_at hl9 0 rfl) ?_
  refine q_bipush F d_Lo_bitCount_36 (by decide) (fun v10 hv10 => ?_)
  refine q_lushr F 8 (by omega) (by decide) (by omega) d_Lo_bitCount_38 ?_
  refine q_ladd F d_Lo_bitCount_39 ?_
  refine lv_lstore_n (lv' := [(0, .long (lN (c + (c / 2 ^ 8))))]) F.1 F.2.1 d_Lo_bitCount_40 rfl hl9 (by decide) rfl (fun ls11 hl11 => ?_)
  clear hl9
  have hl12 : lv_has ls11 2 [(0, .long (lN d))] := by rw [show c + c / 2 ^ 8 = d from hd] at hl11; exact hl11
  clear hl11
  refine lv_lload_n F.1 F.2.1 d_Lo_bitCount_41 rfl (lv_at hl12 0 rfl) ?_
  refine lv_lload_n F.1 F.2.1 d_Lo_bitCount_42 rfl (lv_at hl12 0 rfl) ?_
  refine q_bipush F d_Lo_bitCount_43 (by decide) (fun v13 hv13 => ?_)
  refine q_lushr F 16 (by omega) (by decide) (by omega) d_Lo_bitCount_45 ?_
  refine q_ladd F d_Lo_bitCount_46 ?_
  refine lv_lstore_n (lv' := [(0, .long (lN (d + (d / 2 ^ 16))))]) F.1 F.2.1 d_Lo_bitCount_47 rfl hl12 (by decide) rfl (fun ls14 hl14 => ?_)
  clear hl12
  have hl15 : lv_has ls14 2 [(0, .long (lN g))] := by rw [show d + d / 2 ^ 16 = g from hg] at hl14; exact hl14
  clear hl14
  refine lv_lload_n F.1 F.2.1 d_Lo_bitCount_48 rfl (lv_at hl15 0 rfl) ?_
  refine lv_lload_n F.1 F.2.1 d_Lo_bitCount_49 rfl (lv_at hl15 0 rfl) ?_
  refine q_bipush F d_Lo_bitCount_50 (by decide) (fun v16 hv16 => ?_)
  refine q_lushr F 32 (by omega) (by decide) (by omega) d_Lo_bitCount_52 ?_
  refine q_ladd F d_Lo_bitCount_53 ?_
  refine lv_lstore_n (lv' := [(0, .long (lN (g + (g / 2 ^ 32))))]) F.1 F.2.1 d_Lo_bitCount_54 rfl hl15 (by decide) rfl (fun ls17 hl17 => ?_)
  clear hl15
  have hl18 : lv_has ls17 2 [(0, .long (lN h))] := by rw [show g + g / 2 ^ 32 = h from hh] at hl17; exact hl17
  clear hl17
  refine lv_lload_n F.1 F.2.1 d_Lo_bitCount_55 rfl (lv_at hl18 0 rfl) ?_
  refine lv_l2i (v := nI h) F.1 F.2.1 d_Lo_bitCount_56 (lN_i h) ?_
  refine q_bipush F d_Lo_bitCount_57 (by decide) (fun v19 hv19 => ?_)
  have e7 : (nI h) &&& v19 = nI (h % 128) := by rw [q_nI (j := 127) hv19, wb_mod32 h, pk_andN (Nat.mod_lt _ (by decide)) 7 (by decide)]; congr 1; omega
  refine lv_iand F.1 F.2.1 d_Lo_bitCount_59 ?_
  rw [e7]
  exact q_iret F hr hlk hW ⟨rfl, by rw [nI_toInt (by omega), zpb_zc, ← z5]⟩ d_Lo_bitCount_60
