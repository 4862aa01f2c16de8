theorem mo_far : Cond.constant "LabelRouterModel" 78 1000000 ∈ lw_good := tw_at 833 (by decide +kernel) (by decide +kernel)
section QFAR
variable {p : Program} {l : Launch} {e : Env} {R : Room} {s : State} {m : MethodId} {args : Array Value} {below : List Frame} {meth : Method} {c : Code} {H : Heap} {locs : List Loc} {cells slots : Nat} {Q : State → Prop}
variable {cc : ByteArray} {nL : Nat} {pc : Nat} {ls : Array Slot} {rest : List Value}
theorem q_far (F : CallFix p m c cc nL s args lw_good "LabelRouterModel") (hdg : decode cc pc = .ok (.ldc 78, 2)) (kk : ∀ v : Int32, v.toInt = 1000000 → W p l e R s m args below meth c H locs cells slots Q (F0 m (pc + 2) ls (.int v :: rest))) : W p l e R s m args below meth c H locs cells slots Q (F0 m pc ls rest) := lv_ldc F.1 F.2.1 F.2.2.2.1 (F.2.2.2.2 _ mo_far) hdg (kk _ rfl)
end QFAR
theorem zcS {P : Nat → Prop} {i : Nat} {v v' : Int} (h : v = (zc P i : Int)) (hb : (P i ∧ v' = v + 1) ∨ (¬ P i ∧ v' = v)) : v' = (zc P (i + 1) : Int) := by
  rcases hb with ⟨z, e⟩ | ⟨z, e⟩
  · rw [zc_t z]; omega
  · rw [zc_f z]; omega
theorem zf_no {P : Nat → Prop} {n i : Nat} (hi : i = n) (h : ∀ j, j < i → ¬ P j) : zf P n = -1 := zf_none (fun j hj => h j (by omega))
set_option maxHeartbeats 4000000 in
set_option maxRecDepth 100000 in
/-- what was thrown -/
theorem k_Mo_thrown (l : Launch) (D : va_G) (τ : Nat → ClassId) (A : Nat → Prop) (ad : Nat → Nat) (N : Nat) (w : Nat → va_E) (hb : 484 ≤ N) (th n32 b32 s32 p32 : Int32) (mo : w 469 = .inr (7, [.int th, .int n32, .ref (ad 470), .ref (ad 471), .ref (ad 472), .ref (ad 473), .ref (ad 474), .ref (ad 475), .int b32, .ref (ad 476), .ref (ad 477), .ref (ad 478), .ref (ad 479), .ref (ad 480), .int s32, .int p32, .ref (ad 481), .ref (ad 482), .ref (ad 483)])) (m : Nat) (hn : n32.toInt = m) (hm40 : m ≤ 40) : Met l y_Mo_thrown (qws y_Mo_thrown c_Mo_thrown 1 (some .int)) ({ frames := 0, cells := 0, slots := 0, locals := 0 }) (qPc D τ A ad N w [.ref (ad 469)]) (va_Qi (fun r1 w1 => w1 = w ∧ r1 = th) (qB D τ A ad N) A) 0 0 A := by
  refine q_of (by decide) (Nat.le_of_ble_eq_true rfl) rfl ?_
  intro PP EE s MM below meth CC ls F hr hlk hnm hex hl hW
  have hl : lv_has ls 1 [(0, .ref (ad 469))] := hl
  refine lv_aload_n F.1 F.2.1 d_Mo_thrown_0 rfl (lv_at hl 0 rfl) ?_
  refine gf_Mo_57 F hW (by omega) mo d_Mo_thrown_1 ?_
  exact q_iret F hr hlk hW ⟨rfl, rfl⟩ d_Mo_thrown_4
set_option maxHeartbeats 4000000 in
set_option maxRecDepth 100000 in
/-- a node -/
theorem k_Mo_isNode (l : Launch) (D : va_G) (τ : Nat → ClassId) (A : Nat → Prop) (ad : Nat → Nat) (N : Nat) (w : Nat → va_E) (hb : 484 ≤ N) (th n32 b32 s32 p32 : Int32) (mo : w 469 = .inr (7, [.int th, .int n32, .ref (ad 470), .ref (ad 471), .ref (ad 472), .ref (ad 473), .ref (ad 474), .ref (ad 475), .int b32, .ref (ad 476), .ref (ad 477), .ref (ad 478), .ref (ad 479), .ref (ad 480), .int s32, .int p32, .ref (ad 481), .ref (ad 482), .ref (ad 483)])) (m : Nat) (hn : n32.toInt = m) (hm40 : m ≤ 40) (x : Int32) : Met l y_Mo_isNode (qws y_Mo_isNode c_Mo_isNode 2 (some .boolean)) ({ frames := 0, cells := 0, slots := 0, locals := 0 }) (qPc D τ A ad N w [.ref (ad 469), .int x]) (va_Qi (fun r1 w1 => w1 = w ∧ qb (0 ≤ x.toInt ∧ x.toInt < m) r1) (qB D τ A ad N) A) 0 0 A := by
  refine q_of (by decide) (Nat.le_of_ble_eq_true rfl) rfl ?_
  intro PP EE s MM below meth CC ls F hr hlk hnm hex hl hW
  have hl : lv_has ls 2 [(0, .ref (ad 469)), (1, .int x)] := hl
  refine lv_iload_n F.1 F.2.1 d_Mo_isNode_0 rfl (lv_at hl 1 rfl) ?_
  refine q_if_lt (tgt := 16) F d_Mo_isNode_1 (by decide) (fun c1 => ?_) (fun c1 => ?_)
  · refine q_iconst F d_Mo_isNode_16 (by decide) (fun v1 hv1 => ?_)
    have hb1 := qb_0 (P := 0 ≤ x.toInt ∧ x.toInt < m) hv1 (by omega)
    exact q_zret F hr hlk hW (qb_01 hb1) ⟨rfl, hb1⟩ d_Mo_isNode_17
  · refine lv_iload_n F.1 F.2.1 d_Mo_isNode_4 rfl (lv_at hl 1 rfl) ?_
    refine lv_aload_n F.1 F.2.1 d_Mo_isNode_5 rfl (lv_at hl 0 rfl) ?_
    refine gf_Mo_7 F hW (by omega) mo d_Mo_isNode_6 ?_
    refine q_icmp_ge (tgt := 16) F d_Mo_isNode_9 (by decide) (fun c9 => ?_) (fun c9 => ?_)
    · refine q_iconst F d_Mo_isNode_16 (by decide) (fun v2 hv2 => ?_)
      have hb1 := qb_0 (P := 0 ≤ x.toInt ∧ x.toInt < m) hv2 (by omega)
      exact q_zret F hr hlk hW (qb_01 hb1) ⟨rfl, hb1⟩ d_Mo_isNode_17
    · refine q_iconst F d_Mo_isNode_12 (by decide) (fun v3 hv3 => ?_)
      refine lv_goto (tgt := 17) F.1 F.2.1 d_Mo_isNode_13 (by decide) ?_
      have hb1 := qb_1 (P := 0 ≤ x.toInt ∧ x.toInt < m) hv3 (by omega)
      exact q_zret F hr hlk hW (qb_01 hb1) ⟨rfl, hb1⟩ d_Mo_isNode_17
set_option maxHeartbeats 4000000 in
set_option maxRecDepth 100000 in
/-- a port -/
theorem k_Mo_portOf (l : Launch) (D : va_G) (τ : Nat → ClassId) (A : Nat → Prop) (ad : Nat → Nat) (N : Nat) (w : Nat → va_E) (k : Nat) (hk : k < N) (m : Nat) (hm40 : m ≤ 40) (G : Nat → Int) (hG : q_I τ w k 640 G) (bh : Nat → Nat → Int) (hGf : ∀ a b, a < m → b < 16 → G (16 * a + b) = bh a b) (x y : Int32) (a : Nat) (hx : x.toInt = a) (ha : a < m) : Met l y_Mo_portOf (qws y_Mo_portOf c_Mo_portOf 4 (some .int)) ({ frames := 0, cells := 0, slots := 0, locals := 0 }) (qPc D τ A ad N w [.ref (ad k), .int x, .int y]) (va_Qi (fun r1 w1 => w1 = w ∧ r1.toInt = zp bh a y.toInt) (qB D τ A ad N) A) 0 0 A := by
  refine q_of (by decide) (Nat.le_of_ble_eq_true rfl) rfl ?_
  intro PP EE s MM below meth CC ls F hr hlk hnm hex hl hW
  have hl : lv_has ls 4 [(0, .ref (ad k)), (1, .int x), (2, .int y)] := hl
  refine q_iconst F d_Mo_portOf_0 (by decide) (fun v1 hv1 => ?_)
  refine lv_istore_n (lv' := [(3, .int v1), (0, .ref (ad k)), (1, .int x), (2, .int y)]) F.1 F.2.1 d_Mo_portOf_1 rfl hl (by decide) rfl (fun ls2 hl2 => ?_)
  clear hl
  obtain ⟨i, hi0⟩ : ∃ i : Nat, i = 0 := ⟨_, rfl⟩
  have hiv : v1.toInt = (i : Int) := by omega
  have hib : i ≤ 16 := by omega
  have hno : ∀ j, j < i → bh a j ≠ y.toInt := fun j hj => absurd hj (by omega)
  clear hi0 hv1
  obtain ⟨f, hf⟩ : ∃ f : Nat, 16 + 1 ≤ i + f := ⟨16 + 1, by omega⟩
  induction f generalizing i v1 ls2 with
  | zero => exact absurd hf (by omega)
  | succ f ihi =>
    refine lv_iload_n F.1 F.2.1 d_Mo_portOf_2 rfl (lv_at hl2 0 rfl) ?_
    refine q_bipush F d_Mo_portOf_3 (by decide) (fun v3 hv3 => ?_)
    refine q_icmp_ge (tgt := 28) F d_Mo_portOf_5 (by decide) (fun c5 => ?_) (fun c5 => ?_)
    · refine q_iconst F d_Mo_portOf_28 (by decide) (fun v4 hv4 => ?_)
      exact q_iret F hr hlk hW ⟨rfl, by rw [hv4]; exact (zf_no (P := fun p => bh a p = y.toInt) (show i = 16 by omega) hno).symm⟩ d_Mo_portOf_29
    · refine lv_aload_n F.1 F.2.1 d_Mo_portOf_8 rfl (lv_at hl2 1 rfl) ?_
      refine q_bipush F d_Mo_portOf_9 (by decide) (fun v5 hv5 => ?_)
      refine lv_iload_n F.1 F.2.1 d_Mo_portOf_11 rfl (lv_at hl2 2 rfl) ?_
      refine q_imul F d_Mo_portOf_12 (by rw [hv5]; omega) (fun v6 hv6 => ?_)
      rw [hv5] at hv6
      refine lv_iload_n F.1 F.2.1 d_Mo_portOf_13 rfl (lv_at hl2 0 rfl) ?_
      refine q_iadd F d_Mo_portOf_14 (by omega) (fun v7 hv7 => ?_)
      refine q_iald F hW hG hk ((16 * a) + i) (by omega) (by omega) d_Mo_portOf_15 (fun v8 hv8 => ?_)
      rw [hGf a i (by omega) (by omega)] at hv8
      refine lv_iload_n F.1 F.2.1 d_Mo_portOf_16 rfl (lv_at hl2 3 rfl) ?_
      refine q_icmp_ne (tgt := 22) F d_Mo_portOf_17 (by decide) (fun c17 => ?_) (fun c17 => ?_)
      · refine q_iinc (lv' := fun v9 => [(3, .int v9), (0, .ref (ad k)), (1, .int x), (2, .int y)]) F d_Mo_portOf_22 hl2 (k := 0) rfl (by decide) (by omega) (by decide) (fun _ => rfl) (fun v9 lsv9 hv9 hlv9 => ?_)
        clear hl2
        refine lv_goto (tgt := 2) F.1 F.2.1 d_Mo_portOf_25 (by decide) ?_
        exact ihi (i := i + 1) (v1 := v9) (ls2 := lsv9) (hiv := by omega) (hib := by omega) (hno := fun j hj => (Nat.lt_or_ge j i).elim (hno j) (fun z => by rw [show j = i by omega]; omega)) (hf := by omega) (hl2 := (lv_sub hlv9 [0, 1, 2, 3] rfl))
      · refine lv_iload_n F.1 F.2.1 d_Mo_portOf_20 rfl (lv_at hl2 0 rfl) ?_
        exact q_iret F hr hlk hW ⟨rfl, by rw [hiv]; exact (zp_is (by omega) (by omega) hno).symm⟩ d_Mo_portOf_21
set_option maxHeartbeats 4000000 in
set_option maxRecDepth 100000 in
/-- the least weight then -/
theorem k_Mo_d (l : Launch) (D : va_G) (τ : Nat → ClassId) (A : Nat → Prop) (ad : Nat → Nat) (N : Nat) (w : Nat → va_E) (hb : 484 ≤ N) (th n32 b32 s32 p32 : Int32) (mo : w 469 = .inr (7, [.int th, .int n32, .ref (ad 470), .ref (ad 471), .ref (ad 472), .ref (ad 473), .ref (ad 474), .ref (ad 475), .int b32, .ref (ad 476), .ref (ad 477), .ref (ad 478), .ref (ad 479), .ref (ad 480), .int s32, .int p32, .ref (ad 481), .ref (ad 482), .ref (ad 483)])) (m : Nat) (hn : n32.toInt = m) (hm40 : m ≤ 40) (T : Nat → Int) (hT : q_I τ w 475 1600 T) (d : Nat → Nat → Int) (hTf : ∀ a b, a < m → b < m → T (40 * a + b) = d a b) (x y : Int32) (a c : Nat) (hx : x.toInt = a) (hy : y.toInt = c) (ha : a < m) (hc : c < m) : Met l y_Mo_d (qws y_Mo_d c_Mo_d 3 (some .int)) ({ frames := 0, cells := 0, slots := 0, locals := 0 }) (qPc D τ A ad N w [.ref (ad 469), .int x, .int y]) (va_Qi (fun r1 w1 => w1 = w ∧ r1.toInt = d a c) (qB D τ A ad N) A) 0 0 A := by
  refine q_of (by decide) (Nat.le_of_ble_eq_true rfl) rfl ?_
  intro PP EE s MM below meth CC ls F hr hlk hnm hex hl hW
  have hl : lv_has ls 3 [(0, .ref (ad 469)), (1, .int x), (2, .int y)] := hl
  refine lv_aload_n F.1 F.2.1 d_Mo_d_0 rfl (lv_at hl 0 rfl) ?_
  refine gf_Mo_29 F hW (by omega) mo d_Mo_d_1 ?_
  refine q_bipush F d_Mo_d_4 (by decide) (fun v1 hv1 => ?_)
  refine lv_iload_n F.1 F.2.1 d_Mo_d_6 rfl (lv_at hl 1 rfl) ?_
  refine q_imul F d_Mo_d_7 (by rw [hv1]; omega) (fun v2 hv2 => ?_)
  rw [hv1] at hv2
  refine lv_iload_n F.1 F.2.1 d_Mo_d_8 rfl (lv_at hl 2 rfl) ?_
  refine q_iadd F d_Mo_d_9 (by omega) (fun v3 hv3 => ?_)
  refine q_iald F hW hT (by omega) ((40 * a) + c) (by omega) (by omega) d_Mo_d_10 (fun v4 hv4 => ?_)
  rw [hTf a c (by omega) (by omega)] at hv4
  exact q_iret F hr hlk hW ⟨rfl, hv4⟩ d_Mo_d_11
set_option maxHeartbeats 4000000 in
set_option maxRecDepth 100000 in
/-- how many are ahead -/
theorem k_Mo_ahead (l : Launch) (D : va_G) (τ : Nat → ClassId) (A : Nat → Prop) (ad : Nat → Nat) (N : Nat) (w : Nat → va_E) (hb : 484 ≤ N) (th n32 b32 s32 p32 : Int32) (mo : w 469 = .inr (7, [.int th, .int n32, .ref (ad 470), .ref (ad 471), .ref (ad 472), .ref (ad 473), .ref (ad 474), .ref (ad 475), .int b32, .ref (ad 476), .ref (ad 477), .ref (ad 478), .ref (ad 479), .ref (ad 480), .int s32, .int p32, .ref (ad 481), .ref (ad 482), .ref (ad 483)])) (m : Nat) (hn : n32.toInt = m) (hm40 : m ≤ 40) (T : Nat → Int) (hT : q_I τ w 475 1600 T) (d : Nat → Nat → Int) (hTf : ∀ a b, a < m → b < m → T (40 * a + b) = d a b) (x y : Int32) (a c : Nat) (hx : x.toInt = a) (hy : y.toInt = c) (ha : a < m) (hc : c < m) : Met l y_Mo_ahead (qws y_Mo_ahead c_Mo_ahead 5 (some .int)) ({ frames := 1, cells := 0, slots := 0, locals := 22 }) (qPc D τ A ad N w [.ref (ad 469), .int x, .int y]) (va_Qi (fun r1 w1 => w1 = w ∧ r1.toInt = (zc (fun u => zx (d a) u c) m : Int)) (qB D τ A ad N) A) 0 0 A := by
  refine q_of (by decide) (Nat.le_of_ble_eq_true rfl) rfl ?_
  intro PP EE s MM below meth CC ls F hr hlk hnm hex hl hW
  have hl : lv_has ls 5 [(0, .ref (ad 469)), (1, .int x), (2, .int y)] := hl
  refine q_iconst F d_Mo_ahead_0 (by decide) (fun v1 hv1 => ?_)
  refine lv_istore_n (lv' := [(3, .int v1), (0, .ref (ad 469)), (1, .int x), (2, .int y)]) F.1 F.2.1 d_Mo_ahead_1 rfl hl (by decide) rfl (fun ls2 hl2 => ?_)
  clear hl
  refine q_iconst F d_Mo_ahead_2 (by decide) (fun v3 hv3 => ?_)
  refine lv_istore (lv' := [(4, .int v3), (3, .int v1), (0, .ref (ad 469)), (1, .int x), (2, .int y)]) F.1 F.2.1 d_Mo_ahead_3 hl2 (by decide) rfl (fun ls4 hl4 => ?_)
  clear hl2
  obtain ⟨i, hi0⟩ : ∃ i : Nat, i = 0 := ⟨_, rfl⟩
  have hiv : v3.toInt = (i : Int) := by omega
  have hib : i ≤ m := by omega
  have hWp := hW
  have hcnt : v1.toInt = (zc (fun u => zx (d a) u c) i : Int) := by rw [hi0, hv1]; rfl
  clear hi0 hv3 hv1
  generalize s.heap = Hp at hWp ⊢
  generalize ([] : List Loc) = locsp at hWp ⊢
  obtain ⟨f, hf⟩ : ∃ f : Nat, m + 1 ≤ i + f := ⟨m + 1, by omega⟩
  induction f generalizing i v3 ls4 Hp locsp v1 with
  | zero => exact absurd hf (by omega)
  | succ f ihi =>
    refine lv_iload F.1 F.2.1 d_Mo_ahead_5 (lv_at hl4 0 rfl) ?_
    refine lv_aload_n F.1 F.2.1 d_Mo_ahead_7 rfl (lv_at hl4 2 rfl) ?_
    refine gf_Mo_7 F hWp (by omega) mo d_Mo_ahead_8 ?_
    refine q_icmp_ge (tgt := 66) F d_Mo_ahead_11 (by decide) (fun c11 => ?_) (fun c11 => ?_)
    · refine lv_iload_n F.1 F.2.1 d_Mo_ahead_66 rfl (lv_at hl4 1 rfl) ?_
      exact q_iret F hr hlk hWp ⟨rfl, by rw [hcnt, show i = m by omega]⟩ d_Mo_ahead_67
    · have hzl := zc_le (fun u => zx (d a) u c) i
      refine lv_iload_n F.1 F.2.1 d_Mo_ahead_14 rfl (lv_at hl4 1 rfl) ?_
      refine lv_aload_n F.1 F.2.1 d_Mo_ahead_15 rfl (lv_at hl4 2 rfl) ?_
      refine lv_iload_n F.1 F.2.1 d_Mo_ahead_16 rfl (lv_at hl4 3 rfl) ?_
      refine lv_iload F.1 F.2.1 d_Mo_ahead_17 (lv_at hl4 0 rfl) ?_
      refine q_calli hWp (q_cV (As := [.int x, .int v3]) (rest := [.int v1]) F hWp cs_Mo_82 hd_Mo_d rfl (by omega) mo (k_Mo_d l D τ A ad N w hb th n32 b32 s32 p32 mo m hn hm40 T hT d hTf x v3 a i hx hiv ha (by omega)) rfl rfl ⟨by decide, by decide⟩ rfl hl4.1 rfl (Nat.le_of_ble_eq_true rfl) d_Mo_ahead_19 ⟨Nat.le_refl _, Nat.le_refl _⟩) (fun v5 w5 H5 locs5 hp5 hW5 => ?_)
      obtain ⟨hq5, hp5⟩ := hp5
      replace hq5 := hq5.symm
      subst hq5
      refine lv_aload_n F.1 F.2.1 d_Mo_ahead_22 rfl (lv_at hl4 2 rfl) ?_
      refine lv_iload_n F.1 F.2.1 d_Mo_ahead_23 rfl (lv_at hl4 3 rfl) ?_
      refine lv_iload_n F.1 F.2.1 d_Mo_ahead_24 rfl (lv_at hl4 4 rfl) ?_
      refine q_calli hW5 (q_cV (As := [.int x, .int y]) (rest := [.int v5, .int v1]) F hW5 cs_Mo_82 hd_Mo_d rfl (by omega) mo (k_Mo_d l D τ A ad N w hb th n32 b32 s32 p32 mo m hn hm40 T hT d hTf x y a c hx hy ha hc) rfl rfl ⟨by decide, by decide⟩ rfl hl4.1 rfl (Nat.le_of_ble_eq_true rfl) d_Mo_ahead_25 ⟨Nat.le_refl _, Nat.le_refl _⟩) (fun v6 w6 H6 locs6 hp6 hW6 => ?_)
      obtain ⟨hq6, hp6⟩ := hp6
      replace hq6 := hq6.symm
      subst hq6
      refine q_icmp_lt (tgt := 53) F d_Mo_ahead_28 (by decide) (fun c28 => ?_) (fun c28 => ?_)
      · refine q_iconst F d_Mo_ahead_53 (by decide) (fun v7 hv7 => ?_)
        refine lv_goto (tgt := 58) F.1 F.2.1 d_Mo_ahead_54 (by decide) ?_
        refine q_iadd F d_Mo_ahead_58 (by omega) (fun v8 hv8 => ?_)
        refine lv_istore_n (lv' := [(3, .int v8), (4, .int v3), (0, .ref (ad 469)), (1, .int x), (2, .int y)]) F.1 F.2.1 d_Mo_ahead_59 rfl hl4 (by decide) rfl (fun ls9 hl9 => ?_)
        clear hl4
        refine q_iinc (lv' := fun v10 => [(4, .int v10), (3, .int v8), (0, .ref (ad 469)), (1, .int x), (2, .int y)]) F d_Mo_ahead_60 hl9 (k := 1) rfl (by decide) (by omega) (by decide) (fun _ => rfl) (fun v10 lsv10 hv10 hlv10 => ?_)
        clear hl9
        refine lv_goto (tgt := 5) F.1 F.2.1 d_Mo_ahead_63 (by decide) ?_
        exact ihi (i := i + 1) (v3 := v10) (ls4 := lsv10) (Hp := H6) (locsp := locs6) (v1 := v8) (hiv := by omega) (hib := by omega) (hWp := hW6) (hcnt := zcS hcnt (Or.inl ⟨Or.inl (by omega), by omega⟩)) (hf := by omega) (hl4 := (lv_sub hlv10 [0, 1, 2, 3, 4] rfl))
      · refine lv_aload_n F.1 F.2.1 d_Mo_ahead_31 rfl (lv_at hl4 2 rfl) ?_
        refine lv_iload_n F.1 F.2.1 d_Mo_ahead_32 rfl (lv_at hl4 3 rfl) ?_
        refine lv_iload F.1 F.2.1 d_Mo_ahead_33 (lv_at hl4 0 rfl) ?_
        refine q_calli hW6 (q_cV (As := [.int x, .int v3]) (rest := [.int v1]) F hW6 cs_Mo_82 hd_Mo_d rfl (by omega) mo (k_Mo_d l D τ A ad N w hb th n32 b32 s32 p32 mo m hn hm40 T hT d hTf x v3 a i hx hiv ha (by omega)) rfl rfl ⟨by decide, by decide⟩ rfl hl4.1 rfl (Nat.le_of_ble_eq_true rfl) d_Mo_ahead_35 ⟨Nat.le_refl _, Nat.le_refl _⟩) (fun v11 w11 H11 locs11 hp11 hW11 => ?_)
        obtain ⟨hq11, hp11⟩ := hp11
        replace hq11 := hq11.symm
        subst hq11
        refine lv_aload_n F.1 F.2.1 d_Mo_ahead_38 rfl (lv_at hl4 2 rfl) ?_
        refine lv_iload_n F.1 F.2.1 d_Mo_ahead_39 rfl (lv_at hl4 3 rfl) ?_
        refine lv_iload_n F.1 F.2.1 d_Mo_ahead_40 rfl (lv_at hl4 4 rfl) ?_
        refine q_calli hW11 (q_cV (As := [.int x, .int y]) (rest := [.int v11, .int v1]) F hW11 cs_Mo_82 hd_Mo_d rfl (by omega) mo (k_Mo_d l D τ A ad N w hb th n32 b32 s32 p32 mo m hn hm40 T hT d hTf x y a c hx hy ha hc) rfl rfl ⟨by decide, by decide⟩ rfl hl4.1 rfl (Nat.le_of_ble_eq_true rfl) d_Mo_ahead_41 ⟨Nat.le_refl _, Nat.le_refl _⟩) (fun v12 w12 H12 locs12 hp12 hW12 => ?_)
        obtain ⟨hq12, hp12⟩ := hp12
        replace hq12 := hq12.symm
        subst hq12
        refine q_icmp_ne (tgt := 57) F d_Mo_ahead_44 (by decide) (fun c44 => ?_) (fun c44 => ?_)
        · refine q_iconst F d_Mo_ahead_57 (by decide) (fun v13 hv13 => ?_)
          refine q_iadd F d_Mo_ahead_58 (by omega) (fun v14 hv14 => ?_)
          refine lv_istore_n (lv' := [(3, .int v14), (4, .int v3), (0, .ref (ad 469)), (1, .int x), (2, .int y)]) F.1 F.2.1 d_Mo_ahead_59 rfl hl4 (by decide) rfl (fun ls15 hl15 => ?_)
          clear hl4
          refine q_iinc (lv' := fun v16 => [(4, .int v16), (3, .int v14), (0, .ref (ad 469)), (1, .int x), (2, .int y)]) F d_Mo_ahead_60 hl15 (k := 1) rfl (by decide) (by omega) (by decide) (fun _ => rfl) (fun v16 lsv16 hv16 hlv16 => ?_)
          clear hl15
          refine lv_goto (tgt := 5) F.1 F.2.1 d_Mo_ahead_63 (by decide) ?_
          exact ihi (i := i + 1) (v3 := v16) (ls4 := lsv16) (Hp := H12) (locsp := locs12) (v1 := v14) (hiv := by omega) (hib := by omega) (hWp := hW12) (hcnt := zcS hcnt (Or.inr ⟨by unfold zx; omega, by omega⟩)) (hf := by omega) (hl4 := (lv_sub hlv16 [0, 1, 2, 3, 4] rfl))
        · refine lv_iload F.1 F.2.1 d_Mo_ahead_47 (lv_at hl4 0 rfl) ?_
          refine lv_iload_n F.1 F.2.1 d_Mo_ahead_49 rfl (lv_at hl4 4 rfl) ?_
          refine q_icmp_ge (tgt := 57) F d_Mo_ahead_50 (by decide) (fun c50 => ?_) (fun c50 => ?_)
          · refine q_iconst F d_Mo_ahead_57 (by decide) (fun v17 hv17 => ?_)
            refine q_iadd F d_Mo_ahead_58 (by omega) (fun v18 hv18 => ?_)
            refine lv_istore_n (lv' := [(3, .int v18), (4, .int v3), (0, .ref (ad 469)), (1, .int x), (2, .int y)]) F.1 F.2.1 d_Mo_ahead_59 rfl hl4 (by decide) rfl (fun ls19 hl19 => ?_)
            clear hl4
            refine q_iinc (lv' := fun v20 => [(4, .int v20), (3, .int v18), (0, .ref (ad 469)), (1, .int x), (2, .int y)]) F d_Mo_ahead_60 hl19 (k := 1) rfl (by decide) (by omega) (by decide) (fun _ => rfl) (fun v20 lsv20 hv20 hlv20 => ?_)
            clear hl19
            refine lv_goto (tgt := 5) F.1 F.2.1 d_Mo_ahead_63 (by decide) ?_
            exact ihi (i := i + 1) (v3 := v20) (ls4 := lsv20) (Hp := H12) (locsp := locs12) (v1 := v18) (hiv := by omega) (hib := by omega) (hWp := hW12) (hcnt := zcS hcnt (Or.inr ⟨by unfold zx; omega, by omega⟩)) (hf := by omega) (hl4 := (lv_sub hlv20 [0, 1, 2, 3, 4] rfl))
          · refine q_iconst F d_Mo_ahead_53 (by decide) (fun v21 hv21 => ?_)
            refine lv_goto (tgt := 58) F.1 F.2.1 d_Mo_ahead_54 (by decide) ?_
            refine q_iadd F d_Mo_ahead_58 (by omega) (fun v22 hv22 => ?_)
            refine lv_istore_n (lv' := [(3, .int v22), (4, .int v3), (0, .ref (ad 469)), (1, .int x), (2, .int y)]) F.1 F.2.1 d_Mo_ahead_59 rfl hl4 (by decide) rfl (fun ls23 hl23 => ?_)
            clear hl4
            refine q_iinc (lv' := fun v24 => [(4, .int v24), (3, .int v22), (0, .ref (ad 469)), (1, .int x), (2, .int y)]) F d_Mo_ahead_60 hl23 (k := 1) rfl (by decide) (by omega) (by decide) (fun _ => rfl) (fun v24 lsv24 hv24 hlv24 => ?_)
            clear hl23
            refine lv_goto (tgt := 5) F.1 F.2.1 d_Mo_ahead_63 (by decide) ?_
            exact ihi (i := i + 1) (v3 := v24) (ls4 := lsv24) (Hp := H12) (locsp := locs12) (v1 := v22) (hiv := by omega) (hib := by omega) (hWp := hW12) (hcnt := zcS hcnt (Or.inl ⟨Or.inr (by omega), by omega⟩)) (hf := by omega) (hl4 := (lv_sub hlv24 [0, 1, 2, 3, 4] rfl))
set_option maxHeartbeats 4000000 in
set_option maxRecDepth 100000 in
/-- in how many balls -/
theorem k_Mo_inBalls (l : Launch) (D : va_G) (τ : Nat → ClassId) (A : Nat → Prop) (ad : Nat → Nat) (N : Nat) (w : Nat → va_E) (hb : 484 ≤ N) (th n32 b32 s32 p32 : Int32) (mo : w 469 = .inr (7, [.int th, .int n32, .ref (ad 470), .ref (ad 471), .ref (ad 472), .ref (ad 473), .ref (ad 474), .ref (ad 475), .int b32, .ref (ad 476), .ref (ad 477), .ref (ad 478), .ref (ad 479), .ref (ad 480), .int s32, .int p32, .ref (ad 481), .ref (ad 482), .ref (ad 483)])) (m : Nat) (hn : n32.toInt = m) (hm40 : m ≤ 40) (sv : Nat → Prop) (hsv : q_Z τ w 478 40 sv) (bl9 : Nat → Prop) (hbl9 : q_Z τ w 477 1600 bl9) (bl : Nat → Nat → Prop) (hbl9f : ∀ a b, a < m → b < m → (bl9 (40 * a + b) ↔ bl a b)) (x : Int32) (a : Nat) (hx : x.toInt = a) (ha : a < m) : Met l y_Mo_inBalls (qws y_Mo_inBalls c_Mo_inBalls 4 (some .int)) ({ frames := 0, cells := 0, slots := 0, locals := 0 }) (qPc D τ A ad N w [.ref (ad 469), .int x]) (va_Qi (fun r1 w1 => w1 = w ∧ r1.toInt = (zc (fun u => ¬ sv u ∧ bl u a) m : Int)) (qB D τ A ad N) A) 0 0 A := by
  refine q_of (by decide) (Nat.le_of_ble_eq_true rfl) rfl ?_
  intro PP EE s MM below meth CC ls F hr hlk hnm hex hl hW
  have hl : lv_has ls 4 [(0, .ref (ad 469)), (1, .int x)] := hl
  refine q_iconst F d_Mo_inBalls_0 (by decide) (fun v1 hv1 => ?_)
  refine lv_istore_n (lv' := [(2, .int v1), (0, .ref (ad 469)), (1, .int x)]) F.1 F.2.1 d_Mo_inBalls_1 rfl hl (by decide) rfl (fun ls2 hl2 => ?_)
  clear hl
  refine q_iconst F d_Mo_inBalls_2 (by decide) (fun v3 hv3 => ?_)
  refine lv_istore_n (lv' := [(3, .int v3), (2, .int v1), (0, .ref (ad 469)), (1, .int x)]) F.1 F.2.1 d_Mo_inBalls_3 rfl hl2 (by decide) rfl (fun ls4 hl4 => ?_)
  clear hl2
  obtain ⟨i, hi0⟩ : ∃ i : Nat, i = 0 := ⟨_, rfl⟩
  have hiv : v3.toInt = (i : Int) := by omega
  have hib : i ≤ m := by omega
  have hcnt : v1.toInt = (zc (fun u => ¬ sv u ∧ bl u a) i : Int) := by rw [hi0, hv1]; rfl
  clear hi0 hv3 hv1
  obtain ⟨f, hf⟩ : ∃ f : Nat, m + 1 ≤ i + f := ⟨m + 1, by omega⟩
  induction f generalizing i v3 ls4 v1 with
  | zero => exact absurd hf (by omega)
  | succ f ihi =>
    refine lv_iload_n F.1 F.2.1 d_Mo_inBalls_4 rfl (lv_at hl4 0 rfl) ?_
    refine lv_aload_n F.1 F.2.1 d_Mo_inBalls_5 rfl (lv_at hl4 2 rfl) ?_
    refine gf_Mo_7 F hW (by omega) mo d_Mo_inBalls_6 ?_
    refine q_icmp_ge (tgt := 49) F d_Mo_inBalls_9 (by decide) (fun c9 => ?_) (fun c9 => ?_)
    · refine lv_iload_n F.1 F.2.1 d_Mo_inBalls_49 rfl (lv_at hl4 1 rfl) ?_
      exact q_iret F hr hlk hW ⟨rfl, by rw [hcnt, show i = m by omega]⟩ d_Mo_inBalls_50
    · have hzl := zc_le (fun u => ¬ sv u ∧ bl u a) i
      refine lv_iload_n F.1 F.2.1 d_Mo_inBalls_12 rfl (lv_at hl4 1 rfl) ?_
      refine lv_aload_n F.1 F.2.1 d_Mo_inBalls_13 rfl (lv_at hl4 2 rfl) ?_
      refine gf_Mo_39 F hW (by omega) mo d_Mo_inBalls_14 ?_
      refine lv_iload_n F.1 F.2.1 d_Mo_inBalls_17 rfl (lv_at hl4 0 rfl) ?_
      refine q_zald F hW hsv (by omega) i (by omega) (by omega) d_Mo_inBalls_18 (fun v5 hv5 => ?_)
      refine q_if_ne (tgt := 40) F d_Mo_inBalls_19 (by decide) (fun c19 => ?_) (fun c19 => ?_)
      · refine q_iconst F d_Mo_inBalls_40 (by decide) (fun v6 hv6 => ?_)
        refine q_iadd F d_Mo_inBalls_41 (by omega) (fun v7 hv7 => ?_)
        refine lv_istore_n (lv' := [(2, .int v7), (3, .int v3), (0, .ref (ad 469)), (1, .int x)]) F.1 F.2.1 d_Mo_inBalls_42 rfl hl4 (by decide) rfl (fun ls8 hl8 => ?_)
        clear hl4
        refine q_iinc (lv' := fun v9 => [(3, .int v9), (2, .int v7), (0, .ref (ad 469)), (1, .int x)]) F d_Mo_inBalls_43 hl8 (k := 1) rfl (by decide) (by omega) (by decide) (fun _ => rfl) (fun v9 lsv9 hv9 hlv9 => ?_)
        clear hl8
        refine lv_goto (tgt := 4) F.1 F.2.1 d_Mo_inBalls_46 (by decide) ?_
        exact ihi (i := i + 1) (v3 := v9) (ls4 := lsv9) (v1 := v7) (hiv := by omega) (hib := by omega) (hcnt := zcS hcnt (Or.inr ⟨fun q => q.1 (qb_t hv5 (by omega)), by omega⟩)) (hf := by omega) (hl4 := (lv_sub hlv9 [0, 1, 2, 3] rfl))
      · refine lv_aload_n F.1 F.2.1 d_Mo_inBalls_22 rfl (lv_at hl4 2 rfl) ?_
        refine gf_Mo_36 F hW (by omega) mo d_Mo_inBalls_23 ?_
        refine q_bipush F d_Mo_inBalls_26 (by decide) (fun v10 hv10 => ?_)
        refine lv_iload_n F.1 F.2.1 d_Mo_inBalls_28 rfl (lv_at hl4 0 rfl) ?_
        refine q_imul F d_Mo_inBalls_29 (by rw [hv10]; omega) (fun v11 hv11 => ?_)
        rw [hv10] at hv11
        refine lv_iload_n F.1 F.2.1 d_Mo_inBalls_30 rfl (lv_at hl4 3 rfl) ?_
        refine q_iadd F d_Mo_inBalls_31 (by omega) (fun v12 hv12 => ?_)
        refine q_zald F hW hbl9 (by omega) ((40 * i) + a) (by omega) (by omega) d_Mo_inBalls_32 (fun v13 hv13 => ?_)
        rw [hbl9f i a (by omega) (by omega)] at hv13
        refine q_if_eq (tgt := 40) F d_Mo_inBalls_33 (by decide) (fun c33 => ?_) (fun c33 => ?_)
        · refine q_iconst F d_Mo_inBalls_40 (by decide) (fun v14 hv14 => ?_)
          refine q_iadd F d_Mo_inBalls_41 (by omega) (fun v15 hv15 => ?_)
          refine lv_istore_n (lv' := [(2, .int v15), (3, .int v3), (0, .ref (ad 469)), (1, .int x)]) F.1 F.2.1 d_Mo_inBalls_42 rfl hl4 (by decide) rfl (fun ls16 hl16 => ?_)
          clear hl4
          refine q_iinc (lv' := fun v17 => [(3, .int v17), (2, .int v15), (0, .ref (ad 469)), (1, .int x)]) F d_Mo_inBalls_43 hl16 (k := 1) rfl (by decide) (by omega) (by decide) (fun _ => rfl) (fun v17 lsv17 hv17 hlv17 => ?_)
          clear hl16
          refine lv_goto (tgt := 4) F.1 F.2.1 d_Mo_inBalls_46 (by decide) ?_
          exact ihi (i := i + 1) (v3 := v17) (ls4 := lsv17) (v1 := v15) (hiv := by omega) (hib := by omega) (hcnt := zcS hcnt (Or.inr ⟨fun q => qb_f hv13 (by omega) q.2, by omega⟩)) (hf := by omega) (hl4 := (lv_sub hlv17 [0, 1, 2, 3] rfl))
        · refine q_iconst F d_Mo_inBalls_36 (by decide) (fun v18 hv18 => ?_)
          refine lv_goto (tgt := 41) F.1 F.2.1 d_Mo_inBalls_37 (by decide) ?_
          refine q_iadd F d_Mo_inBalls_41 (by omega) (fun v19 hv19 => ?_)
          refine lv_istore_n (lv' := [(2, .int v19), (3, .int v3), (0, .ref (ad 469)), (1, .int x)]) F.1 F.2.1 d_Mo_inBalls_42 rfl hl4 (by decide) rfl (fun ls20 hl20 => ?_)
          clear hl4
          refine q_iinc (lv' := fun v21 => [(3, .int v21), (2, .int v19), (0, .ref (ad 469)), (1, .int x)]) F d_Mo_inBalls_43 hl20 (k := 1) rfl (by decide) (by omega) (by decide) (fun _ => rfl) (fun v21 lsv21 hv21 hlv21 => ?_)
          clear hl20
          refine lv_goto (tgt := 4) F.1 F.2.1 d_Mo_inBalls_46 (by decide) ?_
          exact ihi (i := i + 1) (v3 := v21) (ls4 := lsv21) (v1 := v19) (hiv := by omega) (hib := by omega) (hcnt := zcS hcnt (Or.inl ⟨⟨qb_f hv5 (by omega), qb_t hv13 (by omega)⟩, by omega⟩)) (hf := by omega) (hl4 := (lv_sub hlv21 [0, 1, 2, 3] rfl))
set_option maxHeartbeats 4000000 in
set_option maxRecDepth 100000 in
/-- nearer than to its own landmark -/
theorem k_Mo_isNear (l : Launch) (D : va_G) (τ : Nat → ClassId) (A : Nat → Prop) (ad : Nat → Nat) (N : Nat) (w : Nat → va_E) (hb : 484 ≤ N) (th n32 b32 s32 p32 : Int32) (mo : w 469 = .inr (7, [.int th, .int n32, .ref (ad 470), .ref (ad 471), .ref (ad 472), .ref (ad 473), .ref (ad 474), .ref (ad 475), .int b32, .ref (ad 476), .ref (ad 477), .ref (ad 478), .ref (ad 479), .ref (ad 480), .int s32, .int p32, .ref (ad 481), .ref (ad 482), .ref (ad 483)])) (m : Nat) (hn : n32.toInt = m) (hm40 : m ≤ 40) (T : Nat → Int) (hT : q_I τ w 475 1600 T) (d : Nat → Nat → Int) (hTf : ∀ a b, a < m → b < m → T (40 * a + b) = d a b) (O : Nat → Int) (hO : q_I τ w 479 40 O) (mk : Nat → Prop) (hOf : ∀ a, a < m → O a = zow m d mk a) (hmk : ∃ v, v < m ∧ mk v) (x y : Int32) (a c : Nat) (hx : x.toInt = a) (hy : y.toInt = c) (ha : a < m) (hc : c < m) : Met l y_Mo_isNear (qws y_Mo_isNear c_Mo_isNear 3 (some .boolean)) ({ frames := 1, cells := 0, slots := 0, locals := 22 }) (qPc D τ A ad N w [.ref (ad 469), .int x, .int y]) (va_Qi (fun r1 w1 => w1 = w ∧ qb (znr m d mk a c) r1) (qB D τ A ad N) A) 0 0 A := by
  refine q_of (by decide) (Nat.le_of_ble_eq_true rfl) rfl ?_
  intro PP EE s MM below meth CC ls F hr hlk hnm hex hl hW
  have hl : lv_has ls 3 [(0, .ref (ad 469)), (1, .int x), (2, .int y)] := hl
  obtain ⟨o9, ho1, ho2, -⟩ := zow_some (n := m) (d := d) (mk := mk) (a := c) hmk
  have ho3 := hOf c hc
  refine lv_aload_n F.1 F.2.1 d_Mo_isNear_0 rfl (lv_at hl 0 rfl) ?_
  refine lv_iload_n F.1 F.2.1 d_Mo_isNear_1 rfl (lv_at hl 1 rfl) ?_
  refine lv_iload_n F.1 F.2.1 d_Mo_isNear_2 rfl (lv_at hl 2 rfl) ?_
  refine q_calli hW (q_cV (As := [.int x, .int y]) (rest := []) F hW cs_Mo_82 hd_Mo_d rfl (by omega) mo (k_Mo_d l D τ A ad N w hb th n32 b32 s32 p32 mo m hn hm40 T hT d hTf x y a c hx hy ha hc) rfl rfl ⟨by decide, by decide⟩ rfl hl.1 rfl (Nat.le_of_ble_eq_true rfl) d_Mo_isNear_3 ⟨Nat.le_refl _, Nat.le_refl _⟩) (fun v1 w1 H1 locs1 hp1 hW1 => ?_)
  obtain ⟨hq1, hp1⟩ := hp1
  replace hq1 := hq1.symm
  subst hq1
  refine lv_aload_n F.1 F.2.1 d_Mo_isNear_6 rfl (lv_at hl 0 rfl) ?_
  refine lv_iload_n F.1 F.2.1 d_Mo_isNear_7 rfl (lv_at hl 2 rfl) ?_
  refine lv_aload_n F.1 F.2.1 d_Mo_isNear_8 rfl (lv_at hl 0 rfl) ?_
  refine gf_Mo_42 F hW1 (by omega) mo d_Mo_isNear_9 ?_
  refine lv_iload_n F.1 F.2.1 d_Mo_isNear_12 rfl (lv_at hl 2 rfl) ?_
  refine q_iald F hW1 hO (by omega) c (by omega) (by omega) d_Mo_isNear_13 (fun v2 hv2 => ?_)
  have hvo : v2.toInt = (o9 : Int) := by rw [hv2, ho3]; exact ho2
  refine q_calli hW1 (q_cV (As := [.int y, .int v2]) (rest := [.int v1]) F hW1 cs_Mo_82 hd_Mo_d rfl (by omega) mo (k_Mo_d l D τ A ad N w hb th n32 b32 s32 p32 mo m hn hm40 T hT d hTf y v2 c o9 hy hvo hc ho1) rfl rfl ⟨by decide, by decide⟩ rfl hl.1 rfl (Nat.le_of_ble_eq_true rfl) d_Mo_isNear_14 ⟨Nat.le_refl _, Nat.le_refl _⟩) (fun v3 w3 H3 locs3 hp3 hW3 => ?_)
  obtain ⟨hq3, hp3⟩ := hp3
  replace hq3 := hq3.symm
  subst hq3
  have hz9 : znr m d mk a c ↔ d a c < d c o9 := by unfold znr; rw [ho2]; simp only [Int.toNat_natCast]
  refine q_icmp_ge (tgt := 24) F d_Mo_isNear_17 (by decide) (fun c17 => ?_) (fun c17 => ?_)
  · refine q_iconst F d_Mo_isNear_24 (by decide) (fun v4 hv4 => ?_)
    have hb1 := qb_0 (P := znr m d mk a c) hv4 (by rw [hz9]; omega)
    exact q_zret F hr hlk hW3 (qb_01 hb1) ⟨rfl, hb1⟩ d_Mo_isNear_25
  · refine q_iconst F d_Mo_isNear_20 (by decide) (fun v5 hv5 => ?_)
    refine lv_goto (tgt := 25) F.1 F.2.1 d_Mo_isNear_21 (by decide) ?_
    have hb1 := qb_1 (P := znr m d mk a c) hv5 (by rw [hz9]; omega)
    exact q_zret F hr hlk hW3 (qb_01 hb1) ⟨rfl, hb1⟩ d_Mo_isNear_25
set_option maxHeartbeats 4000000 in
set_option maxRecDepth 100000 in
/-- how many are near -/
theorem k_Mo_cluster (l : Launch) (D : va_G) (τ : Nat → ClassId) (A : Nat → Prop) (ad : Nat → Nat) (N : Nat) (w : Nat → va_E) (hb : 484 ≤ N) (th n32 b32 s32 p32 : Int32) (mo : w 469 = .inr (7, [.int th, .int n32, .ref (ad 470), .ref (ad 471), .ref (ad 472), .ref (ad 473), .ref (ad 474), .ref (ad 475), .int b32, .ref (ad 476), .ref (ad 477), .ref (ad 478), .ref (ad 479), .ref (ad 480), .int s32, .int p32, .ref (ad 481), .ref (ad 482), .ref (ad 483)])) (m : Nat) (hn : n32.toInt = m) (hm40 : m ≤ 40) (T : Nat → Int) (hT : q_I τ w 475 1600 T) (d : Nat → Nat → Int) (hTf : ∀ a b, a < m → b < m → T (40 * a + b) = d a b) (O : Nat → Int) (hO : q_I τ w 479 40 O) (mk : Nat → Prop) (hOf : ∀ a, a < m → O a = zow m d mk a) (hmk : ∃ v, v < m ∧ mk v) (x : Int32) (a : Nat) (hx : x.toInt = a) (ha : a < m) : Met l y_Mo_cluster (qws y_Mo_cluster c_Mo_cluster 4 (some .int)) ({ frames := 2, cells := 0, slots := 0, locals := 44 }) (qPc D τ A ad N w [.ref (ad 469), .int x]) (va_Qi (fun r1 w1 => w1 = w ∧ r1.toInt = (zcw m d mk a : Int)) (qB D τ A ad N) A) 0 0 A := by
  refine q_of (by decide) (Nat.le_of_ble_eq_true rfl) rfl ?_
  intro PP EE s MM below meth CC ls F hr hlk hnm hex hl hW
  have hl : lv_has ls 4 [(0, .ref (ad 469)), (1, .int x)] := hl
  refine q_iconst F d_Mo_cluster_0 (by decide) (fun v1 hv1 => ?_)
  refine lv_istore_n (lv' := [(2, .int v1), (0, .ref (ad 469)), (1, .int x)]) F.1 F.2.1 d_Mo_cluster_1 rfl hl (by decide) rfl (fun ls2 hl2 => ?_)
  clear hl
  refine q_iconst F d_Mo_cluster_2 (by decide) (fun v3 hv3 => ?_)
  refine lv_istore_n (lv' := [(3, .int v3), (2, .int v1), (0, .ref (ad 469)), (1, .int x)]) F.1 F.2.1 d_Mo_cluster_3 rfl hl2 (by decide) rfl (fun ls4 hl4 => ?_)
  clear hl2
  obtain ⟨i, hi0⟩ : ∃ i : Nat, i = 0 := ⟨_, rfl⟩
  have hiv : v3.toInt = (i : Int) := by omega
  have hib : i ≤ m := by omega
  have hWp := hW
  have hcnt : v1.toInt = (zc (fun u => znr m d mk a u) i : Int) := by rw [hi0, hv1]; rfl
  clear hi0 hv3 hv1
  generalize s.heap = Hp at hWp ⊢
  generalize ([] : List Loc) = locsp at hWp ⊢
  obtain ⟨f, hf⟩ : ∃ f : Nat, m + 1 ≤ i + f := ⟨m + 1, by omega⟩
  induction f generalizing i v3 ls4 Hp locsp v1 with
  | zero => exact absurd hf (by omega)
  | succ f ihi =>
    refine lv_iload_n F.1 F.2.1 d_Mo_cluster_4 rfl (lv_at hl4 0 rfl) ?_
    refine lv_aload_n F.1 F.2.1 d_Mo_cluster_5 rfl (lv_at hl4 2 rfl) ?_
    refine gf_Mo_7 F hWp (by omega) mo d_Mo_cluster_6 ?_
    refine q_icmp_ge (tgt := 35) F d_Mo_cluster_9 (by decide) (fun c9 => ?_) (fun c9 => ?_)
    · refine lv_iload_n F.1 F.2.1 d_Mo_cluster_35 rfl (lv_at hl4 1 rfl) ?_
      exact q_iret F hr hlk hWp ⟨rfl, by rw [hcnt, show i = m by omega]; rfl⟩ d_Mo_cluster_36
    · have hzl := zc_le (fun u => znr m d mk a u) i
      refine lv_iload_n F.1 F.2.1 d_Mo_cluster_12 rfl (lv_at hl4 1 rfl) ?_
      refine lv_aload_n F.1 F.2.1 d_Mo_cluster_13 rfl (lv_at hl4 2 rfl) ?_
      refine lv_iload_n F.1 F.2.1 d_Mo_cluster_14 rfl (lv_at hl4 3 rfl) ?_
      refine lv_iload_n F.1 F.2.1 d_Mo_cluster_15 rfl (lv_at hl4 0 rfl) ?_
      refine q_calli hWp (q_cV (As := [.int x, .int v3]) (rest := [.int v1]) F hWp cs_Mo_93 hd_Mo_isNear rfl (by omega) mo (k_Mo_isNear l D τ A ad N w hb th n32 b32 s32 p32 mo m hn hm40 T hT d hTf O hO mk hOf hmk x v3 a i hx hiv ha (by omega)) rfl rfl ⟨by decide, by decide⟩ rfl hl4.1 rfl (Nat.le_of_ble_eq_true rfl) d_Mo_cluster_16 ⟨Nat.le_refl _, Nat.le_refl _⟩) (fun v5 w5 H5 locs5 hp5 hW5 => ?_)
      obtain ⟨hq5, hp5⟩ := hp5
      replace hq5 := hq5.symm
      subst hq5
      refine q_if_eq (tgt := 26) F d_Mo_cluster_19 (by decide) (fun c19 => ?_) (fun c19 => ?_)
      · refine q_iconst F d_Mo_cluster_26 (by decide) (fun v6 hv6 => ?_)
        refine q_iadd F d_Mo_cluster_27 (by omega) (fun v7 hv7 => ?_)
        refine lv_istore_n (lv' := [(2, .int v7), (3, .int v3), (0, .ref (ad 469)), (1, .int x)]) F.1 F.2.1 d_Mo_cluster_28 rfl hl4 (by decide) rfl (fun ls8 hl8 => ?_)
        clear hl4
        refine q_iinc (lv' := fun v9 => [(3, .int v9), (2, .int v7), (0, .ref (ad 469)), (1, .int x)]) F d_Mo_cluster_29 hl8 (k := 1) rfl (by decide) (by omega) (by decide) (fun _ => rfl) (fun v9 lsv9 hv9 hlv9 => ?_)
        clear hl8
        refine lv_goto (tgt := 4) F.1 F.2.1 d_Mo_cluster_32 (by decide) ?_
        exact ihi (i := i + 1) (v3 := v9) (ls4 := lsv9) (Hp := H5) (locsp := locs5) (v1 := v7) (hiv := by omega) (hib := by omega) (hWp := hW5) (hcnt := zcS hcnt (Or.inr ⟨qb_f hp5 (by omega), by omega⟩)) (hf := by omega) (hl4 := (lv_sub hlv9 [0, 1, 2, 3] rfl))
      · refine q_iconst F d_Mo_cluster_22 (by decide) (fun v10 hv10 => ?_)
        refine lv_goto (tgt := 27) F.1 F.2.1 d_Mo_cluster_23 (by decide) ?_
        refine q_iadd F d_Mo_cluster_27 (by omega) (fun v11 hv11 => ?_)
        refine lv_istore_n (lv' := [(2, .int v11), (3, .int v3), (0, .ref (ad 469)), (1, .int x)]) F.1 F.2.1 d_Mo_cluster_28 rfl hl4 (by decide) rfl (fun ls12 hl12 => ?_)
        clear hl4
        refine q_iinc (lv' := fun v13 => [(3, .int v13), (2, .int v11), (0, .ref (ad 469)), (1, .int x)]) F d_Mo_cluster_29 hl12 (k := 1) rfl (by decide) (by omega) (by decide) (fun _ => rfl) (fun v13 lsv13 hv13 hlv13 => ?_)
        clear hl12
        refine lv_goto (tgt := 4) F.1 F.2.1 d_Mo_cluster_32 (by decide) ?_
        exact ihi (i := i + 1) (v3 := v13) (ls4 := lsv13) (Hp := H5) (locsp := locs5) (v1 := v11) (hiv := by omega) (hib := by omega) (hWp := hW5) (hcnt := zcS hcnt (Or.inl ⟨qb_t hp5 (by omega), by omega⟩)) (hf := by omega) (hl4 := (lv_sub hlv13 [0, 1, 2, 3] rfl))
set_option maxHeartbeats 4000000 in
set_option maxRecDepth 100000 in
/-- how many landmarks -/
theorem k_Mo_marks (l : Launch) (D : va_G) (τ : Nat → ClassId) (A : Nat → Prop) (ad : Nat → Nat) (N : Nat) (w : Nat → va_E) (hb : 484 ≤ N) (th n32 b32 s32 p32 : Int32) (mo : w 469 = .inr (7, [.int th, .int n32, .ref (ad 470), .ref (ad 471), .ref (ad 472), .ref (ad 473), .ref (ad 474), .ref (ad 475), .int b32, .ref (ad 476), .ref (ad 477), .ref (ad 478), .ref (ad 479), .ref (ad 480), .int s32, .int p32, .ref (ad 481), .ref (ad 482), .ref (ad 483)])) (m : Nat) (hn : n32.toInt = m) (hm40 : m ≤ 40) (mk : Nat → Prop) (hM : q_Z τ w 476 40 mk) : Met l y_Mo_marks (qws y_Mo_marks c_Mo_marks 3 (some .int)) ({ frames := 0, cells := 0, slots := 0, locals := 0 }) (qPc D τ A ad N w [.ref (ad 469)]) (va_Qi (fun r1 w1 => w1 = w ∧ r1.toInt = (zc mk m : Int)) (qB D τ A ad N) A) 0 0 A := by
  refine q_of (by decide) (Nat.le_of_ble_eq_true rfl) rfl ?_
  intro PP EE s MM below meth CC ls F hr hlk hnm hex hl hW
  have hl : lv_has ls 3 [(0, .ref (ad 469))] := hl
  refine q_iconst F d_Mo_marks_0 (by decide) (fun v1 hv1 => ?_)
  refine lv_istore_n (lv' := [(1, .int v1), (0, .ref (ad 469))]) F.1 F.2.1 d_Mo_marks_1 rfl hl (by decide) rfl (fun ls2 hl2 => ?_)
  clear hl
  refine q_iconst F d_Mo_marks_2 (by decide) (fun v3 hv3 => ?_)
  refine lv_istore_n (lv' := [(2, .int v3), (1, .int v1), (0, .ref (ad 469))]) F.1 F.2.1 d_Mo_marks_3 rfl hl2 (by decide) rfl (fun ls4 hl4 => ?_)
  clear hl2
  obtain ⟨i, hi0⟩ : ∃ i : Nat, i = 0 := ⟨_, rfl⟩
  have hiv : v3.toInt = (i : Int) := by omega
  have hib : i ≤ m := by omega
  have hcnt : v1.toInt = (zc mk i : Int) := by rw [hi0, hv1]; rfl
  clear hi0 hv3 hv1
  obtain ⟨f, hf⟩ : ∃ f : Nat, m + 1 ≤ i + f := ⟨m + 1, by omega⟩
  induction f generalizing i v3 ls4 v1 with
  | zero => exact absurd hf (by omega)
  | succ f ihi =>
    refine lv_iload_n F.1 F.2.1 d_Mo_marks_4 rfl (lv_at hl4 0 rfl) ?_
    refine lv_aload_n F.1 F.2.1 d_Mo_marks_5 rfl (lv_at hl4 2 rfl) ?_
    refine gf_Mo_7 F hW (by omega) mo d_Mo_marks_6 ?_
    refine q_icmp_ge (tgt := 35) F d_Mo_marks_9 (by decide) (fun c9 => ?_) (fun c9 => ?_)
    · refine lv_iload_n F.1 F.2.1 d_Mo_marks_35 rfl (lv_at hl4 1 rfl) ?_
      exact q_iret F hr hlk hW ⟨rfl, by rw [hcnt, show i = m by omega]⟩ d_Mo_marks_36
    · have hzl := zc_le mk i
      refine lv_iload_n F.1 F.2.1 d_Mo_marks_12 rfl (lv_at hl4 1 rfl) ?_
      refine lv_aload_n F.1 F.2.1 d_Mo_marks_13 rfl (lv_at hl4 2 rfl) ?_
      refine gf_Mo_32 F hW (by omega) mo d_Mo_marks_14 ?_
      refine lv_iload_n F.1 F.2.1 d_Mo_marks_17 rfl (lv_at hl4 0 rfl) ?_
      refine q_zald F hW hM (by omega) i (by omega) (by omega) d_Mo_marks_18 (fun v5 hv5 => ?_)
      refine q_if_eq (tgt := 26) F d_Mo_marks_19 (by decide) (fun c19 => ?_) (fun c19 => ?_)
      · refine q_iconst F d_Mo_marks_26 (by decide) (fun v6 hv6 => ?_)
        refine q_iadd F d_Mo_marks_27 (by omega) (fun v7 hv7 => ?_)
        refine lv_istore_n (lv' := [(1, .int v7), (2, .int v3), (0, .ref (ad 469))]) F.1 F.2.1 d_Mo_marks_28 rfl hl4 (by decide) rfl (fun ls8 hl8 => ?_)
        clear hl4
        refine q_iinc (lv' := fun v9 => [(2, .int v9), (1, .int v7), (0, .ref (ad 469))]) F d_Mo_marks_29 hl8 (k := 1) rfl (by decide) (by omega) (by decide) (fun _ => rfl) (fun v9 lsv9 hv9 hlv9 => ?_)
        clear hl8
        refine lv_goto (tgt := 4) F.1 F.2.1 d_Mo_marks_32 (by decide) ?_
        exact ihi (i := i + 1) (v3 := v9) (ls4 := lsv9) (v1 := v7) (hiv := by omega) (hib := by omega) (hcnt := zcS hcnt (Or.inr ⟨qb_f hv5 (by omega), by omega⟩)) (hf := by omega) (hl4 := (lv_sub hlv9 [0, 1, 2] rfl))
      · refine q_iconst F d_Mo_marks_22 (by decide) (fun v10 hv10 => ?_)
        refine lv_goto (tgt := 27) F.1 F.2.1 d_Mo_marks_23 (by decide) ?_
        refine q_iadd F d_Mo_marks_27 (by omega) (fun v11 hv11 => ?_)
        refine lv_istore_n (lv' := [(1, .int v11), (2, .int v3), (0, .ref (ad 469))]) F.1 F.2.1 d_Mo_marks_28 rfl hl4 (by decide) rfl (fun ls12 hl12 => ?_)
        clear hl4
        refine q_iinc (lv' := fun v13 => [(2, .int v13), (1, .int v11), (0, .ref (ad 469))]) F d_Mo_marks_29 hl12 (k := 1) rfl (by decide) (by omega) (by decide) (fun _ => rfl) (fun v13 lsv13 hv13 hlv13 => ?_)
        clear hl12
        refine lv_goto (tgt := 4) F.1 F.2.1 d_Mo_marks_32 (by decide) ?_
        exact ihi (i := i + 1) (v3 := v13) (ls4 := lsv13) (v1 := v11) (hiv := by omega) (hib := by omega) (hcnt := zcS hcnt (Or.inl ⟨qb_t hv5 (by omega), by omega⟩)) (hf := by omega) (hl4 := (lv_sub hlv13 [0, 1, 2] rfl))
set_option maxHeartbeats 4000000 in
set_option maxRecDepth 100000 in
/-- the next node -/
theorem k_Mo_towards (l : Launch) (D : va_G) (τ : Nat → ClassId) (A : Nat → Prop) (ad : Nat → Nat) (N : Nat) (w : Nat → va_E) (hb : 484 ≤ N) (th n32 b32 s32 p32 : Int32) (mo : w 469 = .inr (7, [.int th, .int n32, .ref (ad 470), .ref (ad 471), .ref (ad 472), .ref (ad 473), .ref (ad 474), .ref (ad 475), .int b32, .ref (ad 476), .ref (ad 477), .ref (ad 478), .ref (ad 479), .ref (ad 480), .int s32, .int p32, .ref (ad 481), .ref (ad 482), .ref (ad 483)])) (m : Nat) (hn : n32.toInt = m) (hm40 : m ≤ 40) (T : Nat → Int) (hT : q_I τ w 475 1600 T) (d : Nat → Nat → Int) (hTf : ∀ a b, a < m → b < m → T (40 * a + b) = d a b) (V : Nat → Int) (hV : q_I τ w 472 1600 V) (Wt : Nat → Nat → Int) (hVf : ∀ a b, a < m → b < m → V (40 * a + b) = Wt a b) (hWb : ∀ a b, a < m → b < m → 0 ≤ Wt a b ∧ Wt a b ≤ 1000) (hdb : ∀ a b, a < m → b < m → 0 ≤ d a b ∧ d a b ≤ 1000000) (x y : Int32) (a c : Nat) (hx : x.toInt = a) (hy : y.toInt = c) (ha : a < m) (hc : c < m) : Met l y_Mo_towards (qws y_Mo_towards c_Mo_towards 5 (some .int)) ({ frames := 1, cells := 0, slots := 0, locals := 22 }) (qPc D τ A ad N w [.ref (ad 469), .int x, .int y]) (va_Qi (fun r1 w1 => w1 = w ∧ r1.toInt = ztw m Wt d a c) (qB D τ A ad N) A) 0 0 A := by
  refine q_of (by decide) (Nat.le_of_ble_eq_true rfl) rfl ?_
  intro PP EE s MM below meth CC ls F hr hlk hnm hex hl hW
  have hl : lv_has ls 5 [(0, .ref (ad 469)), (1, .int x), (2, .int y)] := hl
  refine q_iconst F d_Mo_towards_0 (by decide) (fun v1 hv1 => ?_)
  refine lv_istore_n (lv' := [(3, .int v1), (0, .ref (ad 469)), (1, .int x), (2, .int y)]) F.1 F.2.1 d_Mo_towards_1 rfl hl (by decide) rfl (fun ls2 hl2 => ?_)
  clear hl
  obtain ⟨i, hi0⟩ : ∃ i : Nat, i = 0 := ⟨_, rfl⟩
  have hiv : v1.toInt = (i : Int) := by omega
  have hib : i ≤ m := by omega
  have hWp := hW
  have hno : ∀ j, j < i → ¬ (0 < Wt a j ∧ Wt a j + d j c = d a c) := fun j hj => absurd hj (by omega)
  clear hi0 hv1
  generalize s.heap = Hp at hWp ⊢
  generalize ([] : List Loc) = locsp at hWp ⊢
  obtain ⟨f, hf⟩ : ∃ f : Nat, m + 1 ≤ i + f := ⟨m + 1, by omega⟩
  induction f generalizing i v1 ls2 Hp locsp with
  | zero => exact absurd hf (by omega)
  | succ f ihi =>
    refine lv_iload_n F.1 F.2.1 d_Mo_towards_2 rfl (lv_at hl2 0 rfl) ?_
    refine lv_aload_n F.1 F.2.1 d_Mo_towards_3 rfl (lv_at hl2 1 rfl) ?_
    refine gf_Mo_7 F hWp (by omega) mo d_Mo_towards_4 ?_
    refine q_icmp_ge (tgt := 54) F d_Mo_towards_7 (by decide) (fun c7 => ?_) (fun c7 => ?_)
    · refine q_iconst F d_Mo_towards_54 (by decide) (fun v3 hv3 => ?_)
      exact q_iret F hr hlk hWp ⟨rfl, by rw [hv3]; exact (zf_no (P := fun u => 0 < Wt a u ∧ Wt a u + d u c = d a c) (show i = m by omega) hno).symm⟩ d_Mo_towards_55
    · have hwb := hWb a i ha (by omega)
      have hdb1 := hdb i c (by omega) hc
      refine lv_aload_n F.1 F.2.1 d_Mo_towards_10 rfl (lv_at hl2 1 rfl) ?_
      refine gf_Mo_20 F hWp (by omega) mo d_Mo_towards_11 ?_
      refine q_bipush F d_Mo_towards_14 (by decide) (fun v4 hv4 => ?_)
      refine lv_iload_n F.1 F.2.1 d_Mo_towards_16 rfl (lv_at hl2 2 rfl) ?_
      refine q_imul F d_Mo_towards_17 (by rw [hv4]; omega) (fun v5 hv5 => ?_)
      rw [hv4] at hv5
      refine lv_iload_n F.1 F.2.1 d_Mo_towards_18 rfl (lv_at hl2 0 rfl) ?_
      refine q_iadd F d_Mo_towards_19 (by omega) (fun v6 hv6 => ?_)
      refine q_iald F hWp hV (by omega) ((40 * a) + i) (by omega) (by omega) d_Mo_towards_20 (fun v7 hv7 => ?_)
      rw [hVf a i (by omega) (by omega)] at hv7
      refine lv_istore (lv' := [(4, .int v7), (3, .int v1), (0, .ref (ad 469)), (1, .int x), (2, .int y)]) F.1 F.2.1 d_Mo_towards_21 hl2 (by decide) rfl (fun ls8 hl8 => ?_)
      clear hl2
      refine lv_iload F.1 F.2.1 d_Mo_towards_23 (lv_at hl8 0 rfl) ?_
      refine q_if_le (tgt := 48) F d_Mo_towards_25 (by decide) (fun c25 => ?_) (fun c25 => ?_)
      · refine q_iinc (lv' := fun v9 => [(3, .int v9), (4, .int v7), (0, .ref (ad 469)), (1, .int x), (2, .int y)]) F d_Mo_towards_48 hl8 (k := 1) rfl (by decide) (by omega) (by decide) (fun _ => rfl) (fun v9 lsv9 hv9 hlv9 => ?_)
        clear hl8
        refine lv_goto (tgt := 2) F.1 F.2.1 d_Mo_towards_51 (by decide) ?_
        exact ihi (i := i + 1) (v1 := v9) (ls2 := lsv9) (Hp := Hp) (locsp := locsp) (hiv := by omega) (hib := by omega) (hWp := hWp) (hno := fun j hj => (Nat.lt_or_ge j i).elim (hno j) (fun z => by rw [show j = i by omega]; omega)) (hf := by omega) (hl2 := (lv_sub hlv9 [0, 2, 3, 4] rfl))
      · refine lv_iload F.1 F.2.1 d_Mo_towards_28 (lv_at hl8 0 rfl) ?_
        refine lv_aload_n F.1 F.2.1 d_Mo_towards_30 rfl (lv_at hl8 2 rfl) ?_
        refine lv_iload_n F.1 F.2.1 d_Mo_towards_31 rfl (lv_at hl8 1 rfl) ?_
        refine lv_iload_n F.1 F.2.1 d_Mo_towards_32 rfl (lv_at hl8 4 rfl) ?_
        refine q_calli hWp (q_cV (As := [.int v1, .int y]) (rest := [.int v7]) F hWp cs_Mo_82 hd_Mo_d rfl (by omega) mo (k_Mo_d l D τ A ad N w hb th n32 b32 s32 p32 mo m hn hm40 T hT d hTf v1 y i c hiv hy (by omega) hc) rfl rfl ⟨by decide, by decide⟩ rfl hl8.1 rfl (Nat.le_of_ble_eq_true rfl) d_Mo_towards_33 ⟨Nat.le_refl _, Nat.le_refl _⟩) (fun v10 w10 H10 locs10 hp10 hW10 => ?_)
        obtain ⟨hq10, hp10⟩ := hp10
        replace hq10 := hq10.symm
        subst hq10
        refine q_iadd F d_Mo_towards_36 (by omega) (fun v11 hv11 => ?_)
        refine lv_aload_n F.1 F.2.1 d_Mo_towards_37 rfl (lv_at hl8 2 rfl) ?_
        refine lv_iload_n F.1 F.2.1 d_Mo_towards_38 rfl (lv_at hl8 3 rfl) ?_
        refine lv_iload_n F.1 F.2.1 d_Mo_towards_39 rfl (lv_at hl8 4 rfl) ?_
        refine q_calli hW10 (q_cV (As := [.int x, .int y]) (rest := [.int v11]) F hW10 cs_Mo_82 hd_Mo_d rfl (by omega) mo (k_Mo_d l D τ A ad N w hb th n32 b32 s32 p32 mo m hn hm40 T hT d hTf x y a c hx hy ha hc) rfl rfl ⟨by decide, by decide⟩ rfl hl8.1 rfl (Nat.le_of_ble_eq_true rfl) d_Mo_towards_40 ⟨Nat.le_refl _, Nat.le_refl _⟩) (fun v12 w12 H12 locs12 hp12 hW12 => ?_)
        obtain ⟨hq12, hp12⟩ := hp12
        replace hq12 := hq12.symm
        subst hq12
        refine q_icmp_ne (tgt := 48) F d_Mo_towards_43 (by decide) (fun c43 => ?_) (fun c43 => ?_)
        · refine q_iinc (lv' := fun v13 => [(3, .int v13), (4, .int v7), (0, .ref (ad 469)), (1, .int x), (2, .int y)]) F d_Mo_towards_48 hl8 (k := 1) rfl (by decide) (by omega) (by decide) (fun _ => rfl) (fun v13 lsv13 hv13 hlv13 => ?_)
          clear hl8
          refine lv_goto (tgt := 2) F.1 F.2.1 d_Mo_towards_51 (by decide) ?_
          exact ihi (i := i + 1) (v1 := v13) (ls2 := lsv13) (Hp := H12) (locsp := locs12) (hiv := by omega) (hib := by omega) (hWp := hW12) (hno := fun j hj => (Nat.lt_or_ge j i).elim (hno j) (fun z => by rw [show j = i by omega]; omega)) (hf := by omega) (hl2 := (lv_sub hlv13 [0, 2, 3, 4] rfl))
        · refine lv_iload_n F.1 F.2.1 d_Mo_towards_46 rfl (lv_at hl8 1 rfl) ?_
          exact q_iret F hr hlk hW12 ⟨rfl, by rw [hiv]; exact (zf_found (P := fun u => 0 < Wt a u ∧ Wt a u + d u c = d a c) (by omega) (by omega) hno).symm⟩ d_Mo_towards_47
