/-- the packets: the next number, how many, where they are, their aims, what they have weighed -/
def qPac (τ : Nat → ClassId) (ad : Nat → Nat) (w : Nat → va_E) (nx ct : Nat) (P G U : Nat → Int) : Prop := (∃ v1 v2 : Int32, w 463 = .inr (3, [.ref (ad 464), .ref (ad 465), .ref (ad 466), .int v1, .int v2]) ∧ v1.toInt = nx ∧ v2.toInt = ct) ∧ q_I τ w 464 16 P ∧ q_I τ w 465 16 G ∧ q_I τ w 466 16 U
theorem qPac.keep {τ : Nat → ClassId} {ad : Nat → Nat} {w w' : Nat → va_E} {nx ct : Nat} {P G U : Nat → Int} (h : qPac τ ad w nx ct P G U) (e : ∀ q, 463 ≤ q → q < 467 → w' q = w q) : qPac τ ad w' nx ct P G U := by
  obtain ⟨⟨v1, v2, h1, h2, h3⟩, h4, h5, h6⟩ := h
  exact ⟨⟨v1, v2, by rw [e 463 (by omega) (by omega)]; exact h1, h2, h3⟩, h4.keep (e _ (by omega) (by omega)), h5.keep (e _ (by omega) (by omega)), h6.keep (e _ (by omega) (by omega))⟩
set_option maxHeartbeats 4000000 in
set_option maxRecDepth 100000 in
/-- none -/
theorem k_Pa_clear (l : Launch) (D : va_G) (τ : Nat → ClassId) (A : Nat → Prop) (ad : Nat → Nat) (N : Nat) (w : Nat → va_E) (hb : 469 ≤ N) (nx ct : Nat) (P G U : Nat → Int) (hP : qPac τ ad w nx ct P G U) : Met l y_Pa_clear (qws y_Pa_clear c_Pa_clear 1 none) ({ frames := 0, cells := 0, slots := 0, locals := 0 }) (qPc D τ A ad N w [.ref (ad 463)]) (va_Qv (fun w1 => qPac τ ad w1 0 0 P G U ∧ (∀ q, (q < 463 ∨ 467 ≤ q) → w1 q = w q)) (qB D τ A ad N) A) 0 0 A := by
  refine q_of (by decide) (Nat.le_of_ble_eq_true rfl) rfl ?_
  intro PP EE s MM below meth CC ls F hr hlk hnm hex hl hW
  have hl : lv_has ls 1 [(0, .ref (ad 463))] := hl
  obtain ⟨⟨p1, p2, ho, hp1, hp2⟩, hP1, hP2, hP3⟩ := id hP
  refine lv_aload_n F.1 F.2.1 d_Pa_clear_0 rfl (lv_at hl 0 rfl) ?_
  refine q_iconst F d_Pa_clear_1 (by decide) (fun v1 hv1 => ?_)
  refine pf_Pa_19 F hW (by omega) ho d_Pa_clear_2 (fun H2 locs2 w2 hW2 hI2 hfr2 => ?_)
  replace ho := hI2
  replace hP1 := hP1.keep (hfr2 _ (by omega))
  replace hP2 := hP2.keep (hfr2 _ (by omega))
  replace hP3 := hP3.keep (hfr2 _ (by omega))
  refine lv_aload_n F.1 F.2.1 d_Pa_clear_5 rfl (lv_at hl 0 rfl) ?_
  refine q_iconst F d_Pa_clear_6 (by decide) (fun v3 hv3 => ?_)
  refine pf_Pa_23 F hW2 (by omega) ho d_Pa_clear_7 (fun H4 locs4 w4 hW4 hI4 hfr4 => ?_)
  replace ho := hI4
  replace hP1 := hP1.keep (hfr4 _ (by omega))
  replace hP2 := hP2.keep (hfr4 _ (by omega))
  replace hP3 := hP3.keep (hfr4 _ (by omega))
  exact q_vret F hr hlk hW4 ⟨⟨⟨v1, v3, ho, hv1, hv3⟩, hP1, hP2, hP3⟩, fun q hq => by rw [hfr4 q (by omega), hfr2 q (by omega)]⟩ d_Pa_clear_10
set_option maxHeartbeats 4000000 in
set_option maxRecDepth 100000 in
/-- is there such a packet -/
theorem k_Pa_has (l : Launch) (D : va_G) (τ : Nat → ClassId) (A : Nat → Prop) (ad : Nat → Nat) (N : Nat) (w : Nat → va_E) (hb : 469 ≤ N) (nx ct : Nat) (P G U : Nat → Int) (hP : qPac τ ad w nx ct P G U) (x : Int32) : Met l y_Pa_has (qws y_Pa_has c_Pa_has 2 (some .boolean)) ({ frames := 0, cells := 0, slots := 0, locals := 0 }) (qPc D τ A ad N w [.ref (ad 463), .int x]) (va_Qi (fun r w1 => w1 = w ∧ ((0 ≤ x.toInt ∧ x.toInt < ct ∧ r = 1) ∨ (¬ (0 ≤ x.toInt ∧ x.toInt < ct) ∧ r = 0))) (qB D τ A ad N) A) 0 0 A := by
  refine q_of (by decide) (Nat.le_of_ble_eq_true rfl) rfl ?_
  intro PP EE s MM below meth CC ls F hr hlk hnm hex hl hW
  have hl : lv_has ls 2 [(0, .ref (ad 463)), (1, .int x)] := hl
  obtain ⟨⟨p1, p2, ho, hp1, hp2⟩, hP1, hP2, hP3⟩ := id hP
  refine lv_iload_n F.1 F.2.1 d_Pa_has_0 rfl (lv_at hl 1 rfl) ?_
  refine q_if_lt (tgt := 16) F d_Pa_has_1 (by decide) (fun c1 => ?_) (fun c1 => ?_)
  · refine q_iconst F d_Pa_has_16 (by decide) (fun v1 hv1 => ?_)
    have e0 : v1 = 0 := q_eqI.mpr hv1
    exact q_zret F hr hlk hW (Or.inl e0) ⟨rfl, Or.inr ⟨by omega, e0⟩⟩ d_Pa_has_17
  · refine lv_iload_n F.1 F.2.1 d_Pa_has_4 rfl (lv_at hl 1 rfl) ?_
    refine lv_aload_n F.1 F.2.1 d_Pa_has_5 rfl (lv_at hl 0 rfl) ?_
    refine gf_Pa_23 F hW (by omega) ho d_Pa_has_6 ?_
    refine q_icmp_ge (tgt := 16) F d_Pa_has_9 (by decide) (fun c9 => ?_) (fun c9 => ?_)
    · refine q_iconst F d_Pa_has_16 (by decide) (fun v2 hv2 => ?_)
      have e0 : v2 = 0 := q_eqI.mpr hv2
      exact q_zret F hr hlk hW (Or.inl e0) ⟨rfl, Or.inr ⟨by omega, e0⟩⟩ d_Pa_has_17
    · refine q_iconst F d_Pa_has_12 (by decide) (fun v3 hv3 => ?_)
      refine lv_goto (tgt := 17) F.1 F.2.1 d_Pa_has_13 (by decide) ?_
      have e1 : v3 = 1 := q_eqI.mpr hv3
      exact q_zret F hr hlk hW (Or.inr e1) ⟨rfl, Or.inl ⟨by omega, by omega, e1⟩⟩ d_Pa_has_17
set_option maxHeartbeats 4000000 in
set_option maxRecDepth 100000 in
/-- of a packet -/
theorem k_Pa_placeOf (l : Launch) (D : va_G) (τ : Nat → ClassId) (A : Nat → Prop) (ad : Nat → Nat) (N : Nat) (w : Nat → va_E) (hb : 469 ≤ N) (nx ct : Nat) (P G U : Nat → Int) (hP : qPac τ ad w nx ct P G U) (x : Int32) (a : Nat) (hx : x.toInt = a) (ha : a < 16) : Met l y_Pa_placeOf (qws y_Pa_placeOf c_Pa_placeOf 2 (some .int)) ({ frames := 0, cells := 0, slots := 0, locals := 0 }) (qPc D τ A ad N w [.ref (ad 463), .int x]) (va_Qi (fun r w1 => w1 = w ∧ r.toInt = P a) (qB D τ A ad N) A) 0 0 A := by
  refine q_of (by decide) (Nat.le_of_ble_eq_true rfl) rfl ?_
  intro PP EE s MM below meth CC ls F hr hlk hnm hex hl hW
  have hl : lv_has ls 2 [(0, .ref (ad 463)), (1, .int x)] := hl
  obtain ⟨⟨p1, p2, ho, hp1, hp2⟩, hP1, hP2, hP3⟩ := id hP
  refine lv_aload_n F.1 F.2.1 d_Pa_placeOf_0 rfl (lv_at hl 0 rfl) ?_
  refine gf_Pa_9 F hW (by omega) ho d_Pa_placeOf_1 ?_
  refine lv_iload_n F.1 F.2.1 d_Pa_placeOf_4 rfl (lv_at hl 1 rfl) ?_
  refine q_iald F hW hP1 (by omega) a (by omega) (by omega) d_Pa_placeOf_5 (fun v1 hv1 => ?_)
  exact q_iret F hr hlk hW ⟨rfl, hv1⟩ d_Pa_placeOf_6
set_option maxHeartbeats 4000000 in
set_option maxRecDepth 100000 in
/-- of a packet -/
theorem k_Pa_aimOf (l : Launch) (D : va_G) (τ : Nat → ClassId) (A : Nat → Prop) (ad : Nat → Nat) (N : Nat) (w : Nat → va_E) (hb : 469 ≤ N) (nx ct : Nat) (P G U : Nat → Int) (hP : qPac τ ad w nx ct P G U) (x : Int32) (a : Nat) (hx : x.toInt = a) (ha : a < 16) : Met l y_Pa_aimOf (qws y_Pa_aimOf c_Pa_aimOf 2 (some .int)) ({ frames := 0, cells := 0, slots := 0, locals := 0 }) (qPc D τ A ad N w [.ref (ad 463), .int x]) (va_Qi (fun r w1 => w1 = w ∧ r.toInt = G a) (qB D τ A ad N) A) 0 0 A := by
  refine q_of (by decide) (Nat.le_of_ble_eq_true rfl) rfl ?_
  intro PP EE s MM below meth CC ls F hr hlk hnm hex hl hW
  have hl : lv_has ls 2 [(0, .ref (ad 463)), (1, .int x)] := hl
  obtain ⟨⟨p1, p2, ho, hp1, hp2⟩, hP1, hP2, hP3⟩ := id hP
  refine lv_aload_n F.1 F.2.1 d_Pa_aimOf_0 rfl (lv_at hl 0 rfl) ?_
  refine gf_Pa_13 F hW (by omega) ho d_Pa_aimOf_1 ?_
  refine lv_iload_n F.1 F.2.1 d_Pa_aimOf_4 rfl (lv_at hl 1 rfl) ?_
  refine q_iald F hW hP2 (by omega) a (by omega) (by omega) d_Pa_aimOf_5 (fun v1 hv1 => ?_)
  exact q_iret F hr hlk hW ⟨rfl, hv1⟩ d_Pa_aimOf_6
set_option maxHeartbeats 4000000 in
set_option maxRecDepth 100000 in
/-- of a packet -/
theorem k_Pa_weighed (l : Launch) (D : va_G) (τ : Nat → ClassId) (A : Nat → Prop) (ad : Nat → Nat) (N : Nat) (w : Nat → va_E) (hb : 469 ≤ N) (nx ct : Nat) (P G U : Nat → Int) (hP : qPac τ ad w nx ct P G U) (x : Int32) (a : Nat) (hx : x.toInt = a) (ha : a < 16) : Met l y_Pa_weighed (qws y_Pa_weighed c_Pa_weighed 2 (some .int)) ({ frames := 0, cells := 0, slots := 0, locals := 0 }) (qPc D τ A ad N w [.ref (ad 463), .int x]) (va_Qi (fun r w1 => w1 = w ∧ r.toInt = U a) (qB D τ A ad N) A) 0 0 A := by
  refine q_of (by decide) (Nat.le_of_ble_eq_true rfl) rfl ?_
  intro PP EE s MM below meth CC ls F hr hlk hnm hex hl hW
  have hl : lv_has ls 2 [(0, .ref (ad 463)), (1, .int x)] := hl
  obtain ⟨⟨p1, p2, ho, hp1, hp2⟩, hP1, hP2, hP3⟩ := id hP
  refine lv_aload_n F.1 F.2.1 d_Pa_weighed_0 rfl (lv_at hl 0 rfl) ?_
  refine gf_Pa_16 F hW (by omega) ho d_Pa_weighed_1 ?_
  refine lv_iload_n F.1 F.2.1 d_Pa_weighed_4 rfl (lv_at hl 1 rfl) ?_
  refine q_iald F hW hP3 (by omega) a (by omega) (by omega) d_Pa_weighed_5 (fun v1 hv1 => ?_)
  exact q_iret F hr hlk hW ⟨rfl, hv1⟩ d_Pa_weighed_6
set_option maxHeartbeats 4000000 in
set_option maxRecDepth 100000 in
/-- a packet moves -/
theorem k_Pa_move (l : Launch) (D : va_G) (τ : Nat → ClassId) (A : Nat → Prop) (ad : Nat → Nat) (N : Nat) (w : Nat → va_E) (hb : 469 ≤ N) (nx ct : Nat) (P G U : Nat → Int) (hP : qPac τ ad w nx ct P G U) (x y z : Int32) (a : Nat) (hx : x.toInt = a) (ha : a < 16) (hr1 : -2147483648 ≤ U a + z.toInt ∧ U a + z.toInt ≤ 2147483647) : Met l y_Pa_move (qws y_Pa_move c_Pa_move 4 none) ({ frames := 0, cells := 0, slots := 0, locals := 0 }) (qPc D τ A ad N w [.ref (ad 463), .int x, .int y, .int z]) (va_Qv (fun w1 => qPac τ ad w1 nx ct (q_up P a y.toInt) G (q_up U a (U a + z.toInt)) ∧ (∀ q, (q < 463 ∨ 467 ≤ q) → w1 q = w q)) (qB D τ A ad N) A) 0 0 A := by
  refine q_of (by decide) (Nat.le_of_ble_eq_true rfl) rfl ?_
  intro PP EE s MM below meth CC ls F hr hlk hnm hex hl hW
  have hl : lv_has ls 4 [(0, .ref (ad 463)), (1, .int x), (2, .int y), (3, .int z)] := hl
  obtain ⟨⟨p1, p2, ho, hp1, hp2⟩, hP1, hP2, hP3⟩ := id hP
  refine lv_aload_n F.1 F.2.1 d_Pa_move_0 rfl (lv_at hl 0 rfl) ?_
  refine gf_Pa_9 F hW (by omega) ho d_Pa_move_1 ?_
  refine lv_iload_n F.1 F.2.1 d_Pa_move_4 rfl (lv_at hl 1 rfl) ?_
  refine lv_iload_n F.1 F.2.1 d_Pa_move_5 rfl (lv_at hl 2 rfl) ?_
  refine q_iast F hW hP1 (by omega) a (by omega) (by omega) d_Pa_move_6 (fun H1 locs1 w1 hW1 hI1 hfr1 => ?_)
  replace ho := (hfr1 _ (by omega)).trans ho
  replace hP1 := hI1
  replace hP2 := hP2.keep (hfr1 _ (by omega))
  replace hP3 := hP3.keep (hfr1 _ (by omega))
  refine lv_aload_n F.1 F.2.1 d_Pa_move_7 rfl (lv_at hl 0 rfl) ?_
  refine gf_Pa_16 F hW1 (by omega) ho d_Pa_move_8 ?_
  refine lv_iload_n F.1 F.2.1 d_Pa_move_11 rfl (lv_at hl 1 rfl) ?_
  refine lv_dup2_11 F.1 F.2.1 d_Pa_move_12 rfl rfl ?_
  refine q_iald F hW1 hP3 (by omega) a (by omega) (by omega) d_Pa_move_13 (fun v2 hv2 => ?_)
  refine lv_iload_n F.1 F.2.1 d_Pa_move_14 rfl (lv_at hl 3 rfl) ?_
  refine q_iadd F d_Pa_move_15 (by omega) (fun v3 hv3 => ?_)
  refine q_iast F hW1 hP3 (by omega) a (by omega) (by omega) d_Pa_move_16 (fun H4 locs4 w4 hW4 hI4 hfr4 => ?_)
  replace ho := (hfr4 _ (by omega)).trans ho
  replace hP1 := hP1.keep (hfr4 _ (by omega))
  replace hP2 := hP2.keep (hfr4 _ (by omega))
  replace hP3 := hI4
  have e9 : v3.toInt = U a + z.toInt := by omega
  rw [e9] at hP3
  exact q_vret F hr hlk hW4 ⟨⟨⟨p1, p2, ho, hp1, hp2⟩, hP1, hP2, hP3⟩, fun q hq => by rw [hfr4 q (by omega), hfr1 q (by omega)]⟩ d_Pa_move_17
set_option maxHeartbeats 4000000 in
set_option maxRecDepth 100000 in
/-- a packet more -/
theorem k_Pa_add (l : Launch) (D : va_G) (τ : Nat → ClassId) (A : Nat → Prop) (ad : Nat → Nat) (N : Nat) (w : Nat → va_E) (hb : 469 ≤ N) (nx ct : Nat) (P G U : Nat → Int) (hP : qPac τ ad w nx ct P G U) (hnx : nx < 16) (hct : ct ≤ 16) (x y : Int32) : Met l y_Pa_add (qws y_Pa_add c_Pa_add 4 (some .int)) ({ frames := 1, cells := 0, slots := 0, locals := 15 }) (qPc D τ A ad N w [.ref (ad 463), .int x, .int y]) (va_Qi (fun r w1 => r.toInt = nx ∧ qPac τ ad w1 ((nx + 1) % 16) (if ct < 16 then ct + 1 else 16) (q_up P nx x.toInt) (q_up G nx y.toInt) (q_up U nx 0) ∧ (∀ q, (q < 463 ∨ 467 ≤ q) → w1 q = w q)) (qB D τ A ad N) A) 0 0 A := by
  refine q_of (by decide) (Nat.le_of_ble_eq_true rfl) rfl ?_
  intro PP EE s MM below meth CC ls F hr hlk hnm hex hl hW
  have hl : lv_has ls 4 [(0, .ref (ad 463)), (1, .int x), (2, .int y)] := hl
  obtain ⟨⟨p1, p2, ho, hp1, hp2⟩, hP1, hP2, hP3⟩ := id hP
  refine lv_aload_n F.1 F.2.1 d_Pa_add_0 rfl (lv_at hl 0 rfl) ?_
  refine gf_Pa_19 F hW (by omega) ho d_Pa_add_1 ?_
  refine lv_istore_n (lv' := [(3, .int p1), (0, .ref (ad 463)), (1, .int x), (2, .int y)]) F.1 F.2.1 d_Pa_add_4 rfl hl (by decide) rfl (fun ls1 hl1 => ?_)
  clear hl
  refine lv_aload_n F.1 F.2.1 d_Pa_add_5 rfl (lv_at hl1 1 rfl) ?_
  refine gf_Pa_9 F hW (by omega) ho d_Pa_add_6 ?_
  refine lv_iload_n F.1 F.2.1 d_Pa_add_9 rfl (lv_at hl1 0 rfl) ?_
  refine lv_iload_n F.1 F.2.1 d_Pa_add_10 rfl (lv_at hl1 2 rfl) ?_
  refine q_iast F hW hP1 (by omega) nx (by omega) (by omega) d_Pa_add_11 (fun H2 locs2 w2 hW2 hI2 hfr2 => ?_)
  replace ho := (hfr2 _ (by omega)).trans ho
  replace hP1 := hI2
  replace hP2 := hP2.keep (hfr2 _ (by omega))
  replace hP3 := hP3.keep (hfr2 _ (by omega))
  refine lv_aload_n F.1 F.2.1 d_Pa_add_12 rfl (lv_at hl1 1 rfl) ?_
  refine gf_Pa_13 F hW2 (by omega) ho d_Pa_add_13 ?_
  refine lv_iload_n F.1 F.2.1 d_Pa_add_16 rfl (lv_at hl1 0 rfl) ?_
  refine lv_iload_n F.1 F.2.1 d_Pa_add_17 rfl (lv_at hl1 3 rfl) ?_
  refine q_iast F hW2 hP2 (by omega) nx (by omega) (by omega) d_Pa_add_18 (fun H3 locs3 w3 hW3 hI3 hfr3 => ?_)
  replace ho := (hfr3 _ (by omega)).trans ho
  replace hP1 := hP1.keep (hfr3 _ (by omega))
  replace hP2 := hI3
  replace hP3 := hP3.keep (hfr3 _ (by omega))
  refine lv_aload_n F.1 F.2.1 d_Pa_add_19 rfl (lv_at hl1 1 rfl) ?_
  refine gf_Pa_16 F hW3 (by omega) ho d_Pa_add_20 ?_
  refine lv_iload_n F.1 F.2.1 d_Pa_add_23 rfl (lv_at hl1 0 rfl) ?_
  refine q_iconst F d_Pa_add_24 (by decide) (fun v4 hv4 => ?_)
  refine q_iast F hW3 hP3 (by omega) nx (by omega) (by omega) d_Pa_add_25 (fun H5 locs5 w5 hW5 hI5 hfr5 => ?_)
  replace ho := (hfr5 _ (by omega)).trans ho
  replace hP1 := hP1.keep (hfr5 _ (by omega))
  replace hP2 := hP2.keep (hfr5 _ (by omega))
  replace hP3 := hI5
  rw [hv4] at hP3
  refine lv_aload_n F.1 F.2.1 d_Pa_add_26 rfl (lv_at hl1 1 rfl) ?_
  refine lv_aload_n F.1 F.2.1 d_Pa_add_27 rfl (lv_at hl1 1 rfl) ?_
  refine gf_Pa_19 F hW5 (by omega) ho d_Pa_add_28 ?_
  refine q_iconst F d_Pa_add_31 (by decide) (fun v6 hv6 => ?_)
  refine q_iadd F d_Pa_add_32 (by omega) (fun v7 hv7 => ?_)
  refine q_bipush F d_Pa_add_33 (by decide) (fun v8 hv8 => ?_)
  refine q_irem F (by omega) (by omega) d_Pa_add_35 (fun v9 hv9 => ?_)
  refine pf_Pa_19 F hW5 (by omega) ho d_Pa_add_36 (fun H10 locs10 w10 hW10 hI10 hfr10 => ?_)
  replace ho := hI10
  replace hP1 := hP1.keep (hfr10 _ (by omega))
  replace hP2 := hP2.keep (hfr10 _ (by omega))
  replace hP3 := hP3.keep (hfr10 _ (by omega))
  refine lv_aload_n F.1 F.2.1 d_Pa_add_39 rfl (lv_at hl1 1 rfl) ?_
  refine lv_aload_n F.1 F.2.1 d_Pa_add_40 rfl (lv_at hl1 1 rfl) ?_
  refine gf_Pa_23 F hW10 (by omega) ho d_Pa_add_41 ?_
  refine q_iconst F d_Pa_add_44 (by decide) (fun v11 hv11 => ?_)
  refine q_iadd F d_Pa_add_45 (by omega) (fun v12 hv12 => ?_)
  refine q_bipush F d_Pa_add_46 (by decide) (fun v13 hv13 => ?_)
  refine q_min F hl1.1 tw_648 (by decide) (Nat.le_of_ble_eq_true rfl) (by decide) (by decide) d_Pa_add_48 (fun v14 hv14 => ?_)
  refine pf_Pa_23 F hW10 (by omega) ho d_Pa_add_51 (fun H15 locs15 w15 hW15 hI15 hfr15 => ?_)
  replace ho := hI15
  replace hP1 := hP1.keep (hfr15 _ (by omega))
  replace hP2 := hP2.keep (hfr15 _ (by omega))
  replace hP3 := hP3.keep (hfr15 _ (by omega))
  refine lv_iload_n F.1 F.2.1 d_Pa_add_54 rfl (lv_at hl1 0 rfl) ?_
  exact q_iret F hr hlk hW15 ⟨hp1, ⟨⟨v9, v14, ho, by rw [hv9, hv8]; omega, by split at hv14 <;> split <;> omega⟩, hP1, hP2, hP3⟩, fun q hq => by rw [hfr15 q (by omega), hfr10 q (by omega), hfr5 q (by omega), hfr3 q (by omega), hfr2 q (by omega)]⟩ d_Pa_add_55
