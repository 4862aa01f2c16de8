theorem q_G.up2 {τ : Nat → ClassId} {ad : Nat → Nat} {w : Nat → va_E} {k n r i j : Nat} {M : Nat → Nat → Int} {z : Int} (h : q_G τ ad w k n r (fun a b => if a = i then q_up (M i) j z b else M a b)) : q_G τ ad w k n r (q_up2 M i j z) := by
  refine h.congr (fun a b _ _ => ?_)
  unfold q_up2 q_up
  by_cases q : a = i
  · subst q
    by_cases q2 : b = j <;> simp [q2]
  · simp [q]
theorem zp_up {bh : Nat → Nat → Int} {a p c : Nat} {z y : Int} (h : c ≠ a) : zp (q_up2 bh a p z) c y = zp bh c y := by
  unfold zp
  refine zf_congr (fun j _ => ?_)
  unfold q_up2
  simp [h]
set_option maxHeartbeats 4000000 in
set_option maxRecDepth 100000 in
/-- a port is written -/
theorem k_Ne_connect (l : Launch) (D : va_G) (τ : Nat → ClassId) (A : Nat → Prop) (ad : Nat → Nat) (N : Nat) (w : Nat → va_E) (b : Nat) (hb : b + 83 ≤ N) (n : Int) (bh wt : Nat → Nat → Int) (hN : qNet τ ad w b n bh wt) (x y z : Int32) (a q : Nat) (hx : x.toInt = a) (ha : a < 40) (hy : y.toInt = q) (hq : q < 16) : Met l y_Ne_connect (qws y_Ne_connect c_Ne_connect 4 none) ({ frames := 0, cells := 0, slots := 0, locals := 0 }) (qPc D τ A ad N w [.ref (ad b), .int x, .int y, .int z]) (va_Qv (fun w1 => qNet τ ad w1 b n (q_up2 bh a q z.toInt) (q_up2 wt a q 0) ∧ (∀ q, (q < b ∨ b + 83 ≤ q) → w1 q = w q)) (qB D τ A ad N) A) 0 0 A := by
  refine q_of (by decide) (Nat.le_of_ble_eq_true rfl) rfl ?_
  intro PP EE s MM below meth CC ls F hr hlk hnm hex hl hW
  have hl : lv_has ls 4 [(0, .ref (ad b)), (1, .int x), (2, .int y), (3, .int z)] := hl
  obtain ⟨⟨n32, ho, hn32⟩, hB, hT⟩ := id hN
  refine lv_iload_n F.1 F.2.1 d_Ne_connect_0 rfl (lv_at hl 2 rfl) ?_
  refine q_iconst F d_Ne_connect_1 (by decide) (fun v1 hv1 => ?_)
  refine q_icmp_eq (tgt := 23) F d_Ne_connect_2 (by decide) (fun c3 => ?_) (fun c3 => ?_)
  · exact absurd c3 (by omega)
  · refine lv_aload_n F.1 F.2.1 d_Ne_connect_5 rfl (lv_at hl 0 rfl) ?_
    refine gf_Ne_11 F hW (by omega) ho d_Ne_connect_6 ?_
    refine lv_iload_n F.1 F.2.1 d_Ne_connect_9 rfl (lv_at hl 1 rfl) ?_
    refine q_aald F hW hB (by omega) a (by omega) (by omega) d_Ne_connect_10 ?_
    refine lv_iload_n F.1 F.2.1 d_Ne_connect_11 rfl (lv_at hl 2 rfl) ?_
    refine lv_iload_n F.1 F.2.1 d_Ne_connect_12 rfl (lv_at hl 3 rfl) ?_
    refine q_iast F hW (hB.2 a (by omega)) (by omega) q (by omega) (by omega) d_Ne_connect_13 (fun H2 locs2 w2 hW2 hI2 hfr2 => ?_)
    replace ho := (hfr2 _ (by omega)).trans ho
    replace hB := hB.put (i := a) (by omega) hI2 hfr2
    replace hT := hT.keep (fun i hi => hfr2 _ (by omega))
    refine lv_aload_n F.1 F.2.1 d_Ne_connect_14 rfl (lv_at hl 0 rfl) ?_
    refine gf_Ne_16 F hW2 (by omega) ho d_Ne_connect_15 ?_
    refine lv_iload_n F.1 F.2.1 d_Ne_connect_18 rfl (lv_at hl 1 rfl) ?_
    refine q_aald F hW2 hT (by omega) a (by omega) (by omega) d_Ne_connect_19 ?_
    refine lv_iload_n F.1 F.2.1 d_Ne_connect_20 rfl (lv_at hl 2 rfl) ?_
    refine q_iconst F d_Ne_connect_21 (by decide) (fun v3 hv3 => ?_)
    refine q_iast F hW2 (hT.2 a (by omega)) (by omega) q (by omega) (by omega) d_Ne_connect_22 (fun H4 locs4 w4 hW4 hI4 hfr4 => ?_)
    replace ho := (hfr4 _ (by omega)).trans ho
    replace hB := hB.keep (fun i hi => hfr4 _ (by omega))
    replace hT := hT.put (i := a) (by omega) hI4 hfr4
    rw [hv3] at hT
    exact q_vret F hr hlk hW4 ⟨⟨⟨n32, ho, hn32⟩, hB.up2, hT.up2⟩, fun r hr2 => by rw [hfr4 r (by omega), hfr2 r (by omega)]⟩ d_Ne_connect_23
set_option maxHeartbeats 4000000 in
set_option maxRecDepth 100000 in
/-- a port is written -/
theorem k_Ne_weigh (l : Launch) (D : va_G) (τ : Nat → ClassId) (A : Nat → Prop) (ad : Nat → Nat) (N : Nat) (w : Nat → va_E) (b : Nat) (hb : b + 83 ≤ N) (n : Int) (bh wt : Nat → Nat → Int) (hN : qNet τ ad w b n bh wt) (x y z : Int32) (a q : Nat) (hx : x.toInt = a) (ha : a < 40) (hy : y.toInt = q) (hq : q < 16) : Met l y_Ne_weigh (qws y_Ne_weigh c_Ne_weigh 4 none) ({ frames := 0, cells := 0, slots := 0, locals := 0 }) (qPc D τ A ad N w [.ref (ad b), .int x, .int y, .int z]) (va_Qv (fun w1 => qNet τ ad w1 b n bh (q_up2 wt a q z.toInt) ∧ (∀ q, (q < b ∨ b + 83 ≤ q) → w1 q = w q)) (qB D τ A ad N) A) 0 0 A := by
  refine q_of (by decide) (Nat.le_of_ble_eq_true rfl) rfl ?_
  intro PP EE s MM below meth CC ls F hr hlk hnm hex hl hW
  have hl : lv_has ls 4 [(0, .ref (ad b)), (1, .int x), (2, .int y), (3, .int z)] := hl
  obtain ⟨⟨n32, ho, hn32⟩, hB, hT⟩ := id hN
  refine lv_iload_n F.1 F.2.1 d_Ne_weigh_0 rfl (lv_at hl 2 rfl) ?_
  refine q_iconst F d_Ne_weigh_1 (by decide) (fun v1 hv1 => ?_)
  refine q_icmp_eq (tgt := 14) F d_Ne_weigh_2 (by decide) (fun c3 => ?_) (fun c3 => ?_)
  · exact absurd c3 (by omega)
  · refine lv_aload_n F.1 F.2.1 d_Ne_weigh_5 rfl (lv_at hl 0 rfl) ?_
    refine gf_Ne_16 F hW (by omega) ho d_Ne_weigh_6 ?_
    refine lv_iload_n F.1 F.2.1 d_Ne_weigh_9 rfl (lv_at hl 1 rfl) ?_
    refine q_aald F hW hT (by omega) a (by omega) (by omega) d_Ne_weigh_10 ?_
    refine lv_iload_n F.1 F.2.1 d_Ne_weigh_11 rfl (lv_at hl 2 rfl) ?_
    refine lv_iload_n F.1 F.2.1 d_Ne_weigh_12 rfl (lv_at hl 3 rfl) ?_
    refine q_iast F hW (hT.2 a (by omega)) (by omega) q (by omega) (by omega) d_Ne_weigh_13 (fun H2 locs2 w2 hW2 hI2 hfr2 => ?_)
    replace ho := (hfr2 _ (by omega)).trans ho
    replace hB := hB.keep (fun i hi => hfr2 _ (by omega))
    replace hT := hT.put (i := a) (by omega) hI2 hfr2
    exact q_vret F hr hlk hW2 ⟨⟨⟨n32, ho, hn32⟩, hB, hT.up2⟩, fun r hr2 => hfr2 r (by omega)⟩ d_Ne_weigh_14
set_option maxHeartbeats 4000000 in
set_option maxRecDepth 100000 in
/-- both ends -/
theorem k_Ne_join (l : Launch) (D : va_G) (τ : Nat → ClassId) (A : Nat → Prop) (ad : Nat → Nat) (N : Nat) (w : Nat → va_E) (b : Nat) (hb : b + 83 ≤ N) (n : Int) (bh wt : Nat → Nat → Int) (hN : qNet τ ad w b n bh wt) (x y : Int32) (a c : Nat) (hx : x.toInt = a) (hy : y.toInt = c) (ha : a < 40) (hc : c < 40) (hac : a ≠ c) (qa qc : Nat) (hqa : qa < 16) (hqc : qc < 16) (ea : zp bh a (-1) = qa) (ec : zp bh c (-1) = qc) : Met l y_Ne_join (qws y_Ne_join c_Ne_join 3 none) ({ frames := 2, cells := 0, slots := 0, locals := 46 }) (qPc D τ A ad N w [.ref (ad b), .int x, .int y]) (va_Qv (fun w1 => qNet τ ad w1 b n (q_up2 (q_up2 bh a qa c) c qc a) (q_up2 (q_up2 wt a qa 0) c qc 0) ∧ (∀ q, (q < b ∨ b + 83 ≤ q) → w1 q = w q)) (qB D τ A ad N) A) 0 0 A := by
  refine q_of (by decide) (Nat.le_of_ble_eq_true rfl) rfl ?_
  intro PP EE s MM below meth CC ls F hr hlk hnm hex hl hW
  have hl : lv_has ls 3 [(0, .ref (ad b)), (1, .int x), (2, .int y)] := hl
  obtain ⟨⟨n32, ho, hn32⟩, hB, hT⟩ := id hN
  refine lv_aload_n F.1 F.2.1 d_Ne_join_0 rfl (lv_at hl 0 rfl) ?_
  refine lv_iload_n F.1 F.2.1 d_Ne_join_1 rfl (lv_at hl 1 rfl) ?_
  refine lv_aload_n F.1 F.2.1 d_Ne_join_2 rfl (lv_at hl 0 rfl) ?_
  refine lv_iload_n F.1 F.2.1 d_Ne_join_3 rfl (lv_at hl 1 rfl) ?_
  refine q_calli hW (q_cV (As := [.int x]) (rest := [.int x, .ref (ad b)]) F hW cs_Ne_43 hd_Ne_freePort rfl (by omega) ho (k_Ne_freePort l D τ A ad N w b hb n (bh) (wt) hN x a hx ha) rfl rfl ⟨by decide, by decide⟩ rfl hl.1 rfl (Nat.le_of_ble_eq_true rfl) d_Ne_join_4 ⟨Nat.le_refl _, Nat.le_refl _⟩) (fun v1 w1 H1 locs1 hp1 hW1 => ?_)
  obtain ⟨hq1, hp1⟩ := hp1
  replace hq1 := hq1.symm
  subst hq1
  have e1 : v1.toInt = (qa : Int) := by rw [hp1]; exact ea
  refine lv_iload_n F.1 F.2.1 d_Ne_join_7 rfl (lv_at hl 2 rfl) ?_
  refine q_callv hW1 (q_cV (As := [.int x, .int v1, .int y]) (rest := []) F hW1 cs_Ne_47 hd_Ne_connect rfl (by omega) ho (k_Ne_connect l D τ A ad N w b hb n (bh) (wt) hN x v1 y a qa hx ha e1 hqa) rfl rfl ⟨by decide, by decide⟩ rfl hl.1 rfl (Nat.le_of_ble_eq_true rfl) d_Ne_join_8 ⟨Nat.le_refl _, Nat.le_refl _⟩) (fun w2 H2 locs2 hp2 hW2 => ?_)
  obtain ⟨hN2, hfr2⟩ := hp2
  rw [hy] at hN2
  obtain ⟨⟨n32b, ho, hn32b⟩, -, -⟩ := id hN2
  refine lv_aload_n F.1 F.2.1 d_Ne_join_11 rfl (lv_at hl 0 rfl) ?_
  refine lv_iload_n F.1 F.2.1 d_Ne_join_12 rfl (lv_at hl 2 rfl) ?_
  refine lv_aload_n F.1 F.2.1 d_Ne_join_13 rfl (lv_at hl 0 rfl) ?_
  refine lv_iload_n F.1 F.2.1 d_Ne_join_14 rfl (lv_at hl 2 rfl) ?_
  refine q_calli hW2 (q_cV (As := [.int y]) (rest := [.int y, .ref (ad b)]) F hW2 cs_Ne_43 hd_Ne_freePort rfl (by omega) ho (k_Ne_freePort l D τ A ad N w2 b hb n (q_up2 (bh) a qa c) (q_up2 (wt) a qa 0) hN2 y c hy hc) rfl rfl ⟨by decide, by decide⟩ rfl hl.1 rfl (Nat.le_of_ble_eq_true rfl) d_Ne_join_15 ⟨Nat.le_refl _, Nat.le_refl _⟩) (fun v3 w3 H3 locs3 hp3 hW3 => ?_)
  obtain ⟨hq3, hp3⟩ := hp3
  replace hq3 := hq3.symm
  subst hq3
  have e3 : v3.toInt = (qc : Int) := by rw [hp3, zp_up (by omega)]; exact ec
  refine lv_iload_n F.1 F.2.1 d_Ne_join_18 rfl (lv_at hl 1 rfl) ?_
  refine q_callv hW3 (q_cV (As := [.int y, .int v3, .int x]) (rest := []) F hW3 cs_Ne_47 hd_Ne_connect rfl (by omega) ho (k_Ne_connect l D τ A ad N w2 b hb n (q_up2 (bh) a qa c) (q_up2 (wt) a qa 0) hN2 y v3 x c qc hy hc e3 hqc) rfl rfl ⟨by decide, by decide⟩ rfl hl.1 rfl (Nat.le_of_ble_eq_true rfl) d_Ne_join_19 ⟨Nat.le_refl _, Nat.le_refl _⟩) (fun w4 H4 locs4 hp4 hW4 => ?_)
  obtain ⟨hN4, hfr4⟩ := hp4
  rw [hx] at hN4
  exact q_vret F hr hlk hW4 ⟨hN4, fun r hr2 => by rw [hfr4 r hr2, hfr2 r hr2]⟩ d_Ne_join_22
set_option maxHeartbeats 4000000 in
set_option maxRecDepth 100000 in
/-- both ends -/
theorem k_Ne_part (l : Launch) (D : va_G) (τ : Nat → ClassId) (A : Nat → Prop) (ad : Nat → Nat) (N : Nat) (w : Nat → va_E) (b : Nat) (hb : b + 83 ≤ N) (n : Int) (bh wt : Nat → Nat → Int) (hN : qNet τ ad w b n bh wt) (x y : Int32) (a c : Nat) (hx : x.toInt = a) (hy : y.toInt = c) (ha : a < 40) (hc : c < 40) (hac : a ≠ c) (qa qc : Nat) (hqa : qa < 16) (hqc : qc < 16) (ea : zp bh a c = qa) (ec : zp bh c a = qc) : Met l y_Ne_part (qws y_Ne_part c_Ne_part 3 none) ({ frames := 1, cells := 0, slots := 0, locals := 23 }) (qPc D τ A ad N w [.ref (ad b), .int x, .int y]) (va_Qv (fun w1 => qNet τ ad w1 b n (q_up2 (q_up2 bh a qa (-1)) c qc (-1)) (q_up2 (q_up2 wt a qa 0) c qc 0) ∧ (∀ q, (q < b ∨ b + 83 ≤ q) → w1 q = w q)) (qB D τ A ad N) A) 0 0 A := by
  refine q_of (by decide) (Nat.le_of_ble_eq_true rfl) rfl ?_
  intro PP EE s MM below meth CC ls F hr hlk hnm hex hl hW
  have hl : lv_has ls 3 [(0, .ref (ad b)), (1, .int x), (2, .int y)] := hl
  obtain ⟨⟨n32, ho, hn32⟩, hB, hT⟩ := id hN
  refine lv_aload_n F.1 F.2.1 d_Ne_part_0 rfl (lv_at hl 0 rfl) ?_
  refine lv_iload_n F.1 F.2.1 d_Ne_part_1 rfl (lv_at hl 1 rfl) ?_
  refine lv_aload_n F.1 F.2.1 d_Ne_part_2 rfl (lv_at hl 0 rfl) ?_
  refine lv_iload_n F.1 F.2.1 d_Ne_part_3 rfl (lv_at hl 1 rfl) ?_
  refine lv_iload_n F.1 F.2.1 d_Ne_part_4 rfl (lv_at hl 2 rfl) ?_
  refine q_calli hW (q_cV (As := [.int x, .int y]) (rest := [.int x, .ref (ad b)]) F hW cs_Ne_39 hd_Ne_portTo rfl (by omega) ho (k_Ne_portTo l D τ A ad N w b hb n (bh) (wt) hN x y a hx ha) rfl rfl ⟨by decide, by decide⟩ rfl hl.1 rfl (Nat.le_of_ble_eq_true rfl) d_Ne_part_5 ⟨Nat.le_refl _, Nat.le_refl _⟩) (fun v1 w1 H1 locs1 hp1 hW1 => ?_)
  obtain ⟨hq1, hp1⟩ := hp1
  replace hq1 := hq1.symm
  subst hq1
  have e1 : v1.toInt = (qa : Int) := by rw [hp1, hy]; exact ea
  refine q_iconst F d_Ne_part_8 (by decide) (fun v2 hv2 => ?_)
  refine q_callv hW1 (q_cV (As := [.int x, .int v1, .int v2]) (rest := []) F hW1 cs_Ne_47 hd_Ne_connect rfl (by omega) ho (k_Ne_connect l D τ A ad N w b hb n (bh) (wt) hN x v1 v2 a qa hx ha e1 hqa) rfl rfl ⟨by decide, by decide⟩ rfl hl.1 rfl (Nat.le_of_ble_eq_true rfl) d_Ne_part_9 ⟨Nat.le_refl _, Nat.le_refl _⟩) (fun w3 H3 locs3 hp3 hW3 => ?_)
  obtain ⟨hN3, hfr3⟩ := hp3
  rw [hv2] at hN3
  obtain ⟨⟨n32b, ho, hn32b⟩, -, -⟩ := id hN3
  refine lv_aload_n F.1 F.2.1 d_Ne_part_12 rfl (lv_at hl 0 rfl) ?_
  refine lv_iload_n F.1 F.2.1 d_Ne_part_13 rfl (lv_at hl 2 rfl) ?_
  refine lv_aload_n F.1 F.2.1 d_Ne_part_14 rfl (lv_at hl 0 rfl) ?_
  refine lv_iload_n F.1 F.2.1 d_Ne_part_15 rfl (lv_at hl 2 rfl) ?_
  refine lv_iload_n F.1 F.2.1 d_Ne_part_16 rfl (lv_at hl 1 rfl) ?_
  refine q_calli hW3 (q_cV (As := [.int y, .int x]) (rest := [.int y, .ref (ad b)]) F hW3 cs_Ne_39 hd_Ne_portTo rfl (by omega) ho (k_Ne_portTo l D τ A ad N w3 b hb n (q_up2 (bh) a qa (-1)) (q_up2 (wt) a qa 0) hN3 y x c hy hc) rfl rfl ⟨by decide, by decide⟩ rfl hl.1 rfl (Nat.le_of_ble_eq_true rfl) d_Ne_part_17 ⟨Nat.le_refl _, Nat.le_refl _⟩) (fun v4 w4 H4 locs4 hp4 hW4 => ?_)
  obtain ⟨hq4, hp4⟩ := hp4
  replace hq4 := hq4.symm
  subst hq4
  have e4 : v4.toInt = (qc : Int) := by rw [hp4, hx, zp_up (by omega)]; exact ec
  refine q_iconst F d_Ne_part_20 (by decide) (fun v5 hv5 => ?_)
  refine q_callv hW4 (q_cV (As := [.int y, .int v4, .int v5]) (rest := []) F hW4 cs_Ne_47 hd_Ne_connect rfl (by omega) ho (k_Ne_connect l D τ A ad N w3 b hb n (q_up2 (bh) a qa (-1)) (q_up2 (wt) a qa 0) hN3 y v4 v5 c qc hy hc e4 hqc) rfl rfl ⟨by decide, by decide⟩ rfl hl.1 rfl (Nat.le_of_ble_eq_true rfl) d_Ne_part_21 ⟨Nat.le_refl _, Nat.le_refl _⟩) (fun w6 H6 locs6 hp6 hW6 => ?_)
  obtain ⟨hN6, hfr6⟩ := hp6
  rw [hv5] at hN6
  exact q_vret F hr hlk hW6 ⟨hN6, fun r hr2 => by rw [hfr6 r hr2, hfr3 r hr2]⟩ d_Ne_part_24
set_option maxHeartbeats 4000000 in
set_option maxRecDepth 100000 in
/-- both ends -/
theorem k_Ne_setWeight (l : Launch) (D : va_G) (τ : Nat → ClassId) (A : Nat → Prop) (ad : Nat → Nat) (N : Nat) (w : Nat → va_E) (b : Nat) (hb : b + 83 ≤ N) (n : Int) (bh wt : Nat → Nat → Int) (hN : qNet τ ad w b n bh wt) (x y : Int32) (a c : Nat) (hx : x.toInt = a) (hy : y.toInt = c) (ha : a < 40) (hc : c < 40) (hac : a ≠ c) (qa qc : Nat) (hqa : qa < 16) (hqc : qc < 16) (z : Int32) (ea : zp bh a c = qa) (ec : zp bh c a = qc) : Met l y_Ne_setWeight (qws y_Ne_setWeight c_Ne_setWeight 4 none) ({ frames := 1, cells := 0, slots := 0, locals := 23 }) (qPc D τ A ad N w [.ref (ad b), .int x, .int y, .int z]) (va_Qv (fun w1 => qNet τ ad w1 b n bh (q_up2 (q_up2 wt a qa z.toInt) c qc z.toInt) ∧ (∀ q, (q < b ∨ b + 83 ≤ q) → w1 q = w q)) (qB D τ A ad N) A) 0 0 A := by
  refine q_of (by decide) (Nat.le_of_ble_eq_true rfl) rfl ?_
  intro PP EE s MM below meth CC ls F hr hlk hnm hex hl hW
  have hl : lv_has ls 4 [(0, .ref (ad b)), (1, .int x), (2, .int y), (3, .int z)] := hl
  obtain ⟨⟨n32, ho, hn32⟩, hB, hT⟩ := id hN
  refine lv_aload_n F.1 F.2.1 d_Ne_setWeight_0 rfl (lv_at hl 0 rfl) ?_
  refine lv_iload_n F.1 F.2.1 d_Ne_setWeight_1 rfl (lv_at hl 1 rfl) ?_
  refine lv_aload_n F.1 F.2.1 d_Ne_setWeight_2 rfl (lv_at hl 0 rfl) ?_
  refine lv_iload_n F.1 F.2.1 d_Ne_setWeight_3 rfl (lv_at hl 1 rfl) ?_
  refine lv_iload_n F.1 F.2.1 d_Ne_setWeight_4 rfl (lv_at hl 2 rfl) ?_
  refine q_calli hW (q_cV (As := [.int x, .int y]) (rest := [.int x, .ref (ad b)]) F hW cs_Ne_39 hd_Ne_portTo rfl (by omega) ho (k_Ne_portTo l D τ A ad N w b hb n (bh) (wt) hN x y a hx ha) rfl rfl ⟨by decide, by decide⟩ rfl hl.1 rfl (Nat.le_of_ble_eq_true rfl) d_Ne_setWeight_5 ⟨Nat.le_refl _, Nat.le_refl _⟩) (fun v1 w1 H1 locs1 hp1 hW1 => ?_)
  obtain ⟨hq1, hp1⟩ := hp1
  replace hq1 := hq1.symm
  subst hq1
  have e1 : v1.toInt = (qa : Int) := by rw [hp1, hy]; exact ea
  refine lv_iload_n F.1 F.2.1 d_Ne_setWeight_8 rfl (lv_at hl 3 rfl) ?_
  refine q_callv hW1 (q_cV (As := [.int x, .int v1, .int z]) (rest := []) F hW1 cs_Ne_51 hd_Ne_weigh rfl (by omega) ho (k_Ne_weigh l D τ A ad N w b hb n (bh) (wt) hN x v1 z a qa hx ha e1 hqa) rfl rfl ⟨by decide, by decide⟩ rfl hl.1 rfl (Nat.le_of_ble_eq_true rfl) d_Ne_setWeight_9 ⟨Nat.le_refl _, Nat.le_refl _⟩) (fun w2 H2 locs2 hp2 hW2 => ?_)
  obtain ⟨hN2, hfr2⟩ := hp2
  obtain ⟨⟨n32b, ho, hn32b⟩, -, -⟩ := id hN2
  refine lv_aload_n F.1 F.2.1 d_Ne_setWeight_12 rfl (lv_at hl 0 rfl) ?_
  refine lv_iload_n F.1 F.2.1 d_Ne_setWeight_13 rfl (lv_at hl 2 rfl) ?_
  refine lv_aload_n F.1 F.2.1 d_Ne_setWeight_14 rfl (lv_at hl 0 rfl) ?_
  refine lv_iload_n F.1 F.2.1 d_Ne_setWeight_15 rfl (lv_at hl 2 rfl) ?_
  refine lv_iload_n F.1 F.2.1 d_Ne_setWeight_16 rfl (lv_at hl 1 rfl) ?_
  refine q_calli hW2 (q_cV (As := [.int y, .int x]) (rest := [.int y, .ref (ad b)]) F hW2 cs_Ne_39 hd_Ne_portTo rfl (by omega) ho (k_Ne_portTo l D τ A ad N w2 b hb n (bh) (q_up2 (wt) a qa z.toInt) hN2 y x c hy hc) rfl rfl ⟨by decide, by decide⟩ rfl hl.1 rfl (Nat.le_of_ble_eq_true rfl) d_Ne_setWeight_17 ⟨Nat.le_refl _, Nat.le_refl _⟩) (fun v3 w3 H3 locs3 hp3 hW3 => ?_)
  obtain ⟨hq3, hp3⟩ := hp3
  replace hq3 := hq3.symm
  subst hq3
  have e3 : v3.toInt = (qc : Int) := by rw [hp3, hx]; exact ec
  refine lv_iload_n F.1 F.2.1 d_Ne_setWeight_20 rfl (lv_at hl 3 rfl) ?_
  refine q_callv hW3 (q_cV (As := [.int y, .int v3, .int z]) (rest := []) F hW3 cs_Ne_51 hd_Ne_weigh rfl (by omega) ho (k_Ne_weigh l D τ A ad N w2 b hb n (bh) (q_up2 (wt) a qa z.toInt) hN2 y v3 z c qc hy hc e3 hqc) rfl rfl ⟨by decide, by decide⟩ rfl hl.1 rfl (Nat.le_of_ble_eq_true rfl) d_Ne_setWeight_21 ⟨Nat.le_refl _, Nat.le_refl _⟩) (fun w4 H4 locs4 hp4 hW4 => ?_)
  obtain ⟨hN4, hfr4⟩ := hp4
  exact q_vret F hr hlk hW4 ⟨hN4, fun r hr2 => by rw [hfr4 r hr2, hfr2 r hr2]⟩ d_Ne_setWeight_24
