theorem q_G.up2 {τ : Nat → ClassId} {ad : Nat → Nat} {w : Nat → va_E} {k n r i j : Nat} {M : Nat → Nat → Int} {z : Int} (h : q_G τ ad w k n r (fun a b => if a = i then q_up (M i) j z b else M a b)) : q_G τ ad w k n r (q_up2 M i j z) := by
  refine h.congr (fun a b _ _ => ?_)
  unfold q_up2 q_up
  by_cases q : a = i
  · subst q
    by_cases q2 : b = j <;> simp [q2]
  · simp [q]
theorem zp_up {bh : Nat → Nat → Int} {a p c : Nat} {z y : Int} (h : c ≠ a) : zp (q_up2 bh a p z) c y = zp bh c y := by
  unfold zp
  refine zf_congr (fun j _ => ?_)
  unfold q_up2
  simp [h]
set_option maxHeartbeats 4000000 in
set_option maxRecDepth 100000 in
/-- a port is written -/
theorem k_Ne_connect (l : Launch) (D : va_G) (τ : Nat → ClassId) (A : Nat → Prop) (ad : Nat → Nat) (N : Nat) (w : Nat → va_E) (b : Nat) (hb : b + 83 ≤ N) (n : Int) (bh wt : Nat → Nat → Int) (hN : qNet τ ad w b n bh wt) (x y z : Int32) (a q : Nat) (hx : x.toInt = a) (ha : a < 40) (hy : y.toInt = q) (hq : q < 16) : Met l y_Ne_connect (qws y_Ne_connect c_Ne_connect 4 none) ({ frames := 0, cells := 0, slots := 0, locals := 0 }) (qPc D τ A ad N w [.ref (ad b), .int x, .int y, .int z]) (va_Qv (fun w1 => qNet τ ad w1 b n (q_up2 bh a q z.toInt) (q_up2 wt a q 0) ∧ (∀ q, (q < b ∨ b + 83 ≤ q) → w1 q = w q)) (qB D τ A ad N) A) 0 0 A := by
  refine q_of (by decide) (Nat.le_of_ble_eq_true rfl) rfl ?_
  intro PP EE s MM below meth CC ls F hr hlk hnm hex hl hW
  have hl : lv_has ls 4 [(0, .ref (ad b)), (1, .int x), (2, .int y), (3, .int z)] := hl
  obtain ⟨⟨n32, ho, hn32⟩, hB, hT⟩ := id hN
  refine lv_iload_n F.1 F.2.1 d_Ne_connect_0 rfl (lv_at hl 2 rfl) ?_
  refine q_iconst F d_Ne_connect_1 (by decide) (fun v1 hv1 => ?_)
  refine q_icmp_eq (tgt := 23) F d_Ne_connect_2 (by decide) (fun c3 => ?_) (fun c3 => ?_)
  · exact absurd c3 (by omega)
  · refine lv_aload_n F.1 F.2.1 d_Ne_connect_5 rfl (lv_at hl 0 rfl) ?_
    refine gf_Ne_11 F hW (by omega) ho d_Ne_connect_6 ?_
    refine lv_iload_n F.1 F.2.1 d_Ne_connect_9 rfl (lv_at hl 1 rfl) ?_
    refine q_aald F hW hB (by omega) a (by omega) (by omega) d_Ne_connect_10 ?_
    refine lv_iload_n F.1 F.2.1 d_Ne_connect_11 rfl (lv_at hl 2 rfl) ?_
    refine lv_iload_n F.1 F.2.1 d_Ne_connect_12 rfl (lv_at hl 3 rfl) ?_
    refine q_iast F hW (hB.2 a (by omega)) (by omega) q (by omega) (by omega) d_Ne_connect_13 (fun H2 locs2 w2 hW2 hI2 hfr2 => ?_)
    have ho := (hfr2 _ (by omega)).trans ho
    have hB := hB.put (i := a) (by omega) hI2 hfr2
    have hT := hT.keep (fun i hi => hfr2 _ (by omega))
    refine lv_aload_n F.1 F.2.1 d_Ne_connect_14 rfl (lv_at hl 0 rfl) ?_
    refine gf_Ne_16 F hW2 (by omega) ho d_Ne_connect_15 ?_
    refine lv_iload_n F.1 F.2.1 d_Ne_connect_18 rfl (lv_at hl 1 rfl) ?_
    refine q_aald F hW2 hT (by omega) a (by omega) (by omega) d_Ne_connect_19 ?_
    refine lv_iload_n F.1 F.2.1 d_Ne_connect_20 rfl (lv_at hl 2 rfl) ?_
    refine q_iconst F d_Ne_connect_21 (by decide) (fun v3 hv3 => ?_)
    refine q_iast F hW2 (hT.2 a (by omega)) (by omega) q (by omega) (by omega) d_Ne_connect_22 (fun H4 locs4 w4 hW4 hI4 hfr4 => ?_)
    have ho := (hfr4 _ (by omega)).trans ho
    have hB := hB.keep (fun i hi => hfr4 _ (by omega))
    have hT := hT.put (i := a) (by omega) hI4 hfr4
    rw [hv3] at hT
    exact q_vret F hr hlk hW4 ⟨⟨⟨n32, ho, hn32⟩, hB.up2, hT.up2⟩, fun r hr2 => by rw [hfr4 r (by omega), hfr2 r (by omega)]⟩ d_Ne_connect_23
set_option maxHeartbeats 4000000 in
set_option maxRecDepth 100000 in
/-- a port is written -/
theorem k_Ne_weigh (l : Launch) (D : va_G) (τ : Nat → ClassId) (A : Nat → Prop) (ad : Nat → Nat) (N : Nat) (w : Nat → va_E) (b : Nat) (hb : b + 83 ≤ N) (n : Int) (bh wt : Nat → Nat → Int) (hN : qNet τ ad w b n bh wt) (x y z : Int32) (a q : Nat) (hx : x.toInt = a) (ha : a < 40) (hy : y.toInt = q) (hq : q < 16) : Met l y_Ne_weigh (qws y_Ne_weigh c_Ne_weigh 4 none) ({ frames := 0, cells := 0, slots := 0, locals := 0 }) (qPc D τ A ad N w [.ref (ad b), .int x, .int y, .int z]) (va_Qv (fun w1 => qNet τ ad w1 b n bh (q_up2 wt a q z.toInt) ∧ (∀ q, (q < b ∨ b + 83 ≤ q) → w1 q = w q)) (qB D τ A ad N) A) 0 0 A := by
  refine q_of (by decide) (Nat.le_of_ble_eq_true rfl) rfl ?_
  intro PP EE s MM below meth CC ls F hr hlk hnm hex hl hW
  have hl : lv_has ls 4 [(0, .ref (ad b)), (1, .int x), (2, .int y), (3, .int z)] := hl
  obtain ⟨⟨n32, ho, hn32⟩, hB, hT⟩ := id hN
  refine lv_iload_n F.1 F.2.1 d_Ne_weigh_0 rfl (lv_at hl 2 rfl) ?_
  refine q_iconst F d_Ne_weigh_1 (by decide) (fun v1 hv1 => ?_)
  refine q_icmp_eq (tgt := 14) F d_Ne_weigh_2 (by decide) (fun c3 => ?_) (fun c3 => ?_)
  · exact absurd c3 (by omega)
  · refine lv_aload_n F.1 F.2.1 d_Ne_weigh_5 rfl (lv_at hl 0 rfl) ?_
    refine gf_Ne_16 F hW (by omega) ho d_Ne_weigh_6 ?_
    refine lv_iload_n F.1 F.2.1 d_Ne_weigh_9 rfl (lv_at hl 1 rfl) ?_
    refine q_aald F hW hT (by omega) a (by omega) (by omega) d_Ne_weigh_10 ?_
    refine lv_iload_n F.1 F.2.1 d_Ne_weigh_11 rfl (lv_at hl 2 rfl) ?_
    refine lv_iload_n F.1 F.2.1 d_Ne_weigh_12 rfl (lv_at hl 3 rfl) ?_
    refine q_iast F hW (hT.2 a (by omega)) (by omega) q (by omega) (by omega) d_Ne_weigh_13 (fun H2 locs2 w2 hW2 hI2 hfr2 => ?_)
    have ho := (hfr2 _ (by omega)).trans ho
    have hB := hB.keep (fun i hi => hfr2 _ (by omega))
    have hT := hT.put (i := a) (by omega) hI2 hfr2
    exact q_vret F hr hlk hW2 ⟨⟨⟨n32, ho, hn32⟩, hB, hT.up2⟩, fun r hr2 => hfr2 r (by omega)⟩ d_Ne_weigh_14
