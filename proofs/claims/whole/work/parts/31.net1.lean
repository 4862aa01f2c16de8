/-- a Network: its object is the cell b, what is behind the ports b + 1 and on, the weights b + 42 and on -/
def qNet (τ : Nat → ClassId) (ad : Nat → Nat) (w : Nat → va_E) (b : Nat) (n : Int) (bh wt : Nat → Nat → Int) : Prop := (∃ v : Int32, w b = .inr (2, [.ref (ad (b + 1)), .ref (ad (b + 42)), .int v]) ∧ v.toInt = n) ∧ q_G τ ad w (b + 1) 40 16 bh ∧ q_G τ ad w (b + 42) 40 16 wt
theorem qNet.keep {τ : Nat → ClassId} {ad : Nat → Nat} {w w' : Nat → va_E} {b : Nat} {n : Int} {bh wt : Nat → Nat → Int} (h : qNet τ ad w b n bh wt) (e : ∀ q, b ≤ q → q < b + 83 → w' q = w q) : qNet τ ad w' b n bh wt := by
  obtain ⟨⟨v, h1, h2⟩, h3, h4⟩ := h
  exact ⟨⟨v, by rw [e b (by omega) (by omega)]; exact h1, h2⟩, h3.keep (fun i hi => e _ (by omega) (by omega)), h4.keep (fun i hi => e _ (by omega) (by omega))⟩
set_option maxHeartbeats 4000000 in
set_option maxRecDepth 100000 in
/-- how many nodes -/
theorem k_Ne_size (l : Launch) (D : va_G) (τ : Nat → ClassId) (A : Nat → Prop) (ad : Nat → Nat) (N : Nat) (w : Nat → va_E) (b : Nat) (hb : b + 83 ≤ N) (n : Int) (bh wt : Nat → Nat → Int) (hN : qNet τ ad w b n bh wt) : Met l y_Ne_size (qws y_Ne_size c_Ne_size 1 (some .int)) ({ frames := 0, cells := 0, slots := 0, locals := 0 }) (qPc D τ A ad N w [.ref (ad b)]) (va_Qi (fun r w1 => w1 = w ∧ r.toInt = n) (qB D τ A ad N) A) 0 0 A := by
  refine q_of (by decide) (Nat.le_of_ble_eq_true rfl) rfl ?_
  intro PP EE s MM below meth CC ls F hr hlk hnm hex hl hW
  have hl : lv_has ls 1 [(0, .ref (ad b))] := hl
  obtain ⟨⟨n32, ho, hn32⟩, hB, hT⟩ := id hN
  refine lv_aload_n F.1 F.2.1 d_Ne_size_0 rfl (lv_at hl 0 rfl) ?_
  refine gf_Ne_23 F hW (by omega) ho d_Ne_size_1 ?_
  exact q_iret F hr hlk hW ⟨rfl, hn32⟩ d_Ne_size_4
set_option maxHeartbeats 4000000 in
set_option maxRecDepth 100000 in
/-- a port -/
theorem k_Ne_behindPort (l : Launch) (D : va_G) (τ : Nat → ClassId) (A : Nat → Prop) (ad : Nat → Nat) (N : Nat) (w : Nat → va_E) (b : Nat) (hb : b + 83 ≤ N) (n : Int) (bh wt : Nat → Nat → Int) (hN : qNet τ ad w b n bh wt) (x y : Int32) (a p : Nat) (hx : x.toInt = a) (hy : y.toInt = p) (ha : a < 40) (hp : p < 16) : Met l y_Ne_behindPort (qws y_Ne_behindPort c_Ne_behindPort 3 (some .int)) ({ frames := 0, cells := 0, slots := 0, locals := 0 }) (qPc D τ A ad N w [.ref (ad b), .int x, .int y]) (va_Qi (fun r w1 => w1 = w ∧ r.toInt = bh a p) (qB D τ A ad N) A) 0 0 A := by
  refine q_of (by decide) (Nat.le_of_ble_eq_true rfl) rfl ?_
  intro PP EE s MM below meth CC ls F hr hlk hnm hex hl hW
  have hl : lv_has ls 3 [(0, .ref (ad b)), (1, .int x), (2, .int y)] := hl
  obtain ⟨⟨n32, ho, hn32⟩, hB, hT⟩ := id hN
  refine lv_aload_n F.1 F.2.1 d_Ne_behindPort_0 rfl (lv_at hl 0 rfl) ?_
  refine gf_Ne_11 F hW (by omega) ho d_Ne_behindPort_1 ?_
  refine lv_iload_n F.1 F.2.1 d_Ne_behindPort_4 rfl (lv_at hl 1 rfl) ?_
  refine q_aald F hW hB (by omega) a (by omega) (by omega) d_Ne_behindPort_5 ?_
  refine lv_iload_n F.1 F.2.1 d_Ne_behindPort_6 rfl (lv_at hl 2 rfl) ?_
  refine q_iald F hW (hB.2 a (by omega)) (by omega) p (by omega) (by omega) d_Ne_behindPort_7 (fun v1 hv1 => ?_)
  exact q_iret F hr hlk hW ⟨rfl, hv1⟩ d_Ne_behindPort_8
set_option maxHeartbeats 4000000 in
set_option maxRecDepth 100000 in
/-- a port -/
theorem k_Ne_portWeight (l : Launch) (D : va_G) (τ : Nat → ClassId) (A : Nat → Prop) (ad : Nat → Nat) (N : Nat) (w : Nat → va_E) (b : Nat) (hb : b + 83 ≤ N) (n : Int) (bh wt : Nat → Nat → Int) (hN : qNet τ ad w b n bh wt) (x y : Int32) (a p : Nat) (hx : x.toInt = a) (hy : y.toInt = p) (ha : a < 40) (hp : p < 16) : Met l y_Ne_portWeight (qws y_Ne_portWeight c_Ne_portWeight 3 (some .int)) ({ frames := 0, cells := 0, slots := 0, locals := 0 }) (qPc D τ A ad N w [.ref (ad b), .int x, .int y]) (va_Qi (fun r w1 => w1 = w ∧ r.toInt = wt a p) (qB D τ A ad N) A) 0 0 A := by
  refine q_of (by decide) (Nat.le_of_ble_eq_true rfl) rfl ?_
  intro PP EE s MM below meth CC ls F hr hlk hnm hex hl hW
  have hl : lv_has ls 3 [(0, .ref (ad b)), (1, .int x), (2, .int y)] := hl
  obtain ⟨⟨n32, ho, hn32⟩, hB, hT⟩ := id hN
  refine lv_aload_n F.1 F.2.1 d_Ne_portWeight_0 rfl (lv_at hl 0 rfl) ?_
  refine gf_Ne_16 F hW (by omega) ho d_Ne_portWeight_1 ?_
  refine lv_iload_n F.1 F.2.1 d_Ne_portWeight_4 rfl (lv_at hl 1 rfl) ?_
  refine q_aald F hW hT (by omega) a (by omega) (by omega) d_Ne_portWeight_5 ?_
  refine lv_iload_n F.1 F.2.1 d_Ne_portWeight_6 rfl (lv_at hl 2 rfl) ?_
  refine q_iald F hW (hT.2 a (by omega)) (by omega) p (by omega) (by omega) d_Ne_portWeight_7 (fun v1 hv1 => ?_)
  exact q_iret F hr hlk hW ⟨rfl, hv1⟩ d_Ne_portWeight_8
set_option maxHeartbeats 4000000 in
set_option maxRecDepth 100000 in
/-- the first port behind which there is y -/
theorem k_Ne_portTo (l : Launch) (D : va_G) (τ : Nat → ClassId) (A : Nat → Prop) (ad : Nat → Nat) (N : Nat) (w : Nat → va_E) (b : Nat) (hb : b + 83 ≤ N) (n : Int) (bh wt : Nat → Nat → Int) (hN : qNet τ ad w b n bh wt) (x y : Int32) (a : Nat) (hx : x.toInt = a) (ha : a < 40) : Met l y_Ne_portTo (qws y_Ne_portTo c_Ne_portTo 4 (some .int)) ({ frames := 0, cells := 0, slots := 0, locals := 0 }) (qPc D τ A ad N w [.ref (ad b), .int x, .int y]) (va_Qi (fun r w1 => w1 = w ∧ r.toInt = zp bh a y.toInt) (qB D τ A ad N) A) 0 0 A := by
  refine q_of (by decide) (Nat.le_of_ble_eq_true rfl) rfl ?_
  intro PP EE s MM below meth CC ls F hr hlk hnm hex hl hW
  have hl : lv_has ls 4 [(0, .ref (ad b)), (1, .int x), (2, .int y)] := hl
  obtain ⟨⟨n32, ho, hn32⟩, hB, hT⟩ := id hN
  refine q_iconst F d_Ne_portTo_0 (by decide) (fun v1 hv1 => ?_)
  refine lv_istore_n (lv' := [(3, .int v1), (0, .ref (ad b)), (1, .int x), (2, .int y)]) F.1 F.2.1 d_Ne_portTo_1 rfl hl (by decide) rfl (fun ls2 hl2 => ?_)
  clear hl
  obtain ⟨i, hi0⟩ : ∃ i : Nat, i = 0 := ⟨_, rfl⟩
  have hiv : v1.toInt = (i : Int) := by omega
  have hib : i ≤ 16 := by omega
  have hi : ∀ j : Nat, j < i → bh a j ≠ y.toInt := fun j h => absurd h (by omega)
  clear hi0 hv1
  obtain ⟨f, hf⟩ : ∃ f : Nat, 16 + 1 ≤ i + f := ⟨16 + 1, by omega⟩
  induction f generalizing i v1 ls2 with
  | zero => exact absurd hf (by omega)
  | succ f ihi =>
    refine lv_iload_n F.1 F.2.1 d_Ne_portTo_2 rfl (lv_at hl2 0 rfl) ?_
    refine q_bipush F d_Ne_portTo_3 (by decide) (fun v3 hv3 => ?_)
    refine q_icmp_ge (tgt := 28) F d_Ne_portTo_5 (by decide) (fun c5 => ?_) (fun c5 => ?_)
    · refine q_iconst F d_Ne_portTo_28 (by decide) (fun v4 hv4 => ?_)
      exact q_iret F hr hlk hW ⟨rfl, by rw [hv4]; exact zf_eq (Or.inr ⟨rfl, fun j hj => hi j (by omega)⟩)⟩ d_Ne_portTo_29
    · refine lv_aload_n F.1 F.2.1 d_Ne_portTo_8 rfl (lv_at hl2 1 rfl) ?_
      refine gf_Ne_11 F hW (by omega) ho d_Ne_portTo_9 ?_
      refine lv_iload_n F.1 F.2.1 d_Ne_portTo_12 rfl (lv_at hl2 2 rfl) ?_
      refine q_aald F hW hB (by omega) a (by omega) (by omega) d_Ne_portTo_13 ?_
      refine lv_iload_n F.1 F.2.1 d_Ne_portTo_14 rfl (lv_at hl2 0 rfl) ?_
      refine q_iald F hW (hB.2 a (by omega)) (by omega) i (by omega) (by omega) d_Ne_portTo_15 (fun v5 hv5 => ?_)
      refine lv_iload_n F.1 F.2.1 d_Ne_portTo_16 rfl (lv_at hl2 3 rfl) ?_
      refine q_icmp_ne (tgt := 22) F d_Ne_portTo_17 (by decide) (fun c6 => ?_) (fun c6 => ?_)
      · refine q_iinc (lv' := fun v6 => [(3, .int v6), (0, .ref (ad b)), (1, .int x), (2, .int y)]) F d_Ne_portTo_22 hl2 (k := 0) rfl (by decide) (by omega) (by decide) (fun _ => rfl) (fun v6 lsv6 hv6 hlv6 => ?_)
        clear hl2
        refine lv_goto (tgt := 2) F.1 F.2.1 d_Ne_portTo_25 (by decide) ?_
        exact ihi (i := i + 1) (v1 := v6) (ls2 := lsv6) (hiv := by omega) (hib := by omega) (hi := lt_s hi (by omega)) (hf := by omega) (hl2 := (lv_sub hlv6 [0, 1, 2, 3] rfl))
      · refine lv_iload_n F.1 F.2.1 d_Ne_portTo_20 rfl (lv_at hl2 0 rfl) ?_
        exact q_iret F hr hlk hW ⟨rfl, by rw [hiv]; exact zf_eq (Or.inl ⟨i, by omega, rfl, by show bh a i = y.toInt; omega, hi⟩)⟩ d_Ne_portTo_21
set_option maxHeartbeats 4000000 in
set_option maxRecDepth 100000 in
/-- the first free port -/
theorem k_Ne_freePort (l : Launch) (D : va_G) (τ : Nat → ClassId) (A : Nat → Prop) (ad : Nat → Nat) (N : Nat) (w : Nat → va_E) (b : Nat) (hb : b + 83 ≤ N) (n : Int) (bh wt : Nat → Nat → Int) (hN : qNet τ ad w b n bh wt) (x : Int32) (a : Nat) (hx : x.toInt = a) (ha : a < 40) : Met l y_Ne_freePort (qws y_Ne_freePort c_Ne_freePort 2 (some .int)) ({ frames := 1, cells := 0, slots := 0, locals := 23 }) (qPc D τ A ad N w [.ref (ad b), .int x]) (va_Qi (fun r w1 => w1 = w ∧ r.toInt = zp bh a (-1)) (qB D τ A ad N) A) 0 0 A := by
  refine q_of (by decide) (Nat.le_of_ble_eq_true rfl) rfl ?_
  intro PP EE s MM below meth CC ls F hr hlk hnm hex hl hW
  have hl : lv_has ls 2 [(0, .ref (ad b)), (1, .int x)] := hl
  obtain ⟨⟨n32, ho, hn32⟩, hB, hT⟩ := id hN
  refine lv_aload_n F.1 F.2.1 d_Ne_freePort_0 rfl (lv_at hl 0 rfl) ?_
  refine lv_iload_n F.1 F.2.1 d_Ne_freePort_1 rfl (lv_at hl 1 rfl) ?_
  refine q_iconst F d_Ne_freePort_2 (by decide) (fun v1 hv1 => ?_)
  refine q_calli hW (q_cV (As := [.int x, .int v1]) (rest := []) F hW cs_Ne_39 hd_Ne_portTo rfl (by omega) ho (k_Ne_portTo l D τ A ad N w b hb n bh wt hN x v1 a hx ha) rfl rfl ⟨by decide, by decide⟩ rfl hl.1 rfl (Nat.le_of_ble_eq_true rfl) d_Ne_freePort_3 ⟨Nat.le_refl _, Nat.le_refl _⟩) (fun v2 w2 H2 locs2 hp2 hW2 => ?_)
  obtain ⟨hq2, hp2⟩ := hp2
  replace hq2 := hq2.symm
  subst hq2
  exact q_iret F hr hlk hW2 ⟨rfl, by rw [hp2, hv1]⟩ d_Ne_freePort_6
set_option maxHeartbeats 4000000 in
set_option maxRecDepth 100000 in
/-- the weight behind the port to y -/
theorem k_Ne_weightTo (l : Launch) (D : va_G) (τ : Nat → ClassId) (A : Nat → Prop) (ad : Nat → Nat) (N : Nat) (w : Nat → va_E) (b : Nat) (hb : b + 83 ≤ N) (n : Int) (bh wt : Nat → Nat → Int) (hN : qNet τ ad w b n bh wt) (x y : Int32) (a : Nat) (hx : x.toInt = a) (ha : a < 40) : Met l y_Ne_weightTo (qws y_Ne_weightTo c_Ne_weightTo 4 (some .int)) ({ frames := 1, cells := 0, slots := 0, locals := 23 }) (qPc D τ A ad N w [.ref (ad b), .int x, .int y]) (va_Qi (fun r w1 => w1 = w ∧ ((zp bh a y.toInt = -1 ∧ r.toInt = 0) ∨ (zp bh a y.toInt ≠ -1 ∧ r.toInt = wt a (zp bh a y.toInt).toNat))) (qB D τ A ad N) A) 0 0 A := by
  refine q_of (by decide) (Nat.le_of_ble_eq_true rfl) rfl ?_
  intro PP EE s MM below meth CC ls F hr hlk hnm hex hl hW
  have hl : lv_has ls 4 [(0, .ref (ad b)), (1, .int x), (2, .int y)] := hl
  obtain ⟨⟨n32, ho, hn32⟩, hB, hT⟩ := id hN
  refine lv_aload_n F.1 F.2.1 d_Ne_weightTo_0 rfl (lv_at hl 0 rfl) ?_
  refine lv_iload_n F.1 F.2.1 d_Ne_weightTo_1 rfl (lv_at hl 1 rfl) ?_
  refine lv_iload_n F.1 F.2.1 d_Ne_weightTo_2 rfl (lv_at hl 2 rfl) ?_
  refine q_calli hW (q_cV (As := [.int x, .int y]) (rest := []) F hW cs_Ne_39 hd_Ne_portTo rfl (by omega) ho (k_Ne_portTo l D τ A ad N w b hb n bh wt hN x y a hx ha) rfl rfl ⟨by decide, by decide⟩ rfl hl.1 rfl (Nat.le_of_ble_eq_true rfl) d_Ne_weightTo_3 ⟨Nat.le_refl _, Nat.le_refl _⟩) (fun v1 w1 H1 locs1 hp1 hW1 => ?_)
  obtain ⟨hq1, hp1⟩ := hp1
  replace hq1 := hq1.symm
  subst hq1
  refine lv_istore_n (lv' := [(3, .int v1), (0, .ref (ad b)), (1, .int x), (2, .int y)]) F.1 F.2.1 d_Ne_weightTo_6 rfl hl (by decide) rfl (fun ls2 hl2 => ?_)
  clear hl
  refine lv_iload_n F.1 F.2.1 d_Ne_weightTo_7 rfl (lv_at hl2 0 rfl) ?_
  refine q_iconst F d_Ne_weightTo_8 (by decide) (fun v3 hv3 => ?_)
  refine q_icmp_ne (tgt := 16) F d_Ne_weightTo_9 (by decide) (fun c9 => ?_) (fun c9 => ?_)
  · have hz := zp_range bh a y.toInt
    obtain ⟨q, hq⟩ : ∃ q : Nat, v1.toInt = (q : Int) := ⟨v1.toInt.toNat, by omega⟩
    refine lv_aload_n F.1 F.2.1 d_Ne_weightTo_16 rfl (lv_at hl2 1 rfl) ?_
    refine gf_Ne_16 F hW1 (by omega) ho d_Ne_weightTo_17 ?_
    refine lv_iload_n F.1 F.2.1 d_Ne_weightTo_20 rfl (lv_at hl2 2 rfl) ?_
    refine q_aald F hW1 hT (by omega) a (by omega) (by omega) d_Ne_weightTo_21 ?_
    refine lv_iload_n F.1 F.2.1 d_Ne_weightTo_22 rfl (lv_at hl2 0 rfl) ?_
    refine q_iald F hW1 (hT.2 a (by omega)) (by omega) q (by omega) (by omega) d_Ne_weightTo_23 (fun v4 hv4 => ?_)
    exact q_iret F hr hlk hW1 ⟨rfl, Or.inr ⟨by omega, by rw [hv4, ← hp1, hq]; rfl⟩⟩ d_Ne_weightTo_24
  · refine q_iconst F d_Ne_weightTo_12 (by decide) (fun v5 hv5 => ?_)
    refine lv_goto (tgt := 24) F.1 F.2.1 d_Ne_weightTo_13 (by decide) ?_
    exact q_iret F hr hlk hW1 ⟨rfl, Or.inl ⟨by omega, hv5⟩⟩ d_Ne_weightTo_24
