theorem q_upO {G : Nat → Int} {O : Nat → Nat} {i x : Nat} {v : Int} (h : ∀ j, j < i → G j = (O j : Int)) (hv : v = (x : Int)) : ∀ j, j < i + 1 → q_up G i v j = (((fun k => if k = i then x else O k) j : Nat) : Int) := by
  intro j hj
  show (if j = i then v else G j) = (((if j = i then x else O j) : Nat) : Int)
  by_cases z : j = i
  · rw [if_pos z, if_pos z, hv]
  · rw [if_neg z, if_neg z]; exact h j (by omega)
theorem q_tbt {S j : Nat} (h : ¬ S / 2 ^ j % 2 = 0) : S.testBit j = true := by
  cases z : S.testBit j with
  | true => rfl
  | false => exact absurd (q_tb.mpr z) h
theorem q_tbf {S j : Nat} (h : S / 2 ^ j % 2 = 0) : ¬ S.testBit j = true := by rw [q_tb.mp h]; simp
set_option maxHeartbeats 4000000 in
set_option maxRecDepth 100000 in
/-- the nearest that is left -/
theorem k_Ne_nearestLeft (l : Launch) (D : va_G) (τ : Nat → ClassId) (A : Nat → Prop) (ad : Nat → Nat) (N : Nat) (w : Nat → va_E) (b : Nat) (hb : b + 83 ≤ N) (n : Int) (bh wt : Nat → Nat → Int) (hN : qNet τ ad w b n bh wt) (k : Nat) (hk : k < N) (F1 : Nat → Int) (hF : q_I τ w k 40 F1) (S : Nat) (hS : S < 2 ^ 40) (m : Nat) (hm : n = m) (hm40 : m ≤ 40) : Met l y_Ne_nearestLeft (qws y_Ne_nearestLeft c_Ne_nearestLeft 7 (some .int)) ({ frames := 0, cells := 0, slots := 0, locals := 0 }) (qPc D τ A ad N w [.ref (ad b), .ref (ad k), .long (lN S)]) (va_Qi (fun r w1 => w1 = w ∧ zkn F1 (fun u => S.testBit u = true) m r.toInt) (qB D τ A ad N) A) 0 0 A := by
  refine q_of (by decide) (Nat.le_of_ble_eq_true rfl) rfl ?_
  intro PP EE s MM below meth CC ls F hr hlk hnm hex hl hW
  have hl : lv_has ls 7 [(0, .ref (ad b)), (1, .ref (ad k)), (2, .long (lN S))] := hl
  obtain ⟨⟨n32, ho, hn32⟩, hB, hT⟩ := id hN
  refine q_iconst F d_Ne_nearestLeft_0 (by decide) (fun v1 hv1 => ?_)
  refine lv_istore (lv' := [(4, .int v1), (0, .ref (ad b)), (1, .ref (ad k)), (2, .long (lN S))]) F.1 F.2.1 d_Ne_nearestLeft_1 hl (by decide) rfl (fun ls2 hl2 => ?_)
  clear hl
  refine q_iconst F d_Ne_nearestLeft_3 (by decide) (fun v3 hv3 => ?_)
  refine lv_istore (lv' := [(5, .int v3), (4, .int v1), (0, .ref (ad b)), (1, .ref (ad k)), (2, .long (lN S))]) F.1 F.2.1 d_Ne_nearestLeft_4 hl2 (by decide) rfl (fun ls4 hl4 => ?_)
  clear hl2
  obtain ⟨i, hi0⟩ : ∃ i : Nat, i = 0 := ⟨_, rfl⟩
  have hiv : v3.toInt = (i : Int) := by omega
  have hib : i ≤ m := by omega
  have hbest : zkn F1 (fun u => S.testBit u = true) i v1.toInt := by rw [hv1, hi0]; exact zkn_0
  clear hi0 hv3 hv1
  obtain ⟨f, hf⟩ : ∃ f : Nat, m + 1 ≤ i + f := ⟨m + 1, by omega⟩
  induction f generalizing i v3 ls4 v1 with
  | zero => exact absurd hf (by omega)
  | succ f ihi =>
    refine lv_iload F.1 F.2.1 d_Ne_nearestLeft_6 (lv_at hl4 0 rfl) ?_
    refine lv_aload_n F.1 F.2.1 d_Ne_nearestLeft_8 rfl (lv_at hl4 2 rfl) ?_
    refine gf_Ne_23 F hW (by omega) ho d_Ne_nearestLeft_9 ?_
    refine q_icmp_ge (tgt := 73) F d_Ne_nearestLeft_12 (by decide) (fun c12 => ?_) (fun c12 => ?_)
    · refine lv_iload F.1 F.2.1 d_Ne_nearestLeft_73 (lv_at hl4 1 rfl) ?_
      exact q_iret F hr hlk hW ⟨rfl, (show i = m by omega) ▸ hbest⟩ d_Ne_nearestLeft_75
    · refine lv_aload_n F.1 F.2.1 d_Ne_nearestLeft_15 rfl (lv_at hl4 3 rfl) ?_
      refine lv_iload F.1 F.2.1 d_Ne_nearestLeft_16 (lv_at hl4 0 rfl) ?_
      refine q_iald F hW hF hk i (by omega) (by omega) d_Ne_nearestLeft_18 (fun v5 hv5 => ?_)
      refine q_iconst F d_Ne_nearestLeft_19 (by decide) (fun v6 hv6 => ?_)
      refine q_icmp_eq (tgt := 38) F d_Ne_nearestLeft_20 (by decide) (fun c20 => ?_) (fun c20 => ?_)
      · refine q_iconst F d_Ne_nearestLeft_38 (by decide) (fun v7 hv7 => ?_)
        refine lv_istore (lv' := [(6, .int v7), (5, .int v3), (4, .int v1), (0, .ref (ad b)), (1, .ref (ad k)), (2, .long (lN S))]) F.1 F.2.1 d_Ne_nearestLeft_39 hl4 (by decide) rfl (fun ls8 hl8 => ?_)
        clear hl4
        refine lv_iload F.1 F.2.1 d_Ne_nearestLeft_41 (lv_at hl8 0 rfl) ?_
        refine q_if_eq (tgt := 67) F d_Ne_nearestLeft_43 (by decide) (fun c9 => ?_) (fun c9 => ?_)
        · refine q_iinc (lv' := fun v10 => [(5, .int v10), (6, .int v7), (4, .int v1), (0, .ref (ad b)), (1, .ref (ad k)), (2, .long (lN S))]) F d_Ne_nearestLeft_67 hl8 (k := 1) rfl (by decide) (by omega) (by decide) (fun _ => rfl) (fun v10 lsv10 hv10 hlv10 => ?_)
          clear hl8
          refine lv_goto (tgt := 6) F.1 F.2.1 d_Ne_nearestLeft_70 (by decide) ?_
          exact ihi (i := i + 1) (v3 := v10) (ls4 := lsv10) (v1 := v1) (hiv := by omega) (hib := by omega) (hbest := zkn_skip hbest (Or.inl (by omega))) (hf := by omega) (hl4 := (lv_sub hlv10 [0, 2, 3, 4, 5] rfl))
        · omega
      · refine lv_lload_n F.1 F.2.1 d_Ne_nearestLeft_23 rfl (lv_at hl4 4 rfl) ?_
        refine lv_iload F.1 F.2.1 d_Ne_nearestLeft_24 (lv_at hl4 0 rfl) ?_
        refine q_lshr F i (by omega) (by omega) (by omega) d_Ne_nearestLeft_26 ?_
        refine lv_lconst (v := lN 1) F.1 F.2.1 d_Ne_nearestLeft_27 rfl ?_
        refine q_land1 F (Nat.lt_of_le_of_lt (Nat.div_le_self _ _) (by omega)) d_Ne_nearestLeft_28 ?_
        refine lv_lconst (v := lN 0) F.1 F.2.1 d_Ne_nearestLeft_29 rfl ?_
        refine q_lcmp0 F (by omega) d_Ne_nearestLeft_30 (fun v11 hv11 => ?_)
        refine q_if_ne (tgt := 38) F d_Ne_nearestLeft_31 (by decide) (fun c31 => ?_) (fun c31 => ?_)
        · refine q_iconst F d_Ne_nearestLeft_38 (by decide) (fun v12 hv12 => ?_)
          refine lv_istore (lv' := [(6, .int v12), (5, .int v3), (4, .int v1), (0, .ref (ad b)), (1, .ref (ad k)), (2, .long (lN S))]) F.1 F.2.1 d_Ne_nearestLeft_39 hl4 (by decide) rfl (fun ls13 hl13 => ?_)
          clear hl4
          refine lv_iload F.1 F.2.1 d_Ne_nearestLeft_41 (lv_at hl13 0 rfl) ?_
          refine q_if_eq (tgt := 67) F d_Ne_nearestLeft_43 (by decide) (fun c14 => ?_) (fun c14 => ?_)
          · refine q_iinc (lv' := fun v15 => [(5, .int v15), (6, .int v12), (4, .int v1), (0, .ref (ad b)), (1, .ref (ad k)), (2, .long (lN S))]) F d_Ne_nearestLeft_67 hl13 (k := 1) rfl (by decide) (by omega) (by decide) (fun _ => rfl) (fun v15 lsv15 hv15 hlv15 => ?_)
            clear hl13
            refine lv_goto (tgt := 6) F.1 F.2.1 d_Ne_nearestLeft_70 (by decide) ?_
            exact ihi (i := i + 1) (v3 := v15) (ls4 := lsv15) (v1 := v1) (hiv := by omega) (hib := by omega) (hbest := zkn_skip hbest (Or.inr (q_tbt (by omega)))) (hf := by omega) (hl4 := (lv_sub hlv15 [0, 2, 3, 4, 5] rfl))
          · omega
        · refine q_iconst F d_Ne_nearestLeft_34 (by decide) (fun v16 hv16 => ?_)
          refine lv_goto (tgt := 39) F.1 F.2.1 d_Ne_nearestLeft_35 (by decide) ?_
          refine lv_istore (lv' := [(6, .int v16), (5, .int v3), (4, .int v1), (0, .ref (ad b)), (1, .ref (ad k)), (2, .long (lN S))]) F.1 F.2.1 d_Ne_nearestLeft_39 hl4 (by decide) rfl (fun ls17 hl17 => ?_)
          clear hl4
          refine lv_iload F.1 F.2.1 d_Ne_nearestLeft_41 (lv_at hl17 0 rfl) ?_
          refine q_if_eq (tgt := 67) F d_Ne_nearestLeft_43 (by decide) (fun c43 => ?_) (fun c43 => ?_)
          · omega
          · refine lv_iload F.1 F.2.1 d_Ne_nearestLeft_46 (lv_at hl17 2 rfl) ?_
            refine q_iconst F d_Ne_nearestLeft_48 (by decide) (fun v18 hv18 => ?_)
            refine q_icmp_eq (tgt := 63) F d_Ne_nearestLeft_49 (by decide) (fun c49 => ?_) (fun c49 => ?_)
            · refine lv_iload F.1 F.2.1 d_Ne_nearestLeft_63 (lv_at hl17 1 rfl) ?_
              refine lv_istore (lv' := [(4, .int v3), (6, .int v16), (5, .int v3), (0, .ref (ad b)), (1, .ref (ad k)), (2, .long (lN S))]) F.1 F.2.1 d_Ne_nearestLeft_65 hl17 (by decide) rfl (fun ls19 hl19 => ?_)
              clear hl17
              refine q_iinc (lv' := fun v20 => [(5, .int v20), (4, .int v3), (6, .int v16), (0, .ref (ad b)), (1, .ref (ad k)), (2, .long (lN S))]) F d_Ne_nearestLeft_67 hl19 (k := 2) rfl (by decide) (by omega) (by decide) (fun _ => rfl) (fun v20 lsv20 hv20 hlv20 => ?_)
              clear hl19
              refine lv_goto (tgt := 6) F.1 F.2.1 d_Ne_nearestLeft_70 (by decide) ?_
              exact ihi (i := i + 1) (v3 := v20) (ls4 := lsv20) (v1 := v3) (hiv := by omega) (hib := by omega) (hbest := by rw [hiv]; exact zkn_take hbest (by omega) (q_tbf (by omega)) (Or.inl (by omega))) (hf := by omega) (hl4 := (lv_sub hlv20 [0, 1, 3, 4, 5] rfl))
            · have hz := zkn_rng hbest
              obtain ⟨q, hq⟩ : ∃ q : Nat, v1.toInt = (q : Int) := ⟨v1.toInt.toNat, by omega⟩
              refine lv_aload_n F.1 F.2.1 d_Ne_nearestLeft_52 rfl (lv_at hl17 4 rfl) ?_
              refine lv_iload F.1 F.2.1 d_Ne_nearestLeft_53 (lv_at hl17 1 rfl) ?_
              refine q_iald F hW hF hk i (by omega) (by omega) d_Ne_nearestLeft_55 (fun v21 hv21 => ?_)
              refine lv_aload_n F.1 F.2.1 d_Ne_nearestLeft_56 rfl (lv_at hl17 4 rfl) ?_
              refine lv_iload F.1 F.2.1 d_Ne_nearestLeft_57 (lv_at hl17 2 rfl) ?_
              refine q_iald F hW hF hk q (by omega) (by omega) d_Ne_nearestLeft_59 (fun v22 hv22 => ?_)
              refine q_icmp_ge (tgt := 67) F d_Ne_nearestLeft_60 (by decide) (fun c60 => ?_) (fun c60 => ?_)
              · refine q_iinc (lv' := fun v23 => [(5, .int v23), (6, .int v16), (4, .int v1), (0, .ref (ad b)), (1, .ref (ad k)), (2, .long (lN S))]) F d_Ne_nearestLeft_67 hl17 (k := 1) rfl (by decide) (by omega) (by decide) (fun _ => rfl) (fun v23 lsv23 hv23 hlv23 => ?_)
                clear hl17
                refine lv_goto (tgt := 6) F.1 F.2.1 d_Ne_nearestLeft_70 (by decide) ?_
                exact ihi (i := i + 1) (v3 := v23) (ls4 := lsv23) (v1 := v1) (hiv := by omega) (hib := by omega) (hbest := zkn_keep hbest (by omega) (by rw [hq]; simp only [Int.toNat_natCast]; omega)) (hf := by omega) (hl4 := (lv_sub hlv23 [0, 2, 3, 4, 5] rfl))
              · refine lv_iload F.1 F.2.1 d_Ne_nearestLeft_63 (lv_at hl17 1 rfl) ?_
                refine lv_istore (lv' := [(4, .int v3), (6, .int v16), (5, .int v3), (0, .ref (ad b)), (1, .ref (ad k)), (2, .long (lN S))]) F.1 F.2.1 d_Ne_nearestLeft_65 hl17 (by decide) rfl (fun ls24 hl24 => ?_)
                clear hl17
                refine q_iinc (lv' := fun v25 => [(5, .int v25), (4, .int v3), (6, .int v16), (0, .ref (ad b)), (1, .ref (ad k)), (2, .long (lN S))]) F d_Ne_nearestLeft_67 hl24 (k := 2) rfl (by decide) (by omega) (by decide) (fun _ => rfl) (fun v25 lsv25 hv25 hlv25 => ?_)
                clear hl24
                refine lv_goto (tgt := 6) F.1 F.2.1 d_Ne_nearestLeft_70 (by decide) ?_
                exact ihi (i := i + 1) (v3 := v25) (ls4 := lsv25) (v1 := v3) (hiv := by omega) (hib := by omega) (hbest := by rw [hiv]; exact zkn_take hbest (by omega) (q_tbf (by omega)) (Or.inr (by rw [hq]; simp only [Int.toNat_natCast]; omega))) (hf := by omega) (hl4 := (lv_sub hlv25 [0, 1, 3, 4, 5] rfl))
set_option maxHeartbeats 4000000 in
set_option maxRecDepth 100000 in
/-- what a node brings near -/
theorem k_Ne_reachFrom (l : Launch) (D : va_G) (τ : Nat → ClassId) (A : Nat → Prop) (ad : Nat → Nat) (N : Nat) (w : Nat → va_E) (b : Nat) (hb : b + 83 ≤ N) (n : Int) (bh wt : Nat → Nat → Int) (hN : qNet τ ad w b n bh wt) (k : Nat) (hk : k < N) (F1 : Nat → Int) (hF : q_I τ w k 40 F1) (hap : k < b ∨ b + 83 ≤ k) (m : Nat) (hm40 : m ≤ 40) (Wt : Nat → Nat → Int) (hZ : zn_ok m bh wt Wt) (x : Int32) (a : Nat) (hx : x.toInt = a) (ha : a < m) (h0 : 0 ≤ F1 a) (h1 : F1 a ≤ 1000000) : Met l y_Ne_reachFrom (qws y_Ne_reachFrom c_Ne_reachFrom 6 none) ({ frames := 0, cells := 0, slots := 0, locals := 0 }) (qPc D τ A ad N w [.ref (ad b), .int x, .ref (ad k)]) (va_Qv (fun w1 => (∃ F2, q_I τ w1 k 40 F2 ∧ zk_rel Wt a F1 F2 m) ∧ ∀ q, q ≠ k → w1 q = w q) (qB D τ A ad N) A) 0 0 A := by
  refine q_of (by decide) (Nat.le_of_ble_eq_true rfl) rfl ?_
  intro PP EE s MM below meth CC ls F hr hlk hnm hex hl hW
  have hl : lv_has ls 6 [(0, .ref (ad b)), (1, .int x), (2, .ref (ad k))] := hl
  obtain ⟨⟨n32, ho, hn32⟩, hB, hT⟩ := id hN
  refine q_iconst F d_Ne_reachFrom_0 (by decide) (fun v1 hv1 => ?_)
  refine lv_istore_n (lv' := [(3, .int v1), (0, .ref (ad b)), (1, .int x), (2, .ref (ad k))]) F.1 F.2.1 d_Ne_reachFrom_1 rfl hl (by decide) rfl (fun ls2 hl2 => ?_)
  clear hl
  obtain ⟨i, hi0⟩ : ∃ i : Nat, i = 0 := ⟨_, rfl⟩
  have hiv : v1.toInt = (i : Int) := by omega
  have hib : i ≤ 16 := by omega
  obtain ⟨wl, hwl⟩ : ∃ x : Nat → va_E, x = w := ⟨_, rfl⟩
  have hWl : qW D τ A s s.heap ([] : List Loc) ad N wl := by rw [hwl]; exact hW
  have ho : wl b = .inr (2, [.ref (ad (b + 1)), .ref (ad (b + 42)), .int n32]) := by rw [hwl]; exact ho
  have hB : q_G τ ad wl (b + 1) 40 16 bh := by rw [hwl]; exact hB
  have hT : q_G τ ad wl (b + 42) 40 16 wt := by rw [hwl]; exact hT
  have hR : ∃ F2, q_I τ wl k 40 F2 ∧ zrl bh wt a F1 F2 i := ⟨F1, by rw [hwl]; exact hF, by rw [hi0]; exact zrl_0⟩
  have hfl : ∀ q, q ≠ k → wl q = w q := fun q _ => by rw [hwl]
  clear hi0 hv1 hwl
  generalize s.heap = Hl at hWl ⊢
  generalize ([] : List Loc) = locsl at hWl ⊢
  obtain ⟨f, hf⟩ : ∃ f : Nat, 16 + 1 ≤ i + f := ⟨16 + 1, by omega⟩
  induction f generalizing i v1 ls2 wl Hl locsl with
  | zero => exact absurd hf (by omega)
  | succ f ihi =>
    obtain ⟨F2, hF2, hR2⟩ := hR
    refine lv_iload_n F.1 F.2.1 d_Ne_reachFrom_2 rfl (lv_at hl2 0 rfl) ?_
    refine q_bipush F d_Ne_reachFrom_3 (by decide) (fun v3 hv3 => ?_)
    refine q_icmp_ge (tgt := 67) F d_Ne_reachFrom_5 (by decide) (fun c5 => ?_) (fun c5 => ?_)
    · exact q_vret F hr hlk hWl ⟨⟨F2, hF2, zrl_end hZ hm40 ha ((show i = 16 by omega) ▸ hR2)⟩, hfl⟩ d_Ne_reachFrom_67
    · refine lv_aload_n F.1 F.2.1 d_Ne_reachFrom_8 rfl (lv_at hl2 1 rfl) ?_
      refine gf_Ne_11 F hWl (by omega) ho d_Ne_reachFrom_9 ?_
      refine lv_iload_n F.1 F.2.1 d_Ne_reachFrom_12 rfl (lv_at hl2 2 rfl) ?_
      refine q_aald F hWl hB (by omega) a (by omega) (by omega) d_Ne_reachFrom_13 ?_
      refine lv_iload_n F.1 F.2.1 d_Ne_reachFrom_14 rfl (lv_at hl2 0 rfl) ?_
      refine q_iald F hWl (hB.2 a (by omega)) (by omega) i (by omega) (by omega) d_Ne_reachFrom_15 (fun v4 hv4 => ?_)
      refine lv_istore (lv' := [(4, .int v4), (3, .int v1), (0, .ref (ad b)), (1, .int x), (2, .ref (ad k))]) F.1 F.2.1 d_Ne_reachFrom_16 hl2 (by decide) rfl (fun ls5 hl5 => ?_)
      clear hl2
      refine lv_iload F.1 F.2.1 d_Ne_reachFrom_18 (lv_at hl5 0 rfl) ?_
      refine q_iconst F d_Ne_reachFrom_20 (by decide) (fun v6 hv6 => ?_)
      refine q_icmp_eq (tgt := 61) F d_Ne_reachFrom_21 (by decide) (fun c21 => ?_) (fun c21 => ?_)
      · refine q_iinc (lv' := fun v7 => [(3, .int v7), (4, .int v4), (0, .ref (ad b)), (1, .int x), (2, .ref (ad k))]) F d_Ne_reachFrom_61 hl5 (k := 1) rfl (by decide) (by omega) (by decide) (fun _ => rfl) (fun v7 lsv7 hv7 hlv7 => ?_)
        clear hl5
        refine lv_goto (tgt := 2) F.1 F.2.1 d_Ne_reachFrom_64 (by decide) ?_
        exact ihi (i := i + 1) (v1 := v7) (ls2 := lsv7) (wl := wl) (Hl := Hl) (locsl := locsl) (hiv := by omega) (hib := by omega) (hWl := hWl) (ho := ho) (hB := hB) (hT := hT) (hR := ⟨F2, hF2, zrl_none hR2 (by omega)⟩) (hfl := hfl) (hf := by omega) (hl2 := (lv_sub hlv7 [0, 2, 3, 4] rfl))
      · have hz := hZ.2.1 a i ha (by omega)
        have hzw := hZ.2.2.1 a i ha (by omega) (by omega)
        obtain ⟨q, hq⟩ : ∃ q : Nat, bh a i = (q : Int) := ⟨(bh a i).toNat, by omega⟩
        have hself := zrl_self hZ ha hm40 (by omega) hR2
        have hold := zrl_old hZ ha (by omega) hR2 (show q < 40 by omega) hq
        refine lv_aload_n F.1 F.2.1 d_Ne_reachFrom_24 rfl (lv_at hl5 4 rfl) ?_
        refine lv_iload_n F.1 F.2.1 d_Ne_reachFrom_25 rfl (lv_at hl5 3 rfl) ?_
        refine q_iald F hWl hF2 hk a (by omega) (by omega) d_Ne_reachFrom_26 (fun v8 hv8 => ?_)
        refine lv_aload_n F.1 F.2.1 d_Ne_reachFrom_27 rfl (lv_at hl5 2 rfl) ?_
        refine gf_Ne_16 F hWl (by omega) ho d_Ne_reachFrom_28 ?_
        refine lv_iload_n F.1 F.2.1 d_Ne_reachFrom_31 rfl (lv_at hl5 3 rfl) ?_
        refine q_aald F hWl hT (by omega) a (by omega) (by omega) d_Ne_reachFrom_32 ?_
        refine lv_iload_n F.1 F.2.1 d_Ne_reachFrom_33 rfl (lv_at hl5 1 rfl) ?_
        refine q_iald F hWl (hT.2 a (by omega)) (by omega) i (by omega) (by omega) d_Ne_reachFrom_34 (fun v9 hv9 => ?_)
        refine q_iadd F d_Ne_reachFrom_35 (by omega) (fun v10 hv10 => ?_)
        refine lv_istore (lv' := [(5, .int v10), (4, .int v4), (3, .int v1), (0, .ref (ad b)), (1, .int x), (2, .ref (ad k))]) F.1 F.2.1 d_Ne_reachFrom_36 hl5 (by decide) rfl (fun ls11 hl11 => ?_)
        clear hl5
        refine lv_aload_n F.1 F.2.1 d_Ne_reachFrom_38 rfl (lv_at hl11 5 rfl) ?_
        refine lv_iload F.1 F.2.1 d_Ne_reachFrom_39 (lv_at hl11 1 rfl) ?_
        refine q_iald F hWl hF2 hk q (by omega) (by omega) d_Ne_reachFrom_41 (fun v12 hv12 => ?_)
        refine q_iconst F d_Ne_reachFrom_42 (by decide) (fun v13 hv13 => ?_)
        refine q_icmp_eq (tgt := 55) F d_Ne_reachFrom_43 (by decide) (fun c43 => ?_) (fun c43 => ?_)
        · refine lv_aload_n F.1 F.2.1 d_Ne_reachFrom_55 rfl (lv_at hl11 5 rfl) ?_
          refine lv_iload F.1 F.2.1 d_Ne_reachFrom_56 (lv_at hl11 1 rfl) ?_
          refine lv_iload F.1 F.2.1 d_Ne_reachFrom_58 (lv_at hl11 0 rfl) ?_
          refine q_iast F hWl hF2 hk q (by omega) (by omega) d_Ne_reachFrom_60 (fun H14 locs14 w14 hW14 hI14 hfr14 => ?_)
          replace ho := (hfr14 _ (by omega)).trans ho
          replace hB := hB.keep (fun i hi => hfr14 _ (by omega))
          replace hT := hT.keep (fun i hi => hfr14 _ (by omega))
          replace hF2 := hI14
          have e9 : v10.toInt = F1 a + wt a i := by omega
          refine q_iinc (lv' := fun v15 => [(3, .int v15), (5, .int v10), (4, .int v4), (0, .ref (ad b)), (1, .int x), (2, .ref (ad k))]) F d_Ne_reachFrom_61 hl11 (k := 2) rfl (by decide) (by omega) (by decide) (fun _ => rfl) (fun v15 lsv15 hv15 hlv15 => ?_)
          clear hl11
          refine lv_goto (tgt := 2) F.1 F.2.1 d_Ne_reachFrom_64 (by decide) ?_
          exact ihi (i := i + 1) (v1 := v15) (ls2 := lsv15) (wl := w14) (Hl := H14) (locsl := locs14) (hiv := by omega) (hib := by omega) (hWl := hW14) (ho := ho) (hB := hB) (hT := hT) (hR := ⟨_, hF2, by rw [e9]; exact zrl_put hZ ha (by omega) hR2 (by omega) hq (Or.inl (by omega))⟩) (hfl := fun q hq => by rw [hfr14 q hq]; exact hfl q hq) (hf := by omega) (hl2 := (lv_sub hlv15 [0, 3, 4, 5] rfl))
        · refine lv_iload F.1 F.2.1 d_Ne_reachFrom_46 (lv_at hl11 0 rfl) ?_
          refine lv_aload_n F.1 F.2.1 d_Ne_reachFrom_48 rfl (lv_at hl11 5 rfl) ?_
          refine lv_iload F.1 F.2.1 d_Ne_reachFrom_49 (lv_at hl11 1 rfl) ?_
          refine q_iald F hWl hF2 hk q (by omega) (by omega) d_Ne_reachFrom_51 (fun v16 hv16 => ?_)
          refine q_icmp_ge (tgt := 61) F d_Ne_reachFrom_52 (by decide) (fun c52 => ?_) (fun c52 => ?_)
          · refine q_iinc (lv' := fun v17 => [(3, .int v17), (5, .int v10), (4, .int v4), (0, .ref (ad b)), (1, .int x), (2, .ref (ad k))]) F d_Ne_reachFrom_61 hl11 (k := 2) rfl (by decide) (by omega) (by decide) (fun _ => rfl) (fun v17 lsv17 hv17 hlv17 => ?_)
            clear hl11
            refine lv_goto (tgt := 2) F.1 F.2.1 d_Ne_reachFrom_64 (by decide) ?_
            exact ihi (i := i + 1) (v1 := v17) (ls2 := lsv17) (wl := wl) (Hl := Hl) (locsl := locsl) (hiv := by omega) (hib := by omega) (hWl := hWl) (ho := ho) (hB := hB) (hT := hT) (hR := ⟨F2, hF2, zrl_leave hR2 hq (by omega)⟩) (hfl := hfl) (hf := by omega) (hl2 := (lv_sub hlv17 [0, 3, 4, 5] rfl))
          · refine lv_aload_n F.1 F.2.1 d_Ne_reachFrom_55 rfl (lv_at hl11 5 rfl) ?_
            refine lv_iload F.1 F.2.1 d_Ne_reachFrom_56 (lv_at hl11 1 rfl) ?_
            refine lv_iload F.1 F.2.1 d_Ne_reachFrom_58 (lv_at hl11 0 rfl) ?_
            refine q_iast F hWl hF2 hk q (by omega) (by omega) d_Ne_reachFrom_60 (fun H18 locs18 w18 hW18 hI18 hfr18 => ?_)
            replace ho := (hfr18 _ (by omega)).trans ho
            replace hB := hB.keep (fun i hi => hfr18 _ (by omega))
            replace hT := hT.keep (fun i hi => hfr18 _ (by omega))
            replace hF2 := hI18
            have e9 : v10.toInt = F1 a + wt a i := by omega
            refine q_iinc (lv' := fun v19 => [(3, .int v19), (5, .int v10), (4, .int v4), (0, .ref (ad b)), (1, .int x), (2, .ref (ad k))]) F d_Ne_reachFrom_61 hl11 (k := 2) rfl (by decide) (by omega) (by decide) (fun _ => rfl) (fun v19 lsv19 hv19 hlv19 => ?_)
            clear hl11
            refine lv_goto (tgt := 2) F.1 F.2.1 d_Ne_reachFrom_64 (by decide) ?_
            exact ihi (i := i + 1) (v1 := v19) (ls2 := lsv19) (wl := w18) (Hl := H18) (locsl := locs18) (hiv := by omega) (hib := by omega) (hWl := hW18) (ho := ho) (hB := hB) (hT := hT) (hR := ⟨_, hF2, by rw [e9]; exact zrl_put hZ ha (by omega) hR2 (by omega) hq (Or.inr (by omega))⟩) (hfl := fun q hq => by rw [hfr18 q hq]; exact hfl q hq) (hf := by omega) (hl2 := (lv_sub hlv19 [0, 3, 4, 5] rfl))
set_option maxHeartbeats 4000000 in
set_option maxRecDepth 100000 in
/-- how far each node is, and in which order they are taken -/
theorem k_Ne_spread (l : Launch) (D : va_G) (τ : Nat → ClassId) (A : Nat → Prop) (ad : Nat → Nat) (N : Nat) (w : Nat → va_E) (b : Nat) (hb : b + 83 ≤ N) (n : Int) (bh wt : Nat → Nat → Int) (hN : qNet τ ad w b n bh wt) (kf ko : Nat) (hkf : kf < N) (hko : ko < N) (hfo : kf ≠ ko) (hapf : kf < b ∨ b + 83 ≤ kf) (hapo : ko < b ∨ b + 83 ≤ ko) (F0 G0 : Nat → Int) (hF : q_I τ w kf 40 F0) (hG : q_I τ w ko 40 G0) (m : Nat) (hm : n = m) (hm40 : m ≤ 40) (Wt : Nat → Nat → Int) (hZ : zn_ok m bh wt Wt) (x : Int32) (a : Nat) (hx : x.toInt = a) (ha : a < m) : Met l y_Ne_spread (qws y_Ne_spread c_Ne_spread 8 (some .int)) ({ frames := 1, cells := 0, slots := 0, locals := 26 }) (qPc D τ A ad N w [.ref (ad b), .int x, .ref (ad kf), .ref (ad ko)]) (va_Qi (fun r w1 => (∃ (r1 : Nat) (F1 : Nat → Int) (O : Nat → Nat), r.toInt = r1 ∧ r1 ≤ m ∧ q_I τ w1 kf 40 F1 ∧ (∃ G1, q_I τ w1 ko 40 G1 ∧ ∀ j, j < r1 → G1 j = O j) ∧ zl_ok m Wt a F1 ∧ zo_ok m F1 r1 O ∧ (r1 = m ↔ ∀ c, c < m → F1 c ≠ -1)) ∧ ∀ q, q ≠ kf → q ≠ ko → w1 q = w q) (qB D τ A ad N) A) 0 0 A := by
  refine q_of (by decide) (Nat.le_of_ble_eq_true rfl) rfl ?_
  intro PP EE s MM below meth CC ls F hr hlk hnm hex hl hW
  have hl : lv_has ls 8 [(0, .ref (ad b)), (1, .int x), (2, .ref (ad kf)), (3, .ref (ad ko))] := hl
  obtain ⟨⟨n32, ho, hn32⟩, hB, hT⟩ := id hN
  refine lv_aload_n F.1 F.2.1 d_Ne_spread_0 rfl (lv_at hl 2 rfl) ?_
  refine q_iconst F d_Ne_spread_1 (by decide) (fun v1 hv1 => ?_)
  refine q_callv hW (q_cS (As := [.ref (ad kf), .int v1]) (rest := []) F hW cs_Ne_27 hs_Ar_fill (k_Ar_fill l D τ A ad N w kf 40 F0 hkf (by decide) hF v1) rfl rfl ⟨by decide, by decide⟩ rfl hl.1 rfl (Nat.le_of_ble_eq_true rfl) d_Ne_spread_2 ⟨Nat.le_refl _, Nat.le_refl _⟩) (fun w2 H2 locs2 hp2 hW2 => ?_)
  obtain ⟨hI2, hfr2⟩ := hp2
  replace ho := (hfr2 _ (by omega)).trans ho
  replace hB := hB.keep (fun i hi => hfr2 _ (by omega))
  replace hT := hT.keep (fun i hi => hfr2 _ (by omega))
  replace hF := hI2
  replace hG := hG.keep (hfr2 _ (by omega))
  refine lv_aload_n F.1 F.2.1 d_Ne_spread_5 rfl (lv_at hl 2 rfl) ?_
  refine lv_iload_n F.1 F.2.1 d_Ne_spread_6 rfl (lv_at hl 1 rfl) ?_
  refine q_iconst F d_Ne_spread_7 (by decide) (fun v3 hv3 => ?_)
  refine q_iast F hW2 hF hkf a (by omega) (by omega) d_Ne_spread_8 (fun H4 locs4 w4 hW4 hI4 hfr4 => ?_)
  replace ho := (hfr4 _ (by omega)).trans ho
  replace hB := hB.keep (fun i hi => hfr4 _ (by omega))
  replace hT := hT.keep (fun i hi => hfr4 _ (by omega))
  replace hF := hI4
  replace hG := hG.keep (hfr4 _ (by omega))
  replace hF : q_I τ w4 kf 40 (fun c => if c = a then 0 else -1) := hF.congr (fun c _ => by unfold q_up; simp only [hv3, hv1])
  have hfr0 : ∀ q, q ≠ kf → q ≠ ko → w4 q = w q := fun q h1 _ => by rw [hfr4 q h1, hfr2 q h1]
  refine lv_lconst (v := lN 0) F.1 F.2.1 d_Ne_spread_9 rfl ?_
  refine lv_lstore (lv' := [(4, .long (lN 0)), (0, .ref (ad b)), (1, .int x), (2, .ref (ad kf)), (3, .ref (ad ko))]) F.1 F.2.1 d_Ne_spread_10 hl (by decide) rfl (fun ls5 hl5 => ?_)
  clear hl
  refine q_iconst F d_Ne_spread_12 (by decide) (fun v6 hv6 => ?_)
  refine lv_istore (lv' := [(6, .int v6), (4, .long (lN 0)), (0, .ref (ad b)), (1, .int x), (2, .ref (ad kf)), (3, .ref (ad ko))]) F.1 F.2.1 d_Ne_spread_13 hl5 (by decide) rfl (fun ls7 hl7 => ?_)
  clear hl5
  obtain ⟨S, hS0⟩ : ∃ S : Nat, S = 0 := ⟨_, rfl⟩
  have hl8 : lv_has ls7 8 [(6, .int v6), (4, .long (lN S)), (0, .ref (ad b)), (1, .int x), (2, .ref (ad kf)), (3, .ref (ad ko))] := by rw [hS0]; exact hl7
  clear hl7
  obtain ⟨i, hi0⟩ : ∃ i : Nat, i = 0 := ⟨_, rfl⟩
  have hiv : v6.toInt = (i : Int) := by omega
  have hib : i ≤ m := by omega
  obtain ⟨wl, hwl⟩ : ∃ x : Nat → va_E, x = w4 := ⟨_, rfl⟩
  have hWl : qW D τ A s H4 locs4 ad N wl := by rw [hwl]; exact hW4
  have ho : wl b = .inr (2, [.ref (ad (b + 1)), .ref (ad (b + 42)), .int n32]) := by rw [hwl]; exact ho
  have hB : q_G τ ad wl (b + 1) 40 16 bh := by rw [hwl]; exact hB
  have hT : q_G τ ad wl (b + 42) 40 16 wt := by rw [hwl]; exact hT
  have hS : S < 2 ^ 40 := by rw [hS0]; decide
  have hR : ∃ (F1 : Nat → Int) (O : Nat → Nat), q_I τ wl kf 40 F1 ∧ (∃ G1, q_I τ wl ko 40 G1 ∧ ∀ j, j < i → G1 j = O j) ∧ zk_inv m Wt a F1 (fun u => S.testBit u = true) i O := ⟨_, fun _ => 0, by rw [hwl]; exact hF, ⟨G0, by rw [hwl]; exact hG, fun j hj => absurd hj (by omega)⟩, by rw [hi0, hS0]; exact zk_T (fun y => by simp) (zk_0 (by simp) (fun c _ hc => by simp [hc]))⟩
  have hfl : ∀ q, q ≠ kf → q ≠ ko → wl q = w q := by rw [hwl]; exact hfr0
  clear hi0 hv6 hwl hS0
  generalize H4 = Hl at hWl ⊢
  generalize locs4 = locsl at hWl ⊢
  obtain ⟨f, hf⟩ : ∃ f : Nat, m + 1 ≤ i + f := ⟨m + 1, by omega⟩
  induction f generalizing i v6 ls7 wl Hl locsl S with
  | zero => exact absurd hf (by omega)
  | succ f ihi =>
    obtain ⟨F1, O, hF1, ⟨G1, hG1, hGO⟩, hK⟩ := hR
    refine lv_iload F.1 F.2.1 d_Ne_spread_15 (lv_at hl8 0 rfl) ?_
    refine lv_aload_n F.1 F.2.1 d_Ne_spread_17 rfl (lv_at hl8 2 rfl) ?_
    refine gf_Ne_23 F hWl (by omega) ho d_Ne_spread_18 ?_
    refine q_icmp_ge (tgt := 70) F d_Ne_spread_21 (by decide) (fun c21 => ?_) (fun c21 => ?_)
    · refine lv_aload_n F.1 F.2.1 d_Ne_spread_70 rfl (lv_at hl8 2 rfl) ?_
      refine gf_Ne_23 F hWl (by omega) ho d_Ne_spread_71 ?_
      exact q_iret F hr hlk hWl ⟨⟨i, F1, O, by omega, hib, hF1, ⟨G1, hG1, hGO⟩, zk_end hm40 hK hib (Or.inl (by omega))⟩, hfl⟩ d_Ne_spread_74
    · refine lv_aload_n F.1 F.2.1 d_Ne_spread_24 rfl (lv_at hl8 2 rfl) ?_
      refine lv_aload_n F.1 F.2.1 d_Ne_spread_25 rfl (lv_at hl8 4 rfl) ?_
      refine lv_lload F.1 F.2.1 d_Ne_spread_26 (lv_at hl8 1 rfl) ?_
      have hNl : qNet τ ad wl b n bh wt := ⟨⟨n32, ho, hn32⟩, hB, hT⟩
      refine q_calli hWl (q_cV (As := [.ref (ad kf), .long (lN S)]) (rest := []) F hWl cs_Ne_54 hd_Ne_nearestLeft rfl (by omega) ho (k_Ne_nearestLeft l D τ A ad N wl b hb n bh wt hNl kf hkf F1 hF1 S hS m hm hm40) rfl rfl ⟨by decide, by decide⟩ rfl hl8.1 rfl (Nat.le_of_ble_eq_true rfl) d_Ne_spread_28 ⟨Nat.le_refl _, Nat.le_refl _⟩) (fun v9 w9 H9 locs9 hp9 hW9 => ?_)
      obtain ⟨hq9, hp9⟩ := hp9
      replace hq9 := hq9.symm
      subst hq9
      refine lv_istore (lv' := [(7, .int v9), (6, .int v6), (4, .long (lN S)), (0, .ref (ad b)), (1, .int x), (2, .ref (ad kf)), (3, .ref (ad ko))]) F.1 F.2.1 d_Ne_spread_31 hl8 (by decide) rfl (fun ls10 hl10 => ?_)
      clear hl8
      refine lv_iload F.1 F.2.1 d_Ne_spread_33 (lv_at hl10 0 rfl) ?_
      refine q_iconst F d_Ne_spread_35 (by decide) (fun v11 hv11 => ?_)
      refine q_icmp_ne (tgt := 42) F d_Ne_spread_36 (by decide) (fun c36 => ?_) (fun c36 => ?_)
      · obtain ⟨x1, hx1, hnx⟩ := zkn_near hp9 (by omega)
        have hx1m := hnx.1
        refine lv_aload_n F.1 F.2.1 d_Ne_spread_42 rfl (lv_at hl10 6 rfl) ?_
        refine lv_iload F.1 F.2.1 d_Ne_spread_43 (lv_at hl10 1 rfl) ?_
        refine lv_iload F.1 F.2.1 d_Ne_spread_45 (lv_at hl10 0 rfl) ?_
        refine q_iast F hW9 hG1 hko i (by omega) (by omega) d_Ne_spread_47 (fun H12 locs12 w12 hW12 hI12 hfr12 => ?_)
        replace ho := (hfr12 _ (by omega)).trans ho
        replace hB := hB.keep (fun i hi => hfr12 _ (by omega))
        replace hT := hT.keep (fun i hi => hfr12 _ (by omega))
        replace hF1 := hF1.keep (hfr12 _ (by omega))
        replace hG1 := hI12
        refine lv_lload F.1 F.2.1 d_Ne_spread_48 (lv_at hl10 2 rfl) ?_
        refine lv_lconst (v := lN 1) F.1 F.2.1 d_Ne_spread_50 rfl ?_
        refine lv_iload F.1 F.2.1 d_Ne_spread_51 (lv_at hl10 0 rfl) ?_
        refine q_lshl1 F x1 (by omega) (by omega) d_Ne_spread_53 ?_
        refine q_lor F (by omega) (Nat.pow_lt_pow_right (by decide) (by omega)) d_Ne_spread_54 ?_
        refine lv_lstore (lv' := [(4, .long (lN (S ||| (2 ^ x1)))), (7, .int v9), (6, .int v6), (0, .ref (ad b)), (1, .int x), (2, .ref (ad kf)), (3, .ref (ad ko))]) F.1 F.2.1 d_Ne_spread_55 hl10 (by decide) rfl (fun ls13 hl13 => ?_)
        clear hl10
        refine lv_aload_n F.1 F.2.1 d_Ne_spread_57 rfl (lv_at hl13 3 rfl) ?_
        refine lv_iload F.1 F.2.1 d_Ne_spread_58 (lv_at hl13 1 rfl) ?_
        refine lv_aload_n F.1 F.2.1 d_Ne_spread_60 rfl (lv_at hl13 5 rfl) ?_
        have hbd := hK.2.1 x1 hx1m
        have hne := hnx.2.2.1
        have hNm : qNet τ ad w12 b n bh wt := ⟨⟨n32, ho, hn32⟩, hB, hT⟩
        refine q_callv hW12 (q_cV (As := [.int v9, .ref (ad kf)]) (rest := []) F hW12 cs_Ne_58 hd_Ne_reachFrom rfl (by omega) ho (k_Ne_reachFrom l D τ A ad N w12 b hb n bh wt hNm kf hkf F1 hF1 (by omega) m hm40 Wt hZ v9 x1 (by omega) hx1m (by omega) (by omega)) rfl rfl ⟨by decide, by decide⟩ rfl hl13.1 rfl (Nat.le_of_ble_eq_true rfl) d_Ne_spread_61 ⟨Nat.le_refl _, Nat.le_refl _⟩) (fun w14 H14 locs14 hp14 hW14 => ?_)
        obtain ⟨⟨F2, hF2, hrel⟩, hfr14⟩ := hp14
        replace ho := (hfr14 _ (by omega)).trans ho
        replace hB := hB.keep (fun i hi => hfr14 _ (by omega))
        replace hT := hT.keep (fun i hi => hfr14 _ (by omega))
        replace hG1 := hG1.keep (hfr14 _ (by omega))
        refine q_iinc (lv' := fun v15 => [(6, .int v15), (4, .long (lN (S ||| (2 ^ x1)))), (7, .int v9), (0, .ref (ad b)), (1, .int x), (2, .ref (ad kf)), (3, .ref (ad ko))]) F d_Ne_spread_64 hl13 (k := 2) rfl (by decide) (by omega) (by decide) (fun _ => rfl) (fun v15 lsv15 hv15 hlv15 => ?_)
        clear hl13
        refine lv_goto (tgt := 15) F.1 F.2.1 d_Ne_spread_67 (by decide) ?_
        exact ihi (i := i + 1) (v6 := v15) (ls7 := lsv15) (wl := w14) (Hl := H14) (locsl := locs14) (S := S ||| 2 ^ x1) (hiv := by omega) (hib := by omega) (hWl := hW14) (ho := ho) (hB := hB) (hT := hT) (hS := q_or_lt hS (by omega)) (hR := ⟨F2, _, hF2, ⟨_, hG1, fun j hj => q_upO hGO hx1 j hj⟩, zk_T (fun y => q_or_tb.symm) (zk_step hZ.1 ha hK hnx hrel)⟩) (hfl := fun q h1 h2 => by rw [hfr14 q h1, hfr12 q h2]; exact hfl q h1 h2) (hf := by omega) (hl8 := (lv_sub hlv15 [0, 1, 3, 4, 5, 6] rfl))
      · refine lv_iload F.1 F.2.1 d_Ne_spread_39 (lv_at hl10 1 rfl) ?_
        exact q_iret F hr hlk hW9 ⟨⟨i, F1, O, by omega, hib, hF1, ⟨G1, hG1, hGO⟩, zk_end hm40 hK hib (Or.inr (zkn_none hp9 (by omega)))⟩, hfl⟩ d_Ne_spread_41
