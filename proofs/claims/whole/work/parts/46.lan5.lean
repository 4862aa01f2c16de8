set_option maxHeartbeats 4000000 in
set_option maxRecDepth 100000 in
/-- more landmarks -/
theorem k_La_chooseMore (l : Launch) (D : va_G) (τ : Nat → ClassId) (A : Nat → Prop) (ad : Nat → Nat) (N : Nat) (w : Nat → va_E) (hb : 469 ≤ N) (S : Nat) (Bl Cl : Nat → Nat) (Ow IB : Nat → Int) (hL : qLan τ ad w S Bl Cl Ow IB) (m : Nat) (hm40 : m ≤ 40) (n : Int) (bh wt : Nat → Nat → Int) (hN : qNet τ ad w 85 n bh wt) (hn : n = m) (hm1 : 1 ≤ m) (Wt : Nat → Nat → Int) (od : Nat → Nat → Nat) (hY : qWay τ ad w m Wt od) (hZ : zn_ok m bh wt Wt) (hS : S < 2 ^ 40) (M0 : Nat → Prop) (hM0 : ∀ v, (S.testBit v = true ↔ M0 v)) (hM0m : ∀ v, M0 v → v < m) (hne0 : ∃ v, v < m ∧ M0 v) : Met l y_La_chooseMore (qws y_La_chooseMore c_La_chooseMore 5 none) ({ frames := 3, cells := 0, slots := 0, locals := 67 }) (qPc D τ A ad N w [.ref (ad 251)]) (va_Qv (fun w1 => (∃ S1 Cl1 Ow1 IB1, qLan τ ad w1 S1 Bl Cl1 Ow1 IB1 ∧ S1 < 2 ^ 40 ∧ (∀ v, (S1.testBit v = true ↔ zN m (zd m Wt) (zmo m M0) M0 m v)) ∧ (∀ a, a < m → Ow1 a = zow m (zd m Wt) (zN m (zd m Wt) (zmo m M0) M0 m) a) ∧ ∀ a, a < m → Cl1 a < 2 ^ 40 ∧ ∀ v, ((Cl1 a).testBit v = true ↔ v < m ∧ znr m (zd m Wt) (zN m (zd m Wt) (zmo m M0) M0 m) a v)) ∧ (∀ q, (q < 251 ∨ 256 ≤ q) → w1 q = w q)) (qB D τ A ad N) A) 0 0 A := by
  refine q_of (by decide) (Nat.le_of_ble_eq_true rfl) rfl ?_
  intro PP EE s MM below meth CC ls F hr hlk hnm hex hl hW
  have hl : lv_has ls 5 [(0, .ref (ad 251))] := hl
  obtain ⟨lo, lB, lC, lO, lI⟩ := id hL
  obtain ⟨⟨nn32, nho, hnn32⟩, nhB, nhT⟩ := id hN
  obtain ⟨hyo, ⟨FF, hyF, hyd⟩, OO, hyO, hyo2⟩ := id hY
  have eh : zc (fun u => S.testBit u = true) 40 = zc M0 m := by rw [← zc_trunc (P := M0) (n := 40) hm40]; exact zc_congr (fun v _ => (hM0 v).trans ⟨fun q => ⟨hM0m v q, q⟩, fun q => q.2⟩)
  obtain ⟨v0, v0m, v0M⟩ := id hne0
  have hpos : 0 < zc M0 m := zc_pos v0m v0M
  have hle := zc_le M0 m
  refine q_iconst F d_La_chooseMore_0 (by decide) (fun v1 hv1 => ?_)
  refine lv_aload_n F.1 F.2.1 d_La_chooseMore_1 rfl (lv_at hl 0 rfl) ?_
  refine q_calli hW (q_cV (As := []) (rest := [.int v1]) F hW cs_La_90 hd_La_howMany rfl (by omega) lo (k_La_howMany l D τ A ad N w hb S Bl Cl Ow IB hL hS) rfl rfl ⟨by decide, by decide⟩ rfl hl.1 rfl (Nat.le_of_ble_eq_true rfl) d_La_chooseMore_2 ⟨Nat.le_refl _, Nat.le_refl _⟩) (fun v2 w2 H2 locs2 hp2 hW2 => ?_)
  obtain ⟨hq2, hp2⟩ := hp2
  replace hq2 := hq2.symm
  subst hq2
  rw [eh] at hp2
  refine q_max F hl.1 tw_468 (by decide) (Nat.le_of_ble_eq_true rfl) (by decide) (by decide) d_La_chooseMore_5 (fun v3 hv3 => ?_)
  have hfirst : v3.toInt = (zc M0 m : Int) := by split at hv3 <;> omega
  refine lv_istore_n (lv' := [(1, .int v3), (0, .ref (ad 251))]) F.1 F.2.1 d_La_chooseMore_8 rfl hl (by decide) rfl (fun ls4 hl4 => ?_)
  clear hl
  refine q_iconst F d_La_chooseMore_9 (by decide) (fun v5 hv5 => ?_)
  refine lv_aload_n F.1 F.2.1 d_La_chooseMore_10 rfl (lv_at hl4 1 rfl) ?_
  refine gf_La_25 F hW2 (by omega) lo d_La_chooseMore_11 ?_
  refine q_calli hW2 (q_cV (As := []) (rest := [.int v5]) F hW2 cs_La_53 hd_Ne_size rfl (by omega) nho (k_Ne_size l D τ A ad N w 85 (by omega) n bh wt hN) rfl rfl ⟨by decide, by decide⟩ rfl hl4.1 rfl (Nat.le_of_ble_eq_true rfl) d_La_chooseMore_14 ⟨Nat.le_refl _, Nat.le_refl _⟩) (fun v6 w6 H6 locs6 hp6 hW6 => ?_)
  obtain ⟨hq6, hp6⟩ := hp6
  replace hq6 := hq6.symm
  subst hq6
  refine q_imul F d_La_chooseMore_17 (by rw [hv5]; omega) (fun v7 hv7 => ?_)
  rw [hv5] at hv7
  refine lv_iload_n F.1 F.2.1 d_La_chooseMore_18 rfl (lv_at hl4 0 rfl) ?_
  refine q_iadd F d_La_chooseMore_19 (by omega) (fun v8 hv8 => ?_)
  refine q_iconst F d_La_chooseMore_20 (by decide) (fun v9 hv9 => ?_)
  refine q_isub F d_La_chooseMore_21 (by omega) (fun v10 hv10 => ?_)
  refine lv_iload_n F.1 F.2.1 d_La_chooseMore_22 rfl (lv_at hl4 0 rfl) ?_
  refine q_idiv F (by omega) (by omega) d_La_chooseMore_23 (fun v11 hv11 => ?_)
  have hmo : v11.toInt = (zmo m M0 : Int) := by
    have e1 : v10.toInt = ((4 * m + zc M0 m - 1 : Nat) : Int) := by omega
    rw [hv11, e1, hfirst]; rfl
  refine lv_istore_n (lv' := [(2, .int v11), (1, .int v3), (0, .ref (ad 251))]) F.1 F.2.1 d_La_chooseMore_24 rfl hl4 (by decide) rfl (fun ls12 hl12 => ?_)
  clear hl4
  refine q_iconst F d_La_chooseMore_25 (by decide) (fun v13 hv13 => ?_)
  refine lv_istore_n (lv' := [(3, .int v13), (2, .int v11), (1, .int v3), (0, .ref (ad 251))]) F.1 F.2.1 d_La_chooseMore_26 rfl hl12 (by decide) rfl (fun ls14 hl14 => ?_)
  clear hl12
  obtain ⟨Sv, hSv⟩ : ∃ x : Nat, x = S := ⟨_, rfl⟩
  obtain ⟨i, hi0⟩ : ∃ i : Nat, i = 0 := ⟨_, rfl⟩
  have hiv : v13.toInt = (i : Int) := by omega
  have hib : i ≤ m := by omega
  obtain ⟨wl, hwl⟩ : ∃ x : Nat → va_E, x = w := ⟨_, rfl⟩
  have hWl : qW D τ A s H6 locs6 ad N wl := by rw [hwl]; exact hW6
  have hL : ∃ Cl1 Ow1 IB1, qLan τ ad wl Sv Bl Cl1 Ow1 IB1 := ⟨Cl, Ow, IB, by rw [hwl, hSv]; exact hL⟩
  have hN : qNet τ ad wl 85 n bh wt := by rw [hwl]; exact hN
  have hY : qWay τ ad wl m Wt od := by rw [hwl]; exact hY
  have hS9 : Sv < 2 ^ 40 := by rw [hSv]; exact hS
  have hM : ∀ v, (Sv.testBit v = true ↔ zN m (zd m Wt) (zmo m M0) M0 i v) := fun v => by rw [hi0, hSv]; exact hM0 v
  have hgo : ∀ j, j < i → zcd m (zd m Wt) (zmo m M0) (zN m (zd m Wt) (zmo m M0) M0 j) ≠ -1 := fun j h => absurd h (by omega)
  have hfl : (∀ q, (q < 251 ∨ 256 ≤ q) → wl q = w q) := fun q _ => by rw [hwl]
  clear hi0 hv13 hwl hSv
  generalize H6 = Hl at hWl ⊢
  generalize locs6 = locsl at hWl ⊢
  obtain ⟨f, hf⟩ : ∃ f : Nat, m + 1 ≤ i + f := ⟨m + 1, by omega⟩
  induction f generalizing i v13 ls14 wl Hl locsl Sv with
  | zero => exact absurd hf (by omega)
  | succ f ihi =>
    obtain ⟨Cl1, Ow1, IB1, hL⟩ := hL
    obtain ⟨lo, lB, lC, lO, lI⟩ := id hL
    obtain ⟨⟨l32, lho, hl32⟩, lhB, lhT⟩ := id hN
    have hsym : ∀ a b, a < m → b < m → zd m Wt a b = zd m Wt b a := fun a b ha hb => zd_sym hZ.1 ha hb
    refine lv_iload_n F.1 F.2.1 d_La_chooseMore_27 rfl (lv_at hl14 0 rfl) ?_
    refine lv_aload_n F.1 F.2.1 d_La_chooseMore_28 rfl (lv_at hl14 3 rfl) ?_
    refine gf_La_25 F hWl (by omega) lo d_La_chooseMore_29 ?_
    refine q_calli hWl (q_cV (As := []) (rest := [.int v13]) F hWl cs_La_53 hd_Ne_size rfl (by omega) lho (k_Ne_size l D τ A ad N wl 85 (by omega) n bh wt hN) rfl rfl ⟨by decide, by decide⟩ rfl hl14.1 rfl (Nat.le_of_ble_eq_true rfl) d_La_chooseMore_32 ⟨Nat.le_refl _, Nat.le_refl _⟩) (fun v15 w15 H15 locs15 hp15 hW15 => ?_)
    obtain ⟨hq15, hp15⟩ := hp15
    replace hq15 := hq15.symm
    subst hq15
    refine q_icmp_ge (tgt := 79) F d_La_chooseMore_35 (by decide) (fun c35 => ?_) (fun c35 => ?_)
    · exfalso
      have h1 := zN_go hsym (k := m) (fun j hj => hgo j (by omega))
      have h2 := zc_le (zN m (zd m Wt) (zmo m M0) M0 m) m
      omega
    · have hne : ∃ v, v < m ∧ Sv.testBit v = true := ⟨v0, v0m, (hM v0).mpr (zN_sub v0M)⟩
      have eM : (fun u => Sv.testBit u = true) = zN m (zd m Wt) (zmo m M0) M0 i := funext (fun v => propext (hM v))
      refine lv_aload_n F.1 F.2.1 d_La_chooseMore_38 rfl (lv_at hl14 3 rfl) ?_
      refine q_callv hW15 (q_cV (As := []) (rest := []) F hW15 cs_La_96 hd_La_findOwn rfl (by omega) lo (k_La_findOwn l D τ A ad N wl hb Sv Bl Cl1 Ow1 IB1 hL m hm40 n bh wt hN hn Wt od hY hZ hS9 hne) rfl rfl ⟨by decide, by decide⟩ rfl hl14.1 rfl (Nat.le_of_ble_eq_true rfl) d_La_chooseMore_39 ⟨Nat.le_refl _, Nat.le_refl _⟩) (fun w16 H16 locs16 hp16 hW16 => ?_)
      obtain ⟨⟨Ow2, hL2, hO2⟩, hfr16⟩ := hp16
      replace hN := hN.keep (fun q h1 h2 => hfr16 _ (by omega))
      replace hY := hY.keep (fun q h1 h2 => hfr16 _ (by omega))
      replace hfl : (∀ q, (q < 251 ∨ 256 ≤ q) → w16 q = w q) := fun q hq => by rw [hfr16 q hq]; exact hfl q hq
      obtain ⟨lo, -, -, -, -⟩ := id hL2
      refine lv_aload_n F.1 F.2.1 d_La_chooseMore_42 rfl (lv_at hl14 3 rfl) ?_
      refine q_callv hW16 (q_cV (As := []) (rest := []) F hW16 cs_La_99 hd_La_fillClusters rfl (by omega) lo (k_La_fillClusters l D τ A ad N w16 hb Sv Bl Cl1 Ow2 IB1 hL2 m hm40 n bh wt hN hn Wt od hY hZ hS9 hne hO2) rfl rfl ⟨by decide, by decide⟩ rfl hl14.1 rfl (Nat.le_of_ble_eq_true rfl) d_La_chooseMore_43 ⟨Nat.le_refl _, Nat.le_refl _⟩) (fun w17 H17 locs17 hp17 hW17 => ?_)
      obtain ⟨⟨Cl2, hL3, hC2⟩, hfr17⟩ := hp17
      replace hN := hN.keep (fun q h1 h2 => hfr17 _ (by omega))
      replace hY := hY.keep (fun q h1 h2 => hfr17 _ (by omega))
      replace hfl : (∀ q, (q < 251 ∨ 256 ≤ q) → w17 q = w q) := fun q hq => by rw [hfr17 q hq]; exact hfl q hq
      obtain ⟨lo, lB, lC, lO, lI⟩ := id hL3
      refine lv_aload_n F.1 F.2.1 d_La_chooseMore_46 rfl (lv_at hl14 3 rfl) ?_
      refine lv_iload_n F.1 F.2.1 d_La_chooseMore_47 rfl (lv_at hl14 1 rfl) ?_
      refine q_calli hW17 (q_cV (As := [.int v11]) (rest := []) F hW17 cs_La_102 hd_La_lowestCrowded rfl (by omega) lo (k_La_lowestCrowded l D τ A ad N w17 hb Sv Bl Cl2 Ow2 IB1 hL3 m hm40 n bh wt hN hn Wt hC2 v11 (zmo m M0) hmo) rfl rfl ⟨by decide, by decide⟩ rfl hl14.1 rfl (Nat.le_of_ble_eq_true rfl) d_La_chooseMore_48 ⟨Nat.le_refl _, Nat.le_refl _⟩) (fun v18 w18 H18 locs18 hp18 hW18 => ?_)
      obtain ⟨hq18, hp18⟩ := hp18
      replace hq18 := hq18.symm
      subst hq18
      rw [eM] at hp18 hO2 hC2
      refine lv_istore (lv' := [(4, .int v18), (3, .int v13), (2, .int v11), (1, .int v3), (0, .ref (ad 251))]) F.1 F.2.1 d_La_chooseMore_51 hl14 (by decide) rfl (fun ls19 hl19 => ?_)
      clear hl14
      refine lv_iload F.1 F.2.1 d_La_chooseMore_53 (lv_at hl19 0 rfl) ?_
      refine q_iconst F d_La_chooseMore_55 (by decide) (fun v20 hv20 => ?_)
      refine q_icmp_ne (tgt := 60) F d_La_chooseMore_56 (by decide) (fun c56 => ?_) (fun c56 => ?_)
      · obtain ⟨x1, x1m, x1e, -⟩ := zcd_some (n := m) (d := zd m Wt) (most := zmo m M0) (M := zN m (zd m Wt) (zmo m M0) M0 i) (by omega)
        refine lv_aload_n F.1 F.2.1 d_La_chooseMore_60 rfl (lv_at hl19 4 rfl) ?_
        refine lv_dup F.1 F.2.1 d_La_chooseMore_61 rfl ?_
        refine gf_La_33 F hW18 (by omega) lo d_La_chooseMore_62 ?_
        refine lv_lconst (v := lN 1) F.1 F.2.1 d_La_chooseMore_65 rfl ?_
        refine lv_iload F.1 F.2.1 d_La_chooseMore_66 (lv_at hl19 0 rfl) ?_
        refine q_lshl1 F x1 (by omega) (by omega) d_La_chooseMore_68 ?_
        refine q_lor F (by omega) (Nat.pow_lt_pow_right (by decide) (by omega)) d_La_chooseMore_69 ?_
        refine pf_La_33 F hW18 (by omega) lo d_La_chooseMore_70 (fun H21 locs21 w21 hW21 hI21 hfr21 => ?_)
        replace lo := hI21
        replace lB := lB.keep (hfr21 _ (by omega))
        replace lC := lC.keep (hfr21 _ (by omega))
        replace lO := lO.keep (hfr21 _ (by omega))
        replace lI := lI.keep (hfr21 _ (by omega))
        replace hN := hN.keep (fun q h1 h2 => hfr21 _ (by omega))
        replace hY := hY.keep (fun q h1 h2 => hfr21 _ (by omega))
        refine q_iinc (lv' := fun v22 => [(3, .int v22), (4, .int v18), (2, .int v11), (1, .int v3), (0, .ref (ad 251))]) F d_La_chooseMore_73 hl19 (k := 1) rfl (by decide) (by omega) (by decide) (fun _ => rfl) (fun v22 lsv22 hv22 hlv22 => ?_)
        clear hl19
        refine lv_goto (tgt := 27) F.1 F.2.1 d_La_chooseMore_76 (by decide) ?_
        exact ihi (i := i + 1) (v13 := v22) (ls14 := lsv22) (wl := w21) (Hl := H21) (locsl := locs21) (Sv := Sv ||| 2 ^ x1) (hiv := by omega) (hib := by omega) (hWl := hW21) (hL := ⟨Cl2, Ow2, IB1, lo, lB, lC, lO, lI⟩) (hN := hN) (hY := hY) (hS9 := q_or_lt hS9 (by omega)) (hM := fun v => by rw [q_or_tb, hM, zN_s, x1e]; exact or_congr Iff.rfl (by omega)) (hgo := lt_s hgo (by omega)) (hfl := fun q hq => by rw [hfr21 q (by omega)]; exact hfl q hq) (hf := by omega) (hl14 := (lv_sub hlv22 [0, 2, 3, 4] rfl))
      · have eN : zN m (zd m Wt) (zmo m M0) M0 m = zN m (zd m Wt) (zmo m M0) M0 i := funext (fun v => propext (by have := zN_stop (n := m) (d := zd m Wt) (most := zmo m M0) (M0 := M0) (k := i) (by omega) (m - i) v; rw [show i + (m - i) = m by omega] at this; exact this))
        exact q_vret F hr hlk hW18 ⟨⟨Sv, Cl2, Ow2, IB1, hL3, hS9, fun v => by rw [eN]; exact hM v, fun a ha => by rw [eN]; exact hO2 a ha, fun a ha => by rw [eN]; exact hC2 a ha⟩, hfl⟩ d_La_chooseMore_59
set_option maxHeartbeats 4000000 in
set_option maxRecDepth 100000 in
/-- the landmarks -/
theorem k_La_choose (l : Launch) (D : va_G) (τ : Nat → ClassId) (A : Nat → Prop) (ad : Nat → Nat) (N : Nat) (w : Nat → va_E) (hb : 469 ≤ N) (S : Nat) (Bl Cl : Nat → Nat) (Ow IB : Nat → Int) (hL : qLan τ ad w S Bl Cl Ow IB) (m : Nat) (hm40 : m ≤ 40) (n : Int) (bh wt : Nat → Nat → Int) (hN : qNet τ ad w 85 n bh wt) (hn : n = m) (hm1 : 1 ≤ m) (Wt : Nat → Nat → Int) (od : Nat → Nat → Nat) (hY : qWay τ ad w m Wt od) (hZ : zn_ok m bh wt Wt) (x : Int32) (bk : Nat) (hx : x.toInt = bk) (hbk : 1 ≤ bk) : Met l y_La_choose (qws y_La_choose c_La_choose 2 none) ({ frames := 4, cells := 0, slots := 0, locals := 91 }) (qPc D τ A ad N w [.ref (ad 251), .int x]) (va_Qv (fun w1 => (∃ S1 Bl1 Cl1 Ow1 IB1, qLan τ ad w1 S1 Bl1 Cl1 Ow1 IB1 ∧ S1 < 2 ^ 40 ∧ (∀ v, (S1.testBit v = true ↔ zMK m Wt bk v)) ∧ (∀ a, a < m → Ow1 a = zow m (zd m Wt) (zMK m Wt bk) a) ∧ ∀ a, a < m → Cl1 a < 2 ^ 40 ∧ ∀ v, ((Cl1 a).testBit v = true ↔ v < m ∧ znr m (zd m Wt) (zMK m Wt bk) a v)) ∧ (∀ q, (q < 251 ∨ 256 ≤ q) → w1 q = w q)) (qB D τ A ad N) A) 0 0 A := by
  refine q_of (by decide) (Nat.le_of_ble_eq_true rfl) rfl ?_
  intro PP EE s MM below meth CC ls F hr hlk hnm hex hl hW
  have hl : lv_has ls 2 [(0, .ref (ad 251)), (1, .int x)] := hl
  obtain ⟨lo, lB, lC, lO, lI⟩ := id hL
  obtain ⟨⟨nn32, nho, hnn32⟩, nhB, nhT⟩ := id hN
  refine lv_aload_n F.1 F.2.1 d_La_choose_0 rfl (lv_at hl 0 rfl) ?_
  refine lv_lconst (v := lN 0) F.1 F.2.1 d_La_choose_1 rfl ?_
  refine pf_La_33 F hW (by omega) lo d_La_choose_2 (fun H1 locs1 w1 hW1 hI1 hfr1 => ?_)
  replace lo := hI1
  replace lB := lB.keep (hfr1 _ (by omega))
  replace lC := lC.keep (hfr1 _ (by omega))
  replace lO := lO.keep (hfr1 _ (by omega))
  replace lI := lI.keep (hfr1 _ (by omega))
  replace hN := hN.keep (fun q h1 h2 => hfr1 _ (by omega))
  replace hY := hY.keep (fun q h1 h2 => hfr1 _ (by omega))
  refine lv_aload_n F.1 F.2.1 d_La_choose_5 rfl (lv_at hl 0 rfl) ?_
  refine lv_iload_n F.1 F.2.1 d_La_choose_6 rfl (lv_at hl 1 rfl) ?_
  have hLa : qLan τ ad w1 0 Bl Cl Ow IB := ⟨lo, lB, lC, lO, lI⟩
  refine q_callv hW1 (q_cV (As := [.int x]) (rest := []) F hW1 cs_La_37 hd_La_fillBalls rfl (by omega) lo (k_La_fillBalls l D τ A ad N w1 hb 0 Bl Cl Ow IB hLa m hm40 n bh wt hN hn Wt od hY hZ x bk hx) rfl rfl ⟨by decide, by decide⟩ rfl hl.1 rfl (Nat.le_of_ble_eq_true rfl) d_La_choose_7 ⟨Nat.le_refl _, Nat.le_refl _⟩) (fun w2 H2 locs2 hp2 hW2 => ?_)
  obtain ⟨⟨Bl1, hLb, hBl⟩, hfr2⟩ := hp2
  replace hN := hN.keep (fun q h1 h2 => hfr2 _ (by omega))
  replace hY := hY.keep (fun q h1 h2 => hfr2 _ (by omega))
  obtain ⟨lo, -, -, -, -⟩ := id hLb
  refine lv_aload_n F.1 F.2.1 d_La_choose_10 rfl (lv_at hl 0 rfl) ?_
  refine q_callv hW2 (q_cV (As := []) (rest := []) F hW2 cs_La_41 hd_La_chooseFirst rfl (by omega) lo (k_La_chooseFirst l D τ A ad N w2 hb Bl1 Cl Ow IB hLb m hm40 n bh wt hN hn (zbl m Wt bk) (fun a v _ h => h.1) hBl) rfl rfl ⟨by decide, by decide⟩ rfl hl.1 rfl (Nat.le_of_ble_eq_true rfl) d_La_choose_11 ⟨Nat.le_refl _, Nat.le_refl _⟩) (fun w3 H3 locs3 hp3 hW3 => ?_)
  obtain ⟨⟨S1, IB1, hLc, hS1, hM1⟩, hfr3⟩ := hp3
  replace hN := hN.keep (fun q h1 h2 => hfr3 _ (by omega))
  replace hY := hY.keep (fun q h1 h2 => hfr3 _ (by omega))
  obtain ⟨lo, -, -, -, -⟩ := id hLc
  obtain ⟨v0, v0m, v0M, -⟩ := zM_served (n := m) (ball := zbl m Wt bk) (fun a ha => zbl_self hZ.1 ha hbk) 0 (by omega)
  refine lv_aload_n F.1 F.2.1 d_La_choose_14 rfl (lv_at hl 0 rfl) ?_
  refine q_callv hW3 (q_cV (As := []) (rest := []) F hW3 cs_La_44 hd_La_chooseMore rfl (by omega) lo (k_La_chooseMore l D τ A ad N w3 hb S1 Bl1 Cl Ow IB1 hLc m hm40 n bh wt hN hn hm1 Wt od hY hZ hS1 (zM m (zbl m Wt bk) m) hM1 (fun v h => zM_lt h) ⟨v0, v0m, v0M⟩) rfl rfl ⟨by decide, by decide⟩ rfl hl.1 rfl (Nat.le_of_ble_eq_true rfl) d_La_choose_15 ⟨Nat.le_refl _, Nat.le_refl _⟩) (fun w4 H4 locs4 hp4 hW4 => ?_)
  obtain ⟨⟨S2, Cl2, Ow2, IB2, hLd, hR⟩, hfr4⟩ := hp4
  exact q_vret F hr hlk hW4 ⟨⟨S2, Bl1, Cl2, Ow2, IB2, hLd, hR⟩, fun q hq => by rw [hfr4 q hq, hfr3 q hq, hfr2 q hq, hfr1 q (by omega)]⟩ d_La_choose_18
