theorem zc_up {P : Nat → Prop} {i j : Nat} (h : i ≤ j) : zc P i ≤ zc P j := by
  induction j with
  | zero => rw [show i = 0 by omega]; exact Nat.le_refl _
  | succ j ih =>
    by_cases e : i = j + 1
    · rw [e]; exact Nat.le_refl _
    · have h1 := ih (by omega)
      by_cases q : P j
      · rw [zc_t q]; omega
      · rw [zc_f q]; exact h1
theorem zlm_found {P : Nat → Prop} {n i : Nat} {x : Int} (hi : i < n) (hp : P i) (hx : (zc P i : Int) = x) : (i : Int) = zf (fun v => P v ∧ (zc P v : Int) = x) n := by
  refine (zf_found hi ⟨hp, hx⟩ (fun j hj q => ?_)).symm
  have h1 := zc_t q.1
  have h2 := zc_up (P := P) (show j + 1 ≤ i by omega)
  have h3 := q.2
  omega
set_option maxHeartbeats 4000000 in
set_option maxRecDepth 100000 in
/-- a label's word -/
theorem k_Mo_word (l : Launch) (D : va_G) (τ : Nat → ClassId) (A : Nat → Prop) (ad : Nat → Nat) (N : Nat) (w : Nat → va_E) (hb : 484 ≤ N) (th n32 b32 s32 p32 : Int32) (mo : w 469 = .inr (7, [.int th, .int n32, .ref (ad 470), .ref (ad 471), .ref (ad 472), .ref (ad 473), .ref (ad 474), .ref (ad 475), .int b32, .ref (ad 476), .ref (ad 477), .ref (ad 478), .ref (ad 479), .ref (ad 480), .int s32, .int p32, .ref (ad 481), .ref (ad 482), .ref (ad 483)])) (X : zSt) (hn : n32.toInt = X.n) (hB : zBt X.n X.bo X.wo X.Wo X.mk) (hMb : qMb τ w X) (x y : Int32) (a : Nat) (hx : x.toInt = a) (ha : a < X.n) (hy0 : 0 ≤ y.toInt) (hy5 : y.toInt < 5) : Met l y_Mo_word (qws y_Mo_word c_Mo_word 4 (some .int)) ({ frames := 5, cells := 0, slots := 0, locals := 122 }) (qPc D τ A ad N w [.ref (ad 469), .int x, .int y]) (va_Qi (fun r1 w1 => w1 = w ∧ zlw X a y.toInt r1.toInt) (qB D τ A ad N) A) 0 0 A := by
  refine q_of (by decide) (Nat.le_of_ble_eq_true rfl) rfl ?_
  intro PP EE s MM below meth CC ls F hr hlk hnm hex hl hW
  have hl : lv_has ls 4 [(0, .ref (ad 469)), (1, .int x), (2, .int y)] := hl
  obtain ⟨hm1, hm40, hZ, hall, hmk1, hmk2⟩ := id hB
  obtain ⟨⟨V, hV, hVf⟩, ⟨GO, hGO, hGOf⟩, ⟨T, hT, hTf⟩, ⟨B1, hM, hMi⟩, ⟨O, hO, hOf⟩, PA, hPA, hPAf⟩ := id hMb
  have hdb : ∀ a b, a < X.n → b < X.n → 0 ≤ zd X.n X.Wo a b ∧ zd X.n X.Wo a b ≤ 1000000 := fun a b ha hb9 => zd_bd hZ.1 ha hb9
  have hWb : ∀ a b, a < X.n → b < X.n → 0 ≤ X.Wo a b ∧ X.Wo a b ≤ 1000 := fun a b ha hb9 => ⟨(hZ.1.1 a b ha hb9).1, (hZ.1.1 a b ha hb9).2.1⟩
  have hmk3 : ∃ v, v < X.n ∧ X.mk v := hmk2.imp (fun v h => ⟨hmk1 v h, h⟩)
  obtain ⟨r, hrm, hrow, hrk⟩ := hB.own a
  have hOa := hOf a ha
  refine lv_aload_n F.1 F.2.1 d_Mo_word_0 rfl (lv_at hl 0 rfl) ?_
  refine gf_Mo_42 F hW (by omega) mo d_Mo_word_1 ?_
  refine lv_iload_n F.1 F.2.1 d_Mo_word_4 rfl (lv_at hl 1 rfl) ?_
  refine q_iald F hW hO (by omega) a (by omega) (by omega) d_Mo_word_5 (fun v1 hv1 => ?_)
  refine lv_istore_n (lv' := [(3, .int v1), (0, .ref (ad 469)), (1, .int x), (2, .int y)]) F.1 F.2.1 d_Mo_word_6 rfl hl (by decide) rfl (fun ls2 hl2 => ?_)
  clear hl
  refine lv_iload_n F.1 F.2.1 d_Mo_word_7 rfl (lv_at hl2 3 rfl) ?_
  have hvr : v1.toInt = (r : Int) := by rw [hv1, hOa]; exact hrow
  refine q_if_ne (tgt := 13) F d_Mo_word_8 (by decide) (fun c8 => ?_) (fun c8 => ?_)
  · refine lv_iload_n F.1 F.2.1 d_Mo_word_13 rfl (lv_at hl2 3 rfl) ?_
    refine q_iconst F d_Mo_word_14 (by decide) (fun v3 hv3 => ?_)
    refine q_icmp_ne (tgt := 20) F d_Mo_word_15 (by decide) (fun c15 => ?_) (fun c15 => ?_)
    · refine lv_iload_n F.1 F.2.1 d_Mo_word_20 rfl (lv_at hl2 3 rfl) ?_
      refine q_iconst F d_Mo_word_21 (by decide) (fun v4 hv4 => ?_)
      refine q_icmp_ne (tgt := 32) F d_Mo_word_22 (by decide) (fun c22 => ?_) (fun c22 => ?_)
      · refine lv_iload_n F.1 F.2.1 d_Mo_word_32 rfl (lv_at hl2 3 rfl) ?_
        refine q_iconst F d_Mo_word_33 (by decide) (fun v5 hv5 => ?_)
        refine q_icmp_ne (tgt := 46) F d_Mo_word_34 (by decide) (fun c34 => ?_) (fun c34 => ?_)
        · refine lv_aload_n F.1 F.2.1 d_Mo_word_46 rfl (lv_at hl2 1 rfl) ?_
          refine lv_iload_n F.1 F.2.1 d_Mo_word_47 rfl (lv_at hl2 0 rfl) ?_
          refine lv_iload_n F.1 F.2.1 d_Mo_word_48 rfl (lv_at hl2 2 rfl) ?_
          refine q_calli hW (q_cV (As := [.int v1, .int x]) (rest := []) F hW cs_Mo_139 hd_Mo_lightPorts rfl (by omega) mo (k_Mo_lightPorts l D τ A ad N w hb th n32 b32 s32 p32 mo X.n hn hm40 r hrm PA hPA (zpa X.n X.Wo r) (fun u9 hu9 => hPAf r u9 hrm hu9 hrk) (zrk X.n X.Wo r) (zpa_ok hZ.1 hall hrm) v1 hvr x a hx ha (zpt X.n X.bo X.Wo r) (zpt_ok hZ hall hrm) GO hGO X.bo hGOf (fun v q hv hq e => by unfold zpt; rw [e]; simp only [Int.toNat_natCast])) rfl rfl ⟨by decide, by decide⟩ rfl hl2.1 rfl (Nat.le_of_ble_eq_true rfl) d_Mo_word_49 ⟨Nat.le_refl _, Nat.le_refl _⟩) (fun v6 w6 H6 locs6 hp6 hW6 => ?_)
          obtain ⟨hq6, hp6⟩ := hp6
          replace hq6 := hq6.symm
          subst hq6
          exact q_iret F hr hlk hW6 ⟨rfl, by unfold zlw; rw [hrow]; simp only [Int.toNat_natCast]; exact Or.inr (Or.inr (Or.inr (Or.inr ⟨by omega, hp6⟩)))⟩ d_Mo_word_52
        · refine lv_aload_n F.1 F.2.1 d_Mo_word_37 rfl (lv_at hl2 1 rfl) ?_
          refine lv_iload_n F.1 F.2.1 d_Mo_word_38 rfl (lv_at hl2 0 rfl) ?_
          refine lv_iload_n F.1 F.2.1 d_Mo_word_39 rfl (lv_at hl2 2 rfl) ?_
          refine q_calli hW (q_cV (As := [.int v1, .int x]) (rest := []) F hW cs_Mo_136 hd_Mo_lights rfl (by omega) mo (k_Mo_lights l D τ A ad N w hb th n32 b32 s32 p32 mo X.n hn hm40 r hrm PA hPA (zpa X.n X.Wo r) (fun u9 hu9 => hPAf r u9 hrm hu9 hrk) (zrk X.n X.Wo r) (zpa_ok hZ.1 hall hrm) v1 hvr x a hx ha) rfl rfl ⟨by decide, by decide⟩ rfl hl2.1 rfl (Nat.le_of_ble_eq_true rfl) d_Mo_word_40 ⟨Nat.le_refl _, Nat.le_refl _⟩) (fun v7 w7 H7 locs7 hp7 hW7 => ?_)
          obtain ⟨hq7, hp7⟩ := hp7
          replace hq7 := hq7.symm
          subst hq7
          refine lv_goto (tgt := 52) F.1 F.2.1 d_Mo_word_43 (by decide) ?_
          exact q_iret F hr hlk hW7 ⟨rfl, by unfold zlw; rw [hrow]; simp only [Int.toNat_natCast]; exact Or.inr (Or.inr (Or.inr (Or.inl ⟨by omega, hp7⟩)))⟩ d_Mo_word_52
      · refine lv_aload_n F.1 F.2.1 d_Mo_word_25 rfl (lv_at hl2 1 rfl) ?_
        refine lv_iload_n F.1 F.2.1 d_Mo_word_26 rfl (lv_at hl2 0 rfl) ?_
        refine lv_iload_n F.1 F.2.1 d_Mo_word_27 rfl (lv_at hl2 2 rfl) ?_
        refine q_calli hW (q_cV (As := [.int v1, .int x]) (rest := []) F hW cs_Mo_133 hd_Mo_placeOf rfl (by omega) mo (k_Mo_placeOf l D τ A ad N w hb th n32 b32 s32 p32 mo X.n hn hm40 r hrm PA hPA (zpa X.n X.Wo r) (fun u9 hu9 => hPAf r u9 hrm hu9 hrk) (zrk X.n X.Wo r) (zpa_ok hZ.1 hall hrm) v1 hvr x a hx ha) rfl rfl ⟨by decide, by decide⟩ rfl hl2.1 rfl (Nat.le_of_ble_eq_true rfl) d_Mo_word_28 ⟨Nat.le_refl _, Nat.le_refl _⟩) (fun v8 w8 H8 locs8 hp8 hW8 => ?_)
        obtain ⟨hq8, hp8⟩ := hp8
        replace hq8 := hq8.symm
        subst hq8
        exact q_iret F hr hlk hW8 ⟨rfl, by unfold zlw; rw [hrow]; simp only [Int.toNat_natCast]; exact Or.inr (Or.inr (Or.inl ⟨by omega, hp8⟩))⟩ d_Mo_word_31
    · refine lv_iload_n F.1 F.2.1 d_Mo_word_18 rfl (lv_at hl2 0 rfl) ?_
      exact q_iret F hr hlk hW ⟨rfl, by unfold zlw; rw [hrow]; simp only [Int.toNat_natCast]; exact Or.inr (Or.inl ⟨by omega, hvr⟩)⟩ d_Mo_word_19
  · refine lv_iload_n F.1 F.2.1 d_Mo_word_11 rfl (lv_at hl2 2 rfl) ?_
    exact q_iret F hr hlk hW ⟨rfl, by unfold zlw; rw [hrow]; simp only [Int.toNat_natCast]; exact Or.inl ⟨by omega, hx⟩⟩ d_Mo_word_12
set_option maxHeartbeats 4000000 in
set_option maxRecDepth 100000 in
/-- a hop -/
theorem k_Mo_hops (l : Launch) (D : va_G) (τ : Nat → ClassId) (A : Nat → Prop) (ad : Nat → Nat) (N : Nat) (w : Nat → va_E) (hb : 484 ≤ N) (th n32 b32 s32 p32 : Int32) (mo : w 469 = .inr (7, [.int th, .int n32, .ref (ad 470), .ref (ad 471), .ref (ad 472), .ref (ad 473), .ref (ad 474), .ref (ad 475), .int b32, .ref (ad 476), .ref (ad 477), .ref (ad 478), .ref (ad 479), .ref (ad 480), .int s32, .int p32, .ref (ad 481), .ref (ad 482), .ref (ad 483)])) (X : zSt) (hn : n32.toInt = X.n) (hB : zBt X.n X.bo X.wo X.Wo X.mk) (hMb : qMb τ w X) (x y : Int32) (a g : Nat) (hx : x.toInt = a) (hy : y.toInt = g) (ha : a < X.n) (hg : g < X.n) : Met l y_Mo_hops (qws y_Mo_hops c_Mo_hops 8 (some .int)) ({ frames := 6, cells := 0, slots := 0, locals := 145 }) (qPc D τ A ad N w [.ref (ad 469), .int x, .int y]) (va_Qi (fun r1 w1 => w1 = w ∧ r1.toInt = zhop X.n X.bo X.Wo X.mk a g) (qB D τ A ad N) A) 0 0 A := by
  refine q_of (by decide) (Nat.le_of_ble_eq_true rfl) rfl ?_
  intro PP EE s MM below meth CC ls F hr hlk hnm hex hl hW
  have hl : lv_has ls 8 [(0, .ref (ad 469)), (1, .int x), (2, .int y)] := hl
  obtain ⟨hm1, hm40, hZ, hall, hmk1, hmk2⟩ := id hB
  obtain ⟨⟨V, hV, hVf⟩, ⟨GO, hGO, hGOf⟩, ⟨T, hT, hTf⟩, ⟨B1, hM, hMi⟩, ⟨O, hO, hOf⟩, PA, hPA, hPAf⟩ := id hMb
  have hdb : ∀ a b, a < X.n → b < X.n → 0 ≤ zd X.n X.Wo a b ∧ zd X.n X.Wo a b ≤ 1000000 := fun a b ha hb9 => zd_bd hZ.1 ha hb9
  have hWb : ∀ a b, a < X.n → b < X.n → 0 ≤ X.Wo a b ∧ X.Wo a b ≤ 1000 := fun a b ha hb9 => ⟨(hZ.1.1 a b ha hb9).1, (hZ.1.1 a b ha hb9).2.1⟩
  have hmk3 : ∃ v, v < X.n ∧ X.mk v := hmk2.imp (fun v h => ⟨hmk1 v h, h⟩)
  refine lv_iload_n F.1 F.2.1 d_Mo_hops_0 rfl (lv_at hl 1 rfl) ?_
  refine lv_iload_n F.1 F.2.1 d_Mo_hops_1 rfl (lv_at hl 2 rfl) ?_
  refine q_icmp_ne (tgt := 7) F d_Mo_hops_2 (by decide) (fun c2 => ?_) (fun c2 => ?_)
  · have hne : a ≠ g := by omega
    obtain ⟨r, hrm, hrow, hrk⟩ := hB.own g
    obtain ⟨c, c1, c2b, c3, c4, c5, c6⟩ := hB.hop ha hg hne hrow hrm
    have hMg := hMi g hg
    refine lv_aload_n F.1 F.2.1 d_Mo_hops_7 rfl (lv_at hl 0 rfl) ?_
    refine gf_Mo_32 F hW (by omega) mo d_Mo_hops_8 ?_
    refine lv_iload_n F.1 F.2.1 d_Mo_hops_11 rfl (lv_at hl 2 rfl) ?_
    refine q_zald F hW hM (by omega) g (by omega) (by omega) d_Mo_hops_12 (fun v1 hv1 => ?_)
    refine q_if_ne (tgt := 25) F d_Mo_hops_13 (by decide) (fun c13 => ?_) (fun c13 => ?_)
    · have hz9 := zhop_row (m := X.n) (Wt := X.Wo) (mk := X.mk) (bh := X.bo) hne (Or.inl (hMg.mp (qb_t hv1 (by omega))))
      refine lv_aload_n F.1 F.2.1 d_Mo_hops_25 rfl (lv_at hl 0 rfl) ?_
      refine lv_iload_n F.1 F.2.1 d_Mo_hops_26 rfl (lv_at hl 1 rfl) ?_
      refine lv_iload_n F.1 F.2.1 d_Mo_hops_27 rfl (lv_at hl 2 rfl) ?_
      refine q_calli hW (q_cV (As := [.int x, .int y]) (rest := []) F hW cs_Mo_106 hd_Mo_towards rfl (by omega) mo (k_Mo_towards l D τ A ad N w hb th n32 b32 s32 p32 mo X.n hn hm40 T hT (zd X.n X.Wo) hTf V hV X.Wo hVf hWb hdb x y a g hx hy ha hg) rfl rfl ⟨by decide, by decide⟩ rfl hl.1 rfl (Nat.le_of_ble_eq_true rfl) d_Mo_hops_28 ⟨Nat.le_refl _, Nat.le_refl _⟩) (fun v2 w2 H2 locs2 hp2 hW2 => ?_)
      obtain ⟨hq2, hp2⟩ := hp2
      replace hq2 := hq2.symm
      subst hq2
      exact q_iret F hr hlk hW2 ⟨rfl, by rw [hz9]; exact hp2⟩ d_Mo_hops_31
    · refine lv_aload_n F.1 F.2.1 d_Mo_hops_16 rfl (lv_at hl 0 rfl) ?_
      refine lv_iload_n F.1 F.2.1 d_Mo_hops_17 rfl (lv_at hl 1 rfl) ?_
      refine lv_iload_n F.1 F.2.1 d_Mo_hops_18 rfl (lv_at hl 2 rfl) ?_
      refine q_calli hW (q_cV (As := [.int x, .int y]) (rest := []) F hW cs_Mo_93 hd_Mo_isNear rfl (by omega) mo (k_Mo_isNear l D τ A ad N w hb th n32 b32 s32 p32 mo X.n hn hm40 T hT (zd X.n X.Wo) hTf O hO X.mk hOf hmk3 x y a g hx hy ha hg) rfl rfl ⟨by decide, by decide⟩ rfl hl.1 rfl (Nat.le_of_ble_eq_true rfl) d_Mo_hops_19 ⟨Nat.le_refl _, Nat.le_refl _⟩) (fun v3 w3 H3 locs3 hp3 hW3 => ?_)
      obtain ⟨hq3, hp3⟩ := hp3
      replace hq3 := hq3.symm
      subst hq3
      refine q_if_eq (tgt := 32) F d_Mo_hops_22 (by decide) (fun c22 => ?_) (fun c22 => ?_)
      · have hnr : ¬ (X.mk g ∨ znr X.n (zd X.n X.Wo) X.mk a g) := fun q => q.elim (fun z => qb_f hv1 (by omega) (hMg.mpr z)) (qb_f hp3 (by omega))
        refine lv_aload_n F.1 F.2.1 d_Mo_hops_32 rfl (lv_at hl 0 rfl) ?_
        refine lv_iload_n F.1 F.2.1 d_Mo_hops_33 rfl (lv_at hl 2 rfl) ?_
        refine q_iconst F d_Mo_hops_34 (by decide) (fun v4 hv4 => ?_)
        refine q_calli hW3 (q_cV (As := [.int y, .int v4]) (rest := []) F hW3 cs_Mo_142 hd_Mo_word rfl (by omega) mo (k_Mo_word l D τ A ad N w hb th n32 b32 s32 p32 mo X hn hB hMb y v4 g hy hg (by omega) (by omega)) rfl rfl ⟨by decide, by decide⟩ rfl hl.1 rfl (Nat.le_of_ble_eq_true rfl) d_Mo_hops_35 ⟨Nat.le_refl _, Nat.le_refl _⟩) (fun v5 w5 H5 locs5 hp5 hW5 => ?_)
        obtain ⟨hq5, hp5⟩ := hp5
        replace hq5 := hq5.symm
        subst hq5
        unfold zlw at hp5
        rw [hrow] at hp5
        simp only [Int.toNat_natCast] at hp5
        have hvr : v5.toInt = (r : Int) := by omega
        refine lv_istore_n (lv' := [(3, .int v5), (0, .ref (ad 469)), (1, .int x), (2, .int y)]) F.1 F.2.1 d_Mo_hops_38 rfl hl (by decide) rfl (fun ls6 hl6 => ?_)
        clear hl
        refine lv_aload_n F.1 F.2.1 d_Mo_hops_39 rfl (lv_at hl6 1 rfl) ?_
        refine lv_iload_n F.1 F.2.1 d_Mo_hops_40 rfl (lv_at hl6 3 rfl) ?_
        refine q_iconst F d_Mo_hops_41 (by decide) (fun v7 hv7 => ?_)
        refine q_calli hW5 (q_cV (As := [.int y, .int v7]) (rest := []) F hW5 cs_Mo_142 hd_Mo_word rfl (by omega) mo (k_Mo_word l D τ A ad N w hb th n32 b32 s32 p32 mo X hn hB hMb y v7 g hy hg (by omega) (by omega)) rfl rfl ⟨by decide, by decide⟩ rfl hl6.1 rfl (Nat.le_of_ble_eq_true rfl) d_Mo_hops_42 ⟨Nat.le_refl _, Nat.le_refl _⟩) (fun v8 w8 H8 locs8 hp8 hW8 => ?_)
        obtain ⟨hq8, hp8⟩ := hp8
        replace hq8 := hq8.symm
        subst hq8
        unfold zlw at hp8
        rw [hrow] at hp8
        simp only [Int.toNat_natCast] at hp8
        have hpl : v8.toInt = zpl X.n (zpa X.n X.Wo r) g := by omega
        clear hp5 hp8
        have TT := zpa_ok hZ.1 hall hrm
        have hpt := zpt_ok hZ hall hrm
        have hb1 := zpl_bd TT hm40 ha
        have hb2 := zpl_bd TT hm40 hg
        have hb3 := zS_le (n := X.n) (par := zpa X.n X.Wo r) a
        refine lv_istore (lv' := [(4, .int v8), (3, .int v5), (0, .ref (ad 469)), (1, .int x), (2, .int y)]) F.1 F.2.1 d_Mo_hops_45 hl6 (by decide) rfl (fun ls9 hl9 => ?_)
        clear hl6
        refine lv_aload_n F.1 F.2.1 d_Mo_hops_47 rfl (lv_at hl9 2 rfl) ?_
        refine lv_iload_n F.1 F.2.1 d_Mo_hops_48 rfl (lv_at hl9 1 rfl) ?_
        refine lv_iload_n F.1 F.2.1 d_Mo_hops_49 rfl (lv_at hl9 3 rfl) ?_
        refine q_calli hW8 (q_cV (As := [.int v5, .int x]) (rest := []) F hW8 cs_Mo_133 hd_Mo_placeOf rfl (by omega) mo (k_Mo_placeOf l D τ A ad N w hb th n32 b32 s32 p32 mo X.n hn hm40 r hrm PA hPA (zpa X.n X.Wo r) (fun u9 hu9 => hPAf r u9 hrm hu9 hrk) (zrk X.n X.Wo r) (zpa_ok hZ.1 hall hrm) v5 hvr x a hx ha) rfl rfl ⟨by decide, by decide⟩ rfl hl9.1 rfl (Nat.le_of_ble_eq_true rfl) d_Mo_hops_50 ⟨Nat.le_refl _, Nat.le_refl _⟩) (fun v10 w10 H10 locs10 hp10 hW10 => ?_)
        obtain ⟨hq10, hp10⟩ := hp10
        replace hq10 := hq10.symm
        subst hq10
        refine lv_istore (lv' := [(5, .int v10), (4, .int v8), (3, .int v5), (0, .ref (ad 469)), (1, .int x), (2, .int y)]) F.1 F.2.1 d_Mo_hops_53 hl9 (by decide) rfl (fun ls11 hl11 => ?_)
        clear hl9
        refine lv_iload F.1 F.2.1 d_Mo_hops_55 (lv_at hl11 1 rfl) ?_
        refine lv_iload F.1 F.2.1 d_Mo_hops_57 (lv_at hl11 0 rfl) ?_
        refine q_icmp_lt (tgt := 76) F d_Mo_hops_59 (by decide) (fun c59 => ?_) (fun c59 => ?_)
        · have hni : ¬ zI X.n (zpa X.n X.Wo r) a (zpl X.n (zpa X.n X.Wo r) g) := fun q => by have q1 := q.1; have q2 := q.2; omega
          have hPr := hPAf r a hrm ha hrk
          refine lv_aload_n F.1 F.2.1 d_Mo_hops_76 rfl (lv_at hl11 3 rfl) ?_
          refine gf_Mo_45 F hW10 (by omega) mo d_Mo_hops_77 ?_
          refine q_bipush F d_Mo_hops_80 (by decide) (fun v12 hv12 => ?_)
          refine lv_iload_n F.1 F.2.1 d_Mo_hops_82 rfl (lv_at hl11 2 rfl) ?_
          refine q_imul F d_Mo_hops_83 (by rw [hv12]; omega) (fun v13 hv13 => ?_)
          rw [hv12] at hv13
          refine lv_iload_n F.1 F.2.1 d_Mo_hops_84 rfl (lv_at hl11 4 rfl) ?_
          refine q_iadd F d_Mo_hops_85 (by omega) (fun v14 hv14 => ?_)
          refine q_iald F hW10 hPA (by omega) ((40 * r) + a) (by omega) (by omega) d_Mo_hops_86 (fun v15 hv15 => ?_)
          exact q_iret F hr hlk hW10 ⟨rfl, by rw [zhop_up hne hnr hrow hni, hv15]; exact hPr⟩ d_Mo_hops_87
        · refine lv_iload F.1 F.2.1 d_Mo_hops_62 (lv_at hl11 1 rfl) ?_
          refine lv_iload F.1 F.2.1 d_Mo_hops_64 (lv_at hl11 0 rfl) ?_
          refine lv_aload_n F.1 F.2.1 d_Mo_hops_66 rfl (lv_at hl11 3 rfl) ?_
          refine lv_iload_n F.1 F.2.1 d_Mo_hops_67 rfl (lv_at hl11 2 rfl) ?_
          refine lv_iload_n F.1 F.2.1 d_Mo_hops_68 rfl (lv_at hl11 4 rfl) ?_
          refine q_calli hW10 (q_cV (As := [.int v5, .int x]) (rest := [.int v10, .int v8]) F hW10 cs_Mo_121 hd_Mo_sizeOf rfl (by omega) mo (k_Mo_sizeOf l D τ A ad N w hb th n32 b32 s32 p32 mo X.n hn hm40 r hrm PA hPA (zpa X.n X.Wo r) (fun u9 hu9 => hPAf r u9 hrm hu9 hrk) (zrk X.n X.Wo r) (zpa_ok hZ.1 hall hrm) v5 hvr x a hx ha) rfl rfl ⟨by decide, by decide⟩ rfl hl11.1 rfl (Nat.le_of_ble_eq_true rfl) d_Mo_hops_69 ⟨Nat.le_refl _, Nat.le_refl _⟩) (fun v16 w16 H16 locs16 hp16 hW16 => ?_)
          obtain ⟨hq16, hp16⟩ := hp16
          replace hq16 := hq16.symm
          subst hq16
          refine q_iadd F d_Mo_hops_72 (by omega) (fun v17 hv17 => ?_)
          refine q_icmp_lt (tgt := 88) F d_Mo_hops_73 (by decide) (fun c73 => ?_) (fun c73 => ?_)
          · have hin : zI X.n (zpa X.n X.Wo r) a (zpl X.n (zpa X.n X.Wo r) g) := ⟨by omega, by omega⟩
            obtain ⟨b, hbm, hbe⟩ := c6 hnr hin
            have hb4 := zpl_bd TT hm40 hbm
            have hb5 := zS_le (n := X.n) (par := zpa X.n X.Wo r) b
            refine lv_aload_n F.1 F.2.1 d_Mo_hops_88 rfl (lv_at hl11 3 rfl) ?_
            refine lv_iload_n F.1 F.2.1 d_Mo_hops_89 rfl (lv_at hl11 2 rfl) ?_
            refine lv_iload_n F.1 F.2.1 d_Mo_hops_90 rfl (lv_at hl11 4 rfl) ?_
            refine q_calli hW16 (q_cV (As := [.int v5, .int x]) (rest := []) F hW16 cs_Mo_124 hd_Mo_heavy rfl (by omega) mo (k_Mo_heavy l D τ A ad N w hb th n32 b32 s32 p32 mo X.n hn hm40 r hrm PA hPA (zpa X.n X.Wo r) (fun u9 hu9 => hPAf r u9 hrm hu9 hrk) (zrk X.n X.Wo r) (zpa_ok hZ.1 hall hrm) v5 hvr x a hx ha) rfl rfl ⟨by decide, by decide⟩ rfl hl11.1 rfl (Nat.le_of_ble_eq_true rfl) d_Mo_hops_91 ⟨Nat.le_refl _, Nat.le_refl _⟩) (fun v18 w18 H18 locs18 hp18 hW18 => ?_)
            obtain ⟨hq18, hp18⟩ := hp18
            replace hq18 := hq18.symm
            subst hq18
            rw [hbe] at hp18
            refine lv_istore (lv' := [(6, .int v18), (5, .int v10), (4, .int v8), (3, .int v5), (0, .ref (ad 469)), (1, .int x), (2, .int y)]) F.1 F.2.1 d_Mo_hops_94 hl11 (by decide) rfl (fun ls19 hl19 => ?_)
            clear hl11
            refine lv_aload_n F.1 F.2.1 d_Mo_hops_96 rfl (lv_at hl19 4 rfl) ?_
            refine lv_iload_n F.1 F.2.1 d_Mo_hops_97 rfl (lv_at hl19 3 rfl) ?_
            refine lv_iload F.1 F.2.1 d_Mo_hops_98 (lv_at hl19 0 rfl) ?_
            refine q_calli hW18 (q_cV (As := [.int v5, .int v18]) (rest := []) F hW18 cs_Mo_133 hd_Mo_placeOf rfl (by omega) mo (k_Mo_placeOf l D τ A ad N w hb th n32 b32 s32 p32 mo X.n hn hm40 r hrm PA hPA (zpa X.n X.Wo r) (fun u9 hu9 => hPAf r u9 hrm hu9 hrk) (zrk X.n X.Wo r) (zpa_ok hZ.1 hall hrm) v5 hvr v18 b hp18 hbm) rfl rfl ⟨by decide, by decide⟩ rfl hl19.1 rfl (Nat.le_of_ble_eq_true rfl) d_Mo_hops_100 ⟨Nat.le_refl _, Nat.le_refl _⟩) (fun v20 w20 H20 locs20 hp20 hW20 => ?_)
            obtain ⟨hq20, hp20⟩ := hp20
            replace hq20 := hq20.symm
            subst hq20
            refine lv_istore (lv' := [(7, .int v20), (6, .int v18), (5, .int v10), (4, .int v8), (3, .int v5), (0, .ref (ad 469)), (1, .int x), (2, .int y)]) F.1 F.2.1 d_Mo_hops_103 hl19 (by decide) rfl (fun ls21 hl21 => ?_)
            clear hl19
            refine lv_iload F.1 F.2.1 d_Mo_hops_105 (lv_at hl21 3 rfl) ?_
            refine lv_iload F.1 F.2.1 d_Mo_hops_107 (lv_at hl21 0 rfl) ?_
            refine q_icmp_lt (tgt := 130) F d_Mo_hops_109 (by decide) (fun c109 => ?_) (fun c109 => ?_)
            · have hnb : ¬ zI X.n (zpa X.n X.Wo r) b (zpl X.n (zpa X.n X.Wo r) g) := fun q => by have q1 := q.1; have q2 := q.2; omega
              obtain ⟨k9, hk9, hk5⟩ := zli_bd TT hm40 ha
              have hwb := zwd_bd TT hm40 hpt hg
              obtain ⟨W9, hW9⟩ : ∃ W9 : Nat, zwd X.n (zpa X.n X.Wo r) (zpt X.n X.bo X.Wo r) g = (W9 : Int) := ⟨(zwd X.n (zpa X.n X.Wo r) (zpt X.n X.bo X.Wo r) g).toNat, by omega⟩
              refine lv_aload_n F.1 F.2.1 d_Mo_hops_130 rfl (lv_at hl21 5 rfl) ?_
              refine gf_Mo_23 F hW20 (by omega) mo d_Mo_hops_131 ?_
              refine q_bipush F d_Mo_hops_134 (by decide) (fun v22 hv22 => ?_)
              refine lv_iload_n F.1 F.2.1 d_Mo_hops_136 rfl (lv_at hl21 6 rfl) ?_
              refine q_imul F d_Mo_hops_137 (by rw [hv22]; omega) (fun v23 hv23 => ?_)
              rw [hv22] at hv23
              refine lv_aload_n F.1 F.2.1 d_Mo_hops_138 rfl (lv_at hl21 5 rfl) ?_
              refine lv_iload_n F.1 F.2.1 d_Mo_hops_139 rfl (lv_at hl21 7 rfl) ?_
              refine q_iconst F d_Mo_hops_140 (by decide) (fun v24 hv24 => ?_)
              refine q_calli hW20 (q_cV (As := [.int y, .int v24]) (rest := [.int v23, .ref (ad 473)]) F hW20 cs_Mo_142 hd_Mo_word rfl (by omega) mo (k_Mo_word l D τ A ad N w hb th n32 b32 s32 p32 mo X hn hB hMb y v24 g hy hg (by omega) (by omega)) rfl rfl ⟨by decide, by decide⟩ rfl hl21.1 rfl (Nat.le_of_ble_eq_true rfl) d_Mo_hops_141 ⟨Nat.le_refl _, Nat.le_refl _⟩) (fun v25 w25 H25 locs25 hp25 hW25 => ?_)
              obtain ⟨hq25, hp25⟩ := hp25
              replace hq25 := hq25.symm
              subst hq25
              unfold zlw at hp25
              rw [hrow] at hp25
              simp only [Int.toNat_natCast] at hp25
              have hww : v25.toInt = (W9 : Int) := by omega
              clear hp25
              refine q_iconst F d_Mo_hops_144 (by decide) (fun v26 hv26 => ?_)
              refine lv_aload_n F.1 F.2.1 d_Mo_hops_145 rfl (lv_at hl21 5 rfl) ?_
              refine lv_iload_n F.1 F.2.1 d_Mo_hops_146 rfl (lv_at hl21 4 rfl) ?_
              refine lv_iload_n F.1 F.2.1 d_Mo_hops_147 rfl (lv_at hl21 6 rfl) ?_
              refine q_calli hW25 (q_cV (As := [.int v5, .int x]) (rest := [.int v26, .int v25, .int v23, .ref (ad 473)]) F hW25 cs_Mo_136 hd_Mo_lights rfl (by omega) mo (k_Mo_lights l D τ A ad N w hb th n32 b32 s32 p32 mo X.n hn hm40 r hrm PA hPA (zpa X.n X.Wo r) (fun u9 hu9 => hPAf r u9 hrm hu9 hrk) (zrk X.n X.Wo r) (zpa_ok hZ.1 hall hrm) v5 hvr x a hx ha) rfl rfl ⟨by decide, by decide⟩ rfl hl21.1 rfl (Nat.le_of_ble_eq_true rfl) d_Mo_hops_148 ⟨Nat.le_refl _, Nat.le_refl _⟩) (fun v27 w27 H27 locs27 hp27 hW27 => ?_)
              obtain ⟨hq27, hp27⟩ := hp27
              replace hq27 := hq27.symm
              subst hq27
              rw [hk9] at hp27
              refine q_imul F d_Mo_hops_151 (by rw [hv26, hp27]; omega) (fun v28 hv28 => ?_)
              rw [hv26, hp27] at hv28
              refine q_ishr4 F W9 k9 hww (by omega) (by omega) (by omega) d_Mo_hops_152 (fun v29 hv29 => ?_)
              have hdv : W9 / 16 ^ k9 ≤ W9 := Nat.div_le_self _ _
              refine q_bipush F d_Mo_hops_153 (by decide) (fun v30 hv30 => ?_)
              refine q_iand15 F (W9 / 16 ^ k9) hv29 (by omega) (by omega) d_Mo_hops_155 (fun v31 hv31 => ?_)
              obtain ⟨p9, hp9, hp16⟩ : ∃ p9 : Nat, p9 = W9 / 16 ^ k9 % 16 ∧ p9 < 16 := ⟨_, rfl, Nat.mod_lt _ (by decide)⟩
              rw [← hp9] at hv31
              refine q_iadd F d_Mo_hops_156 (by omega) (fun v32 hv32 => ?_)
              refine q_iald F hW27 hGO (by omega) ((16 * a) + p9) (by omega) (by omega) d_Mo_hops_157 (fun v33 hv33 => ?_)
              rw [hGOf a p9 (by omega) (by omega)] at hv33
              exact q_iret F hr hlk hW27 ⟨rfl, by rw [zhop_light hne hnr hrow hin hbe hnb hk9 hW9, ← hp9]; exact hv33⟩ d_Mo_hops_158
            · refine lv_iload F.1 F.2.1 d_Mo_hops_112 (lv_at hl21 3 rfl) ?_
              refine lv_iload F.1 F.2.1 d_Mo_hops_114 (lv_at hl21 0 rfl) ?_
              refine lv_aload_n F.1 F.2.1 d_Mo_hops_116 rfl (lv_at hl21 5 rfl) ?_
              refine lv_iload_n F.1 F.2.1 d_Mo_hops_117 rfl (lv_at hl21 4 rfl) ?_
              refine lv_iload F.1 F.2.1 d_Mo_hops_118 (lv_at hl21 1 rfl) ?_
              refine q_calli hW20 (q_cV (As := [.int v5, .int v18]) (rest := [.int v20, .int v8]) F hW20 cs_Mo_121 hd_Mo_sizeOf rfl (by omega) mo (k_Mo_sizeOf l D τ A ad N w hb th n32 b32 s32 p32 mo X.n hn hm40 r hrm PA hPA (zpa X.n X.Wo r) (fun u9 hu9 => hPAf r u9 hrm hu9 hrk) (zrk X.n X.Wo r) (zpa_ok hZ.1 hall hrm) v5 hvr v18 b hp18 hbm) rfl rfl ⟨by decide, by decide⟩ rfl hl21.1 rfl (Nat.le_of_ble_eq_true rfl) d_Mo_hops_120 ⟨Nat.le_refl _, Nat.le_refl _⟩) (fun v34 w34 H34 locs34 hp34 hW34 => ?_)
              obtain ⟨hq34, hp34⟩ := hp34
              replace hq34 := hq34.symm
              subst hq34
              refine q_iadd F d_Mo_hops_123 (by omega) (fun v35 hv35 => ?_)
              refine q_icmp_ge (tgt := 130) F d_Mo_hops_124 (by decide) (fun c124 => ?_) (fun c124 => ?_)
              · have hnb : ¬ zI X.n (zpa X.n X.Wo r) b (zpl X.n (zpa X.n X.Wo r) g) := fun q => by have q1 := q.1; have q2 := q.2; omega
                obtain ⟨k9, hk9, hk5⟩ := zli_bd TT hm40 ha
                have hwb := zwd_bd TT hm40 hpt hg
                obtain ⟨W9, hW9⟩ : ∃ W9 : Nat, zwd X.n (zpa X.n X.Wo r) (zpt X.n X.bo X.Wo r) g = (W9 : Int) := ⟨(zwd X.n (zpa X.n X.Wo r) (zpt X.n X.bo X.Wo r) g).toNat, by omega⟩
                refine lv_aload_n F.1 F.2.1 d_Mo_hops_130 rfl (lv_at hl21 5 rfl) ?_
                refine gf_Mo_23 F hW34 (by omega) mo d_Mo_hops_131 ?_
                refine q_bipush F d_Mo_hops_134 (by decide) (fun v36 hv36 => ?_)
                refine lv_iload_n F.1 F.2.1 d_Mo_hops_136 rfl (lv_at hl21 6 rfl) ?_
                refine q_imul F d_Mo_hops_137 (by rw [hv36]; omega) (fun v37 hv37 => ?_)
                rw [hv36] at hv37
                refine lv_aload_n F.1 F.2.1 d_Mo_hops_138 rfl (lv_at hl21 5 rfl) ?_
                refine lv_iload_n F.1 F.2.1 d_Mo_hops_139 rfl (lv_at hl21 7 rfl) ?_
                refine q_iconst F d_Mo_hops_140 (by decide) (fun v38 hv38 => ?_)
                refine q_calli hW34 (q_cV (As := [.int y, .int v38]) (rest := [.int v37, .ref (ad 473)]) F hW34 cs_Mo_142 hd_Mo_word rfl (by omega) mo (k_Mo_word l D τ A ad N w hb th n32 b32 s32 p32 mo X hn hB hMb y v38 g hy hg (by omega) (by omega)) rfl rfl ⟨by decide, by decide⟩ rfl hl21.1 rfl (Nat.le_of_ble_eq_true rfl) d_Mo_hops_141 ⟨Nat.le_refl _, Nat.le_refl _⟩) (fun v39 w39 H39 locs39 hp39 hW39 => ?_)
                obtain ⟨hq39, hp39⟩ := hp39
                replace hq39 := hq39.symm
                subst hq39
                unfold zlw at hp39
                rw [hrow] at hp39
                simp only [Int.toNat_natCast] at hp39
                have hww : v39.toInt = (W9 : Int) := by omega
                clear hp39
                refine q_iconst F d_Mo_hops_144 (by decide) (fun v40 hv40 => ?_)
                refine lv_aload_n F.1 F.2.1 d_Mo_hops_145 rfl (lv_at hl21 5 rfl) ?_
                refine lv_iload_n F.1 F.2.1 d_Mo_hops_146 rfl (lv_at hl21 4 rfl) ?_
                refine lv_iload_n F.1 F.2.1 d_Mo_hops_147 rfl (lv_at hl21 6 rfl) ?_
                refine q_calli hW39 (q_cV (As := [.int v5, .int x]) (rest := [.int v40, .int v39, .int v37, .ref (ad 473)]) F hW39 cs_Mo_136 hd_Mo_lights rfl (by omega) mo (k_Mo_lights l D τ A ad N w hb th n32 b32 s32 p32 mo X.n hn hm40 r hrm PA hPA (zpa X.n X.Wo r) (fun u9 hu9 => hPAf r u9 hrm hu9 hrk) (zrk X.n X.Wo r) (zpa_ok hZ.1 hall hrm) v5 hvr x a hx ha) rfl rfl ⟨by decide, by decide⟩ rfl hl21.1 rfl (Nat.le_of_ble_eq_true rfl) d_Mo_hops_148 ⟨Nat.le_refl _, Nat.le_refl _⟩) (fun v41 w41 H41 locs41 hp41 hW41 => ?_)
                obtain ⟨hq41, hp41⟩ := hp41
                replace hq41 := hq41.symm
                subst hq41
                rw [hk9] at hp41
                refine q_imul F d_Mo_hops_151 (by rw [hv40, hp41]; omega) (fun v42 hv42 => ?_)
                rw [hv40, hp41] at hv42
                refine q_ishr4 F W9 k9 hww (by omega) (by omega) (by omega) d_Mo_hops_152 (fun v43 hv43 => ?_)
                have hdv : W9 / 16 ^ k9 ≤ W9 := Nat.div_le_self _ _
                refine q_bipush F d_Mo_hops_153 (by decide) (fun v44 hv44 => ?_)
                refine q_iand15 F (W9 / 16 ^ k9) hv43 (by omega) (by omega) d_Mo_hops_155 (fun v45 hv45 => ?_)
                obtain ⟨p9, hp9, hp16⟩ : ∃ p9 : Nat, p9 = W9 / 16 ^ k9 % 16 ∧ p9 < 16 := ⟨_, rfl, Nat.mod_lt _ (by decide)⟩
                rw [← hp9] at hv45
                refine q_iadd F d_Mo_hops_156 (by omega) (fun v46 hv46 => ?_)
                refine q_iald F hW41 hGO (by omega) ((16 * a) + p9) (by omega) (by omega) d_Mo_hops_157 (fun v47 hv47 => ?_)
                rw [hGOf a p9 (by omega) (by omega)] at hv47
                exact q_iret F hr hlk hW41 ⟨rfl, by rw [zhop_light hne hnr hrow hin hbe hnb hk9 hW9, ← hp9]; exact hv47⟩ d_Mo_hops_158
              · refine lv_iload F.1 F.2.1 d_Mo_hops_127 (lv_at hl21 1 rfl) ?_
                exact q_iret F hr hlk hW34 ⟨rfl, by rw [zhop_heavy hne hnr hrow hin hbe ⟨by omega, by omega⟩]; exact hp18⟩ d_Mo_hops_129
          · have hni : ¬ zI X.n (zpa X.n X.Wo r) a (zpl X.n (zpa X.n X.Wo r) g) := fun q => by have q1 := q.1; have q2 := q.2; omega
            have hPr := hPAf r a hrm ha hrk
            refine lv_aload_n F.1 F.2.1 d_Mo_hops_76 rfl (lv_at hl11 3 rfl) ?_
            refine gf_Mo_45 F hW16 (by omega) mo d_Mo_hops_77 ?_
            refine q_bipush F d_Mo_hops_80 (by decide) (fun v48 hv48 => ?_)
            refine lv_iload_n F.1 F.2.1 d_Mo_hops_82 rfl (lv_at hl11 2 rfl) ?_
            refine q_imul F d_Mo_hops_83 (by rw [hv48]; omega) (fun v49 hv49 => ?_)
            rw [hv48] at hv49
            refine lv_iload_n F.1 F.2.1 d_Mo_hops_84 rfl (lv_at hl11 4 rfl) ?_
            refine q_iadd F d_Mo_hops_85 (by omega) (fun v50 hv50 => ?_)
            refine q_iald F hW16 hPA (by omega) ((40 * r) + a) (by omega) (by omega) d_Mo_hops_86 (fun v51 hv51 => ?_)
            exact q_iret F hr hlk hW16 ⟨rfl, by rw [zhop_up hne hnr hrow hni, hv51]; exact hPr⟩ d_Mo_hops_87
      · have hz9 := zhop_row (m := X.n) (Wt := X.Wo) (mk := X.mk) (bh := X.bo) hne (Or.inr (qb_t hp3 (by omega)))
        refine lv_aload_n F.1 F.2.1 d_Mo_hops_25 rfl (lv_at hl 0 rfl) ?_
        refine lv_iload_n F.1 F.2.1 d_Mo_hops_26 rfl (lv_at hl 1 rfl) ?_
        refine lv_iload_n F.1 F.2.1 d_Mo_hops_27 rfl (lv_at hl 2 rfl) ?_
        refine q_calli hW3 (q_cV (As := [.int x, .int y]) (rest := []) F hW3 cs_Mo_106 hd_Mo_towards rfl (by omega) mo (k_Mo_towards l D τ A ad N w hb th n32 b32 s32 p32 mo X.n hn hm40 T hT (zd X.n X.Wo) hTf V hV X.Wo hVf hWb hdb x y a g hx hy ha hg) rfl rfl ⟨by decide, by decide⟩ rfl hl.1 rfl (Nat.le_of_ble_eq_true rfl) d_Mo_hops_28 ⟨Nat.le_refl _, Nat.le_refl _⟩) (fun v52 w52 H52 locs52 hp52 hW52 => ?_)
        obtain ⟨hq52, hp52⟩ := hp52
        replace hq52 := hq52.symm
        subst hq52
        exact q_iret F hr hlk hW52 ⟨rfl, by rw [hz9]; exact hp52⟩ d_Mo_hops_31
  · refine lv_iload_n F.1 F.2.1 d_Mo_hops_5 rfl (lv_at hl 1 rfl) ?_
    exact q_iret F hr hlk hW ⟨rfl, by rw [← (show a = g by omega), zhop_there]; exact hx⟩ d_Mo_hops_6
set_option maxHeartbeats 4000000 in
set_option maxRecDepth 100000 in
/-- built -/
theorem k_Mo_isBuilt (l : Launch) (D : va_G) (τ : Nat → ClassId) (A : Nat → Prop) (ad : Nat → Nat) (N : Nat) (w : Nat → va_E) (hb : 484 ≤ N) (th n32 b32 s32 p32 : Int32) (mo : w 469 = .inr (7, [.int th, .int n32, .ref (ad 470), .ref (ad 471), .ref (ad 472), .ref (ad 473), .ref (ad 474), .ref (ad 475), .int b32, .ref (ad 476), .ref (ad 477), .ref (ad 478), .ref (ad 479), .ref (ad 480), .int s32, .int p32, .ref (ad 481), .ref (ad 482), .ref (ad 483)])) (Bt : Prop) (hbb : qb Bt b32) : Met l y_Mo_isBuilt (qws y_Mo_isBuilt c_Mo_isBuilt 1 (some .boolean)) ({ frames := 0, cells := 0, slots := 0, locals := 0 }) (qPc D τ A ad N w [.ref (ad 469)]) (va_Qi (fun r1 w1 => qb Bt r1 ∧ (∃ t9 : Int32, w1 469 = .inr (7, [.int t9, .int n32, .ref (ad 470), .ref (ad 471), .ref (ad 472), .ref (ad 473), .ref (ad 474), .ref (ad 475), .int b32, .ref (ad 476), .ref (ad 477), .ref (ad 478), .ref (ad 479), .ref (ad 480), .int s32, .int p32, .ref (ad 481), .ref (ad 482), .ref (ad 483)]) ∧ ((Bt ∧ t9.toInt = 0) ∨ (¬ Bt ∧ t9.toInt = 1))) ∧ ∀ q, q ≠ 469 → w1 q = w q) (qB D τ A ad N) A) 0 0 A := by
  refine q_of (by decide) (Nat.le_of_ble_eq_true rfl) rfl ?_
  intro PP EE s MM below meth CC ls F hr hlk hnm hex hl hW
  have hl : lv_has ls 1 [(0, .ref (ad 469))] := hl
  refine lv_aload_n F.1 F.2.1 d_Mo_isBuilt_0 rfl (lv_at hl 0 rfl) ?_
  refine lv_aload_n F.1 F.2.1 d_Mo_isBuilt_1 rfl (lv_at hl 0 rfl) ?_
  refine gf_Mo_60 F hW (by omega) mo d_Mo_isBuilt_2 ?_
  refine q_if_eq (tgt := 12) F d_Mo_isBuilt_5 (by decide) (fun c5 => ?_) (fun c5 => ?_)
  · refine q_iconst F d_Mo_isBuilt_12 (by decide) (fun v1 hv1 => ?_)
    refine pf_Mo_57 F hW (by omega) mo d_Mo_isBuilt_13 (fun H2 locs2 w2 hW2 hI2 hfr2 => ?_)
    replace mo := hI2
    refine lv_aload_n F.1 F.2.1 d_Mo_isBuilt_16 rfl (lv_at hl 0 rfl) ?_
    refine gf_Mo_60 F hW2 (by omega) mo d_Mo_isBuilt_17 ?_
    exact q_zret F hr hlk hW2 (qb_01 hbb) ⟨hbb, ⟨_, mo, Or.inr ⟨qb_f hbb (by omega), hv1⟩⟩, hfr2⟩ d_Mo_isBuilt_20
  · refine q_iconst F d_Mo_isBuilt_8 (by decide) (fun v3 hv3 => ?_)
    refine lv_goto (tgt := 13) F.1 F.2.1 d_Mo_isBuilt_9 (by decide) ?_
    refine pf_Mo_57 F hW (by omega) mo d_Mo_isBuilt_13 (fun H4 locs4 w4 hW4 hI4 hfr4 => ?_)
    replace mo := hI4
    refine lv_aload_n F.1 F.2.1 d_Mo_isBuilt_16 rfl (lv_at hl 0 rfl) ?_
    refine gf_Mo_60 F hW4 (by omega) mo d_Mo_isBuilt_17 ?_
    exact q_zret F hr hlk hW4 (qb_01 hbb) ⟨hbb, ⟨_, mo, Or.inl ⟨qb_t hbb (by omega), hv3⟩⟩, hfr4⟩ d_Mo_isBuilt_20
set_option maxHeartbeats 4000000 in
set_option maxRecDepth 100000 in
/-- a packet -/
theorem k_Mo_isPacket (l : Launch) (D : va_G) (τ : Nat → ClassId) (A : Nat → Prop) (ad : Nat → Nat) (N : Nat) (w : Nat → va_E) (hb : 484 ≤ N) (th n32 b32 s32 p32 : Int32) (mo : w 469 = .inr (7, [.int th, .int n32, .ref (ad 470), .ref (ad 471), .ref (ad 472), .ref (ad 473), .ref (ad 474), .ref (ad 475), .int b32, .ref (ad 476), .ref (ad 477), .ref (ad 478), .ref (ad 479), .ref (ad 480), .int s32, .int p32, .ref (ad 481), .ref (ad 482), .ref (ad 483)])) (ct : Nat) (hct : p32.toInt = ct) (x : Int32) : Met l y_Mo_isPacket (qws y_Mo_isPacket c_Mo_isPacket 2 (some .boolean)) ({ frames := 0, cells := 0, slots := 0, locals := 0 }) (qPc D τ A ad N w [.ref (ad 469), .int x]) (va_Qi (fun r1 w1 => qb (0 ≤ x.toInt ∧ x.toInt < ct) r1 ∧ (∃ t9 : Int32, w1 469 = .inr (7, [.int t9, .int n32, .ref (ad 470), .ref (ad 471), .ref (ad 472), .ref (ad 473), .ref (ad 474), .ref (ad 475), .int b32, .ref (ad 476), .ref (ad 477), .ref (ad 478), .ref (ad 479), .ref (ad 480), .int s32, .int p32, .ref (ad 481), .ref (ad 482), .ref (ad 483)]) ∧ (((0 ≤ x.toInt ∧ x.toInt < ct) ∧ t9.toInt = 0) ∨ (¬ (0 ≤ x.toInt ∧ x.toInt < ct) ∧ t9.toInt = 1))) ∧ ∀ q, q ≠ 469 → w1 q = w q) (qB D τ A ad N) A) 0 0 A := by
  refine q_of (by decide) (Nat.le_of_ble_eq_true rfl) rfl ?_
  intro PP EE s MM below meth CC ls F hr hlk hnm hex hl hW
  have hl : lv_has ls 2 [(0, .ref (ad 469)), (1, .int x)] := hl
  refine lv_aload_n F.1 F.2.1 d_Mo_isPacket_0 rfl (lv_at hl 0 rfl) ?_
  refine lv_iload_n F.1 F.2.1 d_Mo_isPacket_1 rfl (lv_at hl 1 rfl) ?_
  refine q_if_lt (tgt := 13) F d_Mo_isPacket_2 (by decide) (fun c2 => ?_) (fun c2 => ?_)
  · refine q_iconst F d_Mo_isPacket_13 (by decide) (fun v1 hv1 => ?_)
    refine lv_goto (tgt := 18) F.1 F.2.1 d_Mo_isPacket_14 (by decide) ?_
    refine pf_Mo_57 F hW (by omega) mo d_Mo_isPacket_18 (fun H2 locs2 w2 hW2 hI2 hfr2 => ?_)
    replace mo := hI2
    refine lv_aload_n F.1 F.2.1 d_Mo_isPacket_21 rfl (lv_at hl 0 rfl) ?_
    refine gf_Mo_57 F hW2 (by omega) mo d_Mo_isPacket_22 ?_
    refine q_if_ne (tgt := 32) F d_Mo_isPacket_25 (by decide) (fun c3 => ?_) (fun c3 => ?_)
    · refine q_iconst F d_Mo_isPacket_32 (by decide) (fun v4 hv4 => ?_)
      have hb1 := qb_0 (P := 0 ≤ x.toInt ∧ x.toInt < ct) hv4 (by omega)
      exact q_zret F hr hlk hW2 (qb_01 hb1) ⟨hb1, ⟨_, mo, Or.inr ⟨by omega, hv1⟩⟩, hfr2⟩ d_Mo_isPacket_33
    · exact absurd c3 (by omega)
  · refine lv_iload_n F.1 F.2.1 d_Mo_isPacket_5 rfl (lv_at hl 1 rfl) ?_
    refine lv_aload_n F.1 F.2.1 d_Mo_isPacket_6 rfl (lv_at hl 0 rfl) ?_
    refine gf_Mo_67 F hW (by omega) mo d_Mo_isPacket_7 ?_
    refine q_icmp_lt (tgt := 17) F d_Mo_isPacket_10 (by decide) (fun c10 => ?_) (fun c10 => ?_)
    · refine q_iconst F d_Mo_isPacket_17 (by decide) (fun v5 hv5 => ?_)
      refine pf_Mo_57 F hW (by omega) mo d_Mo_isPacket_18 (fun H6 locs6 w6 hW6 hI6 hfr6 => ?_)
      replace mo := hI6
      refine lv_aload_n F.1 F.2.1 d_Mo_isPacket_21 rfl (lv_at hl 0 rfl) ?_
      refine gf_Mo_57 F hW6 (by omega) mo d_Mo_isPacket_22 ?_
      refine q_if_ne (tgt := 32) F d_Mo_isPacket_25 (by decide) (fun c7 => ?_) (fun c7 => ?_)
      · exact absurd c7 (by omega)
      · refine q_iconst F d_Mo_isPacket_28 (by decide) (fun v8 hv8 => ?_)
        refine lv_goto (tgt := 33) F.1 F.2.1 d_Mo_isPacket_29 (by decide) ?_
        have hb1 := qb_1 (P := 0 ≤ x.toInt ∧ x.toInt < ct) hv8 (by omega)
        exact q_zret F hr hlk hW6 (qb_01 hb1) ⟨hb1, ⟨_, mo, Or.inl ⟨by omega, hv5⟩⟩, hfr6⟩ d_Mo_isPacket_33
    · refine q_iconst F d_Mo_isPacket_13 (by decide) (fun v9 hv9 => ?_)
      refine lv_goto (tgt := 18) F.1 F.2.1 d_Mo_isPacket_14 (by decide) ?_
      refine pf_Mo_57 F hW (by omega) mo d_Mo_isPacket_18 (fun H10 locs10 w10 hW10 hI10 hfr10 => ?_)
      replace mo := hI10
      refine lv_aload_n F.1 F.2.1 d_Mo_isPacket_21 rfl (lv_at hl 0 rfl) ?_
      refine gf_Mo_57 F hW10 (by omega) mo d_Mo_isPacket_22 ?_
      refine q_if_ne (tgt := 32) F d_Mo_isPacket_25 (by decide) (fun c11 => ?_) (fun c11 => ?_)
      · refine q_iconst F d_Mo_isPacket_32 (by decide) (fun v12 hv12 => ?_)
        have hb1 := qb_0 (P := 0 ≤ x.toInt ∧ x.toInt < ct) hv12 (by omega)
        exact q_zret F hr hlk hW10 (qb_01 hb1) ⟨hb1, ⟨_, mo, Or.inr ⟨by omega, hv9⟩⟩, hfr10⟩ d_Mo_isPacket_33
      · exact absurd c11 (by omega)
