set_option maxHeartbeats 4000000 in
set_option maxRecDepth 100000 in
/-- landmark -/
theorem k_Mo_landmark (l : Launch) (D : va_G) (τ : Nat → ClassId) (A : Nat → Prop) (ad : Nat → Nat) (N : Nat) (w : Nat → va_E) (hb : 484 ≤ N) (X : zSt) (Bd : Nat) (t0 : Int) (hX : qMo τ ad w X t0) (hO : zOK X Bd) (hB9 : Bd ≤ 1000) (x : Int32) : Met l y_Mo_landmark (qws y_Mo_landmark c_Mo_landmark 4 (some .int)) ({ frames := 8, cells := 0, slots := 0, locals := 180 }) (qPc D τ A ad N w [.ref (ad 469), .int x]) (va_Qi (fun r1 w1 => ∃ k X9, zR_landmark X x.toInt k r1.toInt X9 ∧ qMo τ ad w1 X9 k ∧ (∀ q, (q < 469 ∨ 484 ≤ q) → w1 q = w q)) (qB D τ A ad N) A) 0 0 A := by
  refine q_of (by decide) (Nat.le_of_ble_eq_true rfl) rfl ?_
  intro PP EE s MM below meth CC ls F hr hlk hnm hex hl hW
  have hl : lv_has ls 4 [(0, .ref (ad 469)), (1, .int x)] := hl
  obtain ⟨⟨th, n32, b32, s32, p32, mo, ht, hn, hbb, hs, hpp⟩, hR⟩ := id hX
  obtain ⟨⟨GW, hGW, hGWf⟩, ⟨GP, hGP, hGPf⟩, hMs, hMb, hPl, hGo, hPd⟩ := id hR
  obtain ⟨hm1, hm40, hZ, hBt, hpk16, hpkb, hpk9, hsn⟩ := id hO
  refine lv_aload_n F.1 F.2.1 d_Mo_landmark_0 rfl (lv_at hl 0 rfl) ?_
  refine q_calli hW (q_cV (As := []) (rest := []) F hW cs_Mo_113 hd_Mo_isBuilt rfl (by omega) mo (k_Mo_isBuilt l D τ A ad N w hb th n32 b32 s32 p32 mo X.bt hbb) rfl rfl ⟨by decide, by decide⟩ rfl hl.1 rfl (Nat.le_of_ble_eq_true rfl) d_Mo_landmark_1 ⟨Nat.le_refl _, Nat.le_refl _⟩) (fun v1 w1 H1 locs1 hp1 hW1 => ?_)
  obtain ⟨hqb, ⟨t1, mo1, ht1⟩, hfr1⟩ := hp1
  refine q_if_ne (tgt := 9) F d_Mo_landmark_4 (by decide) (fun c4 => ?_) (fun c4 => ?_)
  · have hbt := qb_t hqb (by omega)
    have hB := hBt hbt
    have hf0 := hfr1
    replace hR := hR.keep (fun q _ _ => hfr1 q (by omega))
    replace hMb := (hMb hbt).keep (fun q _ _ _ => hfr1 q (by omega))
    replace hPl := hPl.keep (hfr1 _ (by omega))
    replace hGo := hGo.keep (hfr1 _ (by omega))
    replace hPd := hPd.keep (hfr1 _ (by omega))
    clear hm1 hm40 hZ
    obtain ⟨hm1, hm40, hZ, hall, hmk1, hmk2⟩ := id hB
    obtain ⟨⟨V, hV, hVf⟩, ⟨GO, hGO, hGOf⟩, ⟨T, hT, hTf⟩, ⟨B1, hM, hMi⟩, ⟨O, hO, hOf⟩, PA, hPA, hPAf⟩ := id hMb
    have hdb : ∀ a b, a < X.n → b < X.n → 0 ≤ zd X.n X.Wo a b ∧ zd X.n X.Wo a b ≤ 1000000 := fun a b ha hb9 => zd_bd hZ.1 ha hb9
    have hWb : ∀ a b, a < X.n → b < X.n → 0 ≤ X.Wo a b ∧ X.Wo a b ≤ 1000 := fun a b ha hb9 => ⟨(hZ.1.1 a b ha hb9).1, (hZ.1.1 a b ha hb9).2.1⟩
    have hmk3 : ∃ v, v < X.n ∧ X.mk v := hmk2.imp (fun v h => ⟨hmk1 v h, h⟩)
    have hcn : zc B1 X.n = zc X.mk X.n := zc_congr hMi
    refine lv_iload_n F.1 F.2.1 d_Mo_landmark_9 rfl (lv_at hl 1 rfl) ?_
    refine lv_istore_n (lv' := [(2, .int x), (0, .ref (ad 469)), (1, .int x)]) F.1 F.2.1 d_Mo_landmark_10 rfl hl (by decide) rfl (fun ls2 hl2 => ?_)
    clear hl
    refine q_iconst F d_Mo_landmark_11 (by decide) (fun v3 hv3 => ?_)
    refine lv_istore_n (lv' := [(3, .int v3), (2, .int x), (0, .ref (ad 469)), (1, .int x)]) F.1 F.2.1 d_Mo_landmark_12 rfl hl2 (by decide) rfl (fun ls4 hl4 => ?_)
    clear hl2
    obtain ⟨ch, hch⟩ : ∃ z : Int32, z = x := ⟨_, rfl⟩
    replace hl4 : lv_has ls4 4 [(3, .int v3), (2, .int ch), (0, .ref (ad 469)), (1, .int x)] := by rw [hch]; exact hl4
    have hxr := q_rng x
    obtain ⟨i, hi0⟩ : ∃ i : Nat, i = 0 := ⟨_, rfl⟩
    have hiv : v3.toInt = (i : Int) := by omega
    have hib : i ≤ X.n := by omega
    have hWp := hW1
    have hkv : ch.toInt = x.toInt - (zc B1 i : Int) := by rw [hch, hi0]; show _ = _ - ((0 : Nat) : Int); omega
    have hk0 : i = 0 ∨ (zc B1 i : Int) ≤ x.toInt := Or.inl hi0
    clear hi0 hv3 hch
    generalize H1 = Hp at hWp ⊢
    generalize locs1 = locsp at hWp ⊢
    obtain ⟨f, hf⟩ : ∃ f : Nat, X.n + 1 ≤ i + f := ⟨X.n + 1, by omega⟩
    induction f generalizing i v3 ls4 Hp locsp ch with
    | zero => exact absurd hf (by omega)
    | succ f ihi =>
      refine lv_iload_n F.1 F.2.1 d_Mo_landmark_13 rfl (lv_at hl4 0 rfl) ?_
      refine lv_aload_n F.1 F.2.1 d_Mo_landmark_14 rfl (lv_at hl4 2 rfl) ?_
      refine gf_Mo_7 F hWp (by omega) mo1 d_Mo_landmark_15 ?_
      refine q_icmp_ge (tgt := 52) F d_Mo_landmark_18 (by decide) (fun c18 => ?_) (fun c18 => ?_)
      · refine lv_aload_n F.1 F.2.1 d_Mo_landmark_52 rfl (lv_at hl4 2 rfl) ?_
        refine q_iconst F d_Mo_landmark_53 (by decide) (fun v5 hv5 => ?_)
        refine pf_Mo_57 F hWp (by omega) mo1 d_Mo_landmark_54 (fun H6 locs6 w6 hW6 hI6 hfr6 => ?_)
        replace mo1 := hI6
        refine q_iconst F d_Mo_landmark_57 (by decide) (fun v7 hv7 => ?_)
        exact q_iret F hr hlk hW6 ⟨2, X, ⟨rfl, Or.inr ⟨hbt, Or.inl ⟨rfl, by rw [← hcn, ← (show i = X.n by omega)]; omega⟩⟩⟩, ⟨⟨_, n32, b32, s32, p32, mo1, hv5, hn, hbb, hs, hpp⟩, hR.keep (fun q _ _ => hfr6 q (by omega))⟩, fun q hq => (hfr6 q (by omega)).trans (hf0 q (by omega))⟩ d_Mo_landmark_58
      · refine lv_iload_n F.1 F.2.1 d_Mo_landmark_21 rfl (lv_at hl4 3 rfl) ?_
        refine q_if_lt (tgt := 52) F d_Mo_landmark_22 (by decide) (fun c22 => ?_) (fun c22 => ?_)
        · refine lv_aload_n F.1 F.2.1 d_Mo_landmark_52 rfl (lv_at hl4 2 rfl) ?_
          refine q_iconst F d_Mo_landmark_53 (by decide) (fun v8 hv8 => ?_)
          refine pf_Mo_57 F hWp (by omega) mo1 d_Mo_landmark_54 (fun H9 locs9 w9 hW9 hI9 hfr9 => ?_)
          replace mo1 := hI9
          refine q_iconst F d_Mo_landmark_57 (by decide) (fun v10 hv10 => ?_)
          exact q_iret F hr hlk hW9 ⟨2, X, ⟨rfl, Or.inr ⟨hbt, Or.inl ⟨rfl, by omega⟩⟩⟩, ⟨⟨_, n32, b32, s32, p32, mo1, hv8, hn, hbb, hs, hpp⟩, hR.keep (fun q _ _ => hfr9 q (by omega))⟩, fun q hq => (hfr9 q (by omega)).trans (hf0 q (by omega))⟩ d_Mo_landmark_58
        · have hzl := zc_le B1 i
          refine lv_aload_n F.1 F.2.1 d_Mo_landmark_25 rfl (lv_at hl4 2 rfl) ?_
          refine gf_Mo_32 F hWp (by omega) mo1 d_Mo_landmark_26 ?_
          refine lv_iload_n F.1 F.2.1 d_Mo_landmark_29 rfl (lv_at hl4 0 rfl) ?_
          refine q_zald F hWp hM (by omega) i (by omega) (by omega) d_Mo_landmark_30 (fun v11 hv11 => ?_)
          refine q_if_ne (tgt := 37) F d_Mo_landmark_31 (by decide) (fun c31 => ?_) (fun c31 => ?_)
          · have hbi : B1 i := qb_t hv11 (by omega)
            have hzt := zc_t hbi
            have hzu := zc_up (P := B1) (show i + 1 ≤ X.n by omega)
            refine lv_iload_n F.1 F.2.1 d_Mo_landmark_37 rfl (lv_at hl4 1 rfl) ?_
            refine q_if_ne (tgt := 43) F d_Mo_landmark_38 (by decide) (fun c38 => ?_) (fun c38 => ?_)
            · refine q_iinc (lv' := fun v12 => [(2, .int v12), (3, .int v3), (0, .ref (ad 469)), (1, .int x)]) F d_Mo_landmark_43 hl4 (k := 1) rfl (by decide) (by omega) (by decide) (fun _ => rfl) (fun v12 lsv12 hv12 hlv12 => ?_)
              clear hl4
              refine q_iinc (lv' := fun v13 => [(3, .int v13), (2, .int v12), (0, .ref (ad 469)), (1, .int x)]) F d_Mo_landmark_46 hlv12 (k := 1) rfl (by decide) (by omega) (by decide) (fun _ => rfl) (fun v13 lsv13 hv13 hlv13 => ?_)
              clear hlv12
              refine lv_goto (tgt := 13) F.1 F.2.1 d_Mo_landmark_49 (by decide) ?_
              exact ihi (i := i + 1) (v3 := v13) (ls4 := lsv13) (Hp := Hp) (locsp := locsp) (ch := v12) (hiv := by omega) (hib := by omega) (hWp := hWp) (hkv := by rw [hzt]; omega) (hk0 := Or.inr (by rw [hzt]; omega)) (hf := by omega) (hl4 := (lv_sub hlv13 [0, 1, 2, 3] rfl))
            · have hzf := zlm_found (P := B1) (n := X.n) (x := x.toInt) (show i < X.n by omega) hbi (by omega)
              have hcg : zf (fun v => B1 v ∧ (zc B1 v : Int) = x.toInt) X.n = zf (fun v => X.mk v ∧ (zc X.mk v : Int) = x.toInt) X.n := zf_congr (fun v hv => by rw [hMi v hv, zc_congr (fun u hu => hMi u (Nat.lt_trans hu hv))])
              have ht0 : t1.toInt = 0 := by rcases ht1 with z | z; exact z.2; exact absurd hbt z.1
              refine lv_iload_n F.1 F.2.1 d_Mo_landmark_41 rfl (lv_at hl4 0 rfl) ?_
              exact q_iret F hr hlk hWp ⟨0, X, ⟨rfl, Or.inr ⟨hbt, Or.inr ⟨rfl, by rw [← hcn]; omega, by rw [hiv, hzf, hcg]⟩⟩⟩, ⟨⟨_, n32, b32, s32, p32, mo1, ht0, hn, hbb, hs, hpp⟩, hR⟩, fun q hq => hf0 q (by omega)⟩ d_Mo_landmark_42
          · have hzf := zc_f (qb_f hv11 (by omega))
            refine lv_goto (tgt := 46) F.1 F.2.1 d_Mo_landmark_34 (by decide) ?_
            refine q_iinc (lv' := fun v14 => [(3, .int v14), (2, .int ch), (0, .ref (ad 469)), (1, .int x)]) F d_Mo_landmark_46 hl4 (k := 0) rfl (by decide) (by omega) (by decide) (fun _ => rfl) (fun v14 lsv14 hv14 hlv14 => ?_)
            clear hl4
            refine lv_goto (tgt := 13) F.1 F.2.1 d_Mo_landmark_49 (by decide) ?_
            exact ihi (i := i + 1) (v3 := v14) (ls4 := lsv14) (Hp := Hp) (locsp := locsp) (ch := ch) (hiv := by omega) (hib := by omega) (hWp := hWp) (hkv := by rw [hzf]; exact hkv) (hk0 := by rw [hzf]; exact Or.inr (by omega)) (hf := by omega) (hl4 := (lv_sub hlv14 [0, 1, 2, 3] rfl))
  · have hnb := qb_f hqb (by omega)
    have ht2 : t1.toInt = 1 := by rcases ht1 with z | z; exact absurd z.1 hnb; exact z.2
    refine q_iconst F d_Mo_landmark_7 (by decide) (fun v15 hv15 => ?_)
    exact q_iret F hr hlk hW1 ⟨1, X, ⟨rfl, Or.inl ⟨rfl, hnb⟩⟩, ⟨⟨_, n32, b32, s32, p32, mo1, by omega, hn, hbb, hs, hpp⟩, hR.keep (fun q _ _ => hfr1 q (by omega))⟩, fun q hq => hfr1 q (by omega)⟩ d_Mo_landmark_8
set_option maxHeartbeats 4000000 in
set_option maxRecDepth 100000 in
/-- table -/
theorem k_Mo_table (l : Launch) (D : va_G) (τ : Nat → ClassId) (A : Nat → Prop) (ad : Nat → Nat) (N : Nat) (w : Nat → va_E) (hb : 484 ≤ N) (X : zSt) (Bd : Nat) (t0 : Int) (hX : qMo τ ad w X t0) (hO : zOK X Bd) (hB9 : Bd ≤ 1000) (x y : Int32) : Met l y_Mo_table (qws y_Mo_table c_Mo_table 3 (some .int)) ({ frames := 8, cells := 0, slots := 0, locals := 180 }) (qPc D τ A ad N w [.ref (ad 469), .int x, .int y]) (va_Qi (fun r1 w1 => ∃ k X9, zR_table X x.toInt y.toInt k r1.toInt X9 ∧ qMo τ ad w1 X9 k ∧ (∀ q, (q < 469 ∨ 484 ≤ q) → w1 q = w q)) (qB D τ A ad N) A) 0 0 A := by
  refine q_of (by decide) (Nat.le_of_ble_eq_true rfl) rfl ?_
  intro PP EE s MM below meth CC ls F hr hlk hnm hex hl hW
  have hl : lv_has ls 3 [(0, .ref (ad 469)), (1, .int x), (2, .int y)] := hl
  obtain ⟨⟨th, n32, b32, s32, p32, mo, ht, hn, hbb, hs, hpp⟩, hR⟩ := id hX
  obtain ⟨⟨GW, hGW, hGWf⟩, ⟨GP, hGP, hGPf⟩, hMs, hMb, hPl, hGo, hPd⟩ := id hR
  obtain ⟨hm1, hm40, hZ, hBt, hpk16, hpkb, hpk9, hsn⟩ := id hO
  refine lv_aload_n F.1 F.2.1 d_Mo_table_0 rfl (lv_at hl 0 rfl) ?_
  refine q_calli hW (q_cV (As := []) (rest := []) F hW cs_Mo_113 hd_Mo_isBuilt rfl (by omega) mo (k_Mo_isBuilt l D τ A ad N w hb th n32 b32 s32 p32 mo X.bt hbb) rfl rfl ⟨by decide, by decide⟩ rfl hl.1 rfl (Nat.le_of_ble_eq_true rfl) d_Mo_table_1 ⟨Nat.le_refl _, Nat.le_refl _⟩) (fun v1 w1 H1 locs1 hp1 hW1 => ?_)
  obtain ⟨hqb, ⟨t1, mo1, ht1⟩, hfr1⟩ := hp1
  refine q_if_ne (tgt := 9) F d_Mo_table_4 (by decide) (fun c4 => ?_) (fun c4 => ?_)
  · have hbt := qb_t hqb (by omega)
    have hB := hBt hbt
    have hf0 := hfr1
    replace hR := hR.keep (fun q _ _ => hfr1 q (by omega))
    replace hMb := (hMb hbt).keep (fun q _ _ _ => hfr1 q (by omega))
    replace hPl := hPl.keep (hfr1 _ (by omega))
    replace hGo := hGo.keep (hfr1 _ (by omega))
    replace hPd := hPd.keep (hfr1 _ (by omega))
    refine lv_aload_n F.1 F.2.1 d_Mo_table_9 rfl (lv_at hl 0 rfl) ?_
    refine lv_aload_n F.1 F.2.1 d_Mo_table_10 rfl (lv_at hl 0 rfl) ?_
    refine lv_iload_n F.1 F.2.1 d_Mo_table_11 rfl (lv_at hl 1 rfl) ?_
    refine q_calli hW1 (q_cV (As := [.int x]) (rest := [.ref (ad 469)]) F hW1 cs_Mo_70 hd_Mo_isNode rfl (by omega) mo1 (k_Mo_isNode l D τ A ad N w1 hb t1 n32 b32 s32 p32 mo1 X.n hn hm40 x) rfl rfl ⟨by decide, by decide⟩ rfl hl.1 rfl (Nat.le_of_ble_eq_true rfl) d_Mo_table_12 ⟨Nat.le_refl _, Nat.le_refl _⟩) (fun v2 w2 H2 locs2 hp2 hW2 => ?_)
    obtain ⟨hq2, hp2⟩ := hp2
    replace hq2 := hq2.symm
    subst hq2
    refine q_if_eq (tgt := 27) F d_Mo_table_15 (by decide) (fun c15 => ?_) (fun c15 => ?_)
    · refine q_iconst F d_Mo_table_27 (by decide) (fun v3 hv3 => ?_)
      refine lv_goto (tgt := 32) F.1 F.2.1 d_Mo_table_28 (by decide) ?_
      refine pf_Mo_57 F hW2 (by omega) mo1 d_Mo_table_32 (fun H4 locs4 w4 hW4 hI4 hfr4 => ?_)
      replace mo1 := hI4
      refine lv_aload_n F.1 F.2.1 d_Mo_table_35 rfl (lv_at hl 0 rfl) ?_
      refine gf_Mo_57 F hW4 (by omega) mo1 d_Mo_table_36 ?_
      refine q_if_eq (tgt := 44) F d_Mo_table_39 (by decide) (fun c5 => ?_) (fun c5 => ?_)
      · exact absurd c5 (by omega)
      · refine q_iconst F d_Mo_table_42 (by decide) (fun v6 hv6 => ?_)
        exact q_iret F hr hlk hW4 ⟨2, X, ⟨rfl, Or.inr ⟨hbt, Or.inl ⟨rfl, fun q => qb_f hp2 (by omega) q.1⟩⟩⟩, ⟨⟨_, n32, b32, s32, p32, mo1, hv3, hn, hbb, hs, hpp⟩, hR.keep (fun q _ _ => hfr4 q (by omega))⟩, fun q hq => (hfr4 q (by omega)).trans (hf0 q (by omega))⟩ d_Mo_table_43
    · have hx1 := qb_t hp2 (by omega)
      refine lv_iload_n F.1 F.2.1 d_Mo_table_18 rfl (lv_at hl 2 rfl) ?_
      refine q_if_lt (tgt := 27) F d_Mo_table_19 (by decide) (fun c19 => ?_) (fun c19 => ?_)
      · refine q_iconst F d_Mo_table_27 (by decide) (fun v7 hv7 => ?_)
        refine lv_goto (tgt := 32) F.1 F.2.1 d_Mo_table_28 (by decide) ?_
        refine pf_Mo_57 F hW2 (by omega) mo1 d_Mo_table_32 (fun H8 locs8 w8 hW8 hI8 hfr8 => ?_)
        replace mo1 := hI8
        refine lv_aload_n F.1 F.2.1 d_Mo_table_35 rfl (lv_at hl 0 rfl) ?_
        refine gf_Mo_57 F hW8 (by omega) mo1 d_Mo_table_36 ?_
        refine q_if_eq (tgt := 44) F d_Mo_table_39 (by decide) (fun c9 => ?_) (fun c9 => ?_)
        · exact absurd c9 (by omega)
        · refine q_iconst F d_Mo_table_42 (by decide) (fun v10 hv10 => ?_)
          exact q_iret F hr hlk hW8 ⟨2, X, ⟨rfl, Or.inr ⟨hbt, Or.inl ⟨rfl, by omega⟩⟩⟩, ⟨⟨_, n32, b32, s32, p32, mo1, hv7, hn, hbb, hs, hpp⟩, hR.keep (fun q _ _ => hfr8 q (by omega))⟩, fun q hq => (hfr8 q (by omega)).trans (hf0 q (by omega))⟩ d_Mo_table_43
      · refine lv_iload_n F.1 F.2.1 d_Mo_table_22 rfl (lv_at hl 2 rfl) ?_
        refine q_iconst F d_Mo_table_23 (by decide) (fun v11 hv11 => ?_)
        refine q_icmp_le (tgt := 31) F d_Mo_table_24 (by decide) (fun c24 => ?_) (fun c24 => ?_)
        · refine q_iconst F d_Mo_table_31 (by decide) (fun v12 hv12 => ?_)
          refine pf_Mo_57 F hW2 (by omega) mo1 d_Mo_table_32 (fun H13 locs13 w13 hW13 hI13 hfr13 => ?_)
          replace mo1 := hI13
          refine lv_aload_n F.1 F.2.1 d_Mo_table_35 rfl (lv_at hl 0 rfl) ?_
          refine gf_Mo_57 F hW13 (by omega) mo1 d_Mo_table_36 ?_
          refine q_if_eq (tgt := 44) F d_Mo_table_39 (by decide) (fun c14 => ?_) (fun c14 => ?_)
          · replace hR := hR.keep (fun q _ _ => hfr13 q (by omega))
            replace hMb := hMb.keep (fun q _ _ _ => hfr13 q (by omega))
            replace hf0 : ∀ q, q ≠ 469 → w13 q = w q := fun q hq => (hfr13 q hq).trans (hf0 q hq)
            replace hPl := hPl.keep (hfr13 _ (by omega))
            replace hGo := hGo.keep (hfr13 _ (by omega))
            replace hPd := hPd.keep (hfr13 _ (by omega))
            obtain ⟨a, hxa⟩ : ∃ a : Nat, x.toInt = (a : Int) := ⟨x.toInt.toNat, by omega⟩
            clear hm1 hm40 hZ
            obtain ⟨hm1, hm40, hZ, hall, hmk1, hmk2⟩ := id hB
            obtain ⟨⟨V, hV, hVf⟩, ⟨GO, hGO, hGOf⟩, ⟨T, hT, hTf⟩, ⟨B1, hM, hMi⟩, ⟨O, hO, hOf⟩, PA, hPA, hPAf⟩ := id hMb
            have hdb : ∀ a b, a < X.n → b < X.n → 0 ≤ zd X.n X.Wo a b ∧ zd X.n X.Wo a b ≤ 1000000 := fun a b ha hb9 => zd_bd hZ.1 ha hb9
            have hWb : ∀ a b, a < X.n → b < X.n → 0 ≤ X.Wo a b ∧ X.Wo a b ≤ 1000 := fun a b ha hb9 => ⟨(hZ.1.1 a b ha hb9).1, (hZ.1.1 a b ha hb9).2.1⟩
            have hmk3 : ∃ v, v < X.n ∧ X.mk v := hmk2.imp (fun v h => ⟨hmk1 v h, h⟩)
            refine lv_iload_n F.1 F.2.1 d_Mo_table_44 rfl (lv_at hl 2 rfl) ?_
            refine q_iconst F d_Mo_table_45 (by decide) (fun v15 hv15 => ?_)
            refine q_icmp_ne (tgt := 58) F d_Mo_table_46 (by decide) (fun c46 => ?_) (fun c46 => ?_)
            · refine lv_aload_n F.1 F.2.1 d_Mo_table_58 rfl (lv_at hl 0 rfl) ?_
              refine lv_iload_n F.1 F.2.1 d_Mo_table_59 rfl (lv_at hl 1 rfl) ?_
              refine q_calli hW13 (q_cV (As := [.int x]) (rest := []) F hW13 cs_Mo_103 hd_Mo_cluster rfl (by omega) mo1 (k_Mo_cluster l D τ A ad N w13 hb v12 n32 b32 s32 p32 mo1 X.n hn hm40 T hT (zd X.n X.Wo) hTf O hO X.mk hOf hmk3 x a hxa (by omega)) rfl rfl ⟨by decide, by decide⟩ rfl hl.1 rfl (Nat.le_of_ble_eq_true rfl) d_Mo_table_60 ⟨Nat.le_refl _, Nat.le_refl _⟩) (fun v16 w16 H16 locs16 hp16 hW16 => ?_)
              obtain ⟨hq16, hp16⟩ := hp16
              replace hq16 := hq16.symm
              subst hq16
              have hc2 : zcw X.n (zd X.n X.Wo) X.mk a ≤ X.n := zc_le _ X.n
              refine lv_iload_n F.1 F.2.1 d_Mo_table_63 rfl (lv_at hl 2 rfl) ?_
              refine q_if_ne (tgt := 74) F d_Mo_table_64 (by decide) (fun c64 => ?_) (fun c64 => ?_)
              · refine q_iconst F d_Mo_table_74 (by decide) (fun v17 hv17 => ?_)
                refine q_iadd F d_Mo_table_75 (by omega) (fun v18 hv18 => ?_)
                exact q_iret F hr hlk hW16 ⟨0, X, by rw [hxa]; exact ⟨rfl, Or.inr ⟨hbt, Or.inr ⟨rfl, ⟨⟨by omega, by omega⟩, by omega, by omega⟩, by simp only [Int.toNat_natCast]; exact Or.inr (Or.inl ⟨by omega, by omega⟩)⟩⟩⟩, ⟨⟨_, n32, b32, s32, p32, mo1, hv12, hn, hbb, hs, hpp⟩, hR⟩, fun q hq => hf0 q (by omega)⟩ d_Mo_table_76
              · refine lv_aload_n F.1 F.2.1 d_Mo_table_67 rfl (lv_at hl 0 rfl) ?_
                refine q_calli hW16 (q_cV (As := []) (rest := [.int v16]) F hW16 cs_Mo_109 hd_Mo_marks rfl (by omega) mo1 (k_Mo_marks l D τ A ad N w13 hb v12 n32 b32 s32 p32 mo1 X.n hn hm40 B1 hM) rfl rfl ⟨by decide, by decide⟩ rfl hl.1 rfl (Nat.le_of_ble_eq_true rfl) d_Mo_table_68 ⟨Nat.le_refl _, Nat.le_refl _⟩) (fun v19 w19 H19 locs19 hp19 hW19 => ?_)
                obtain ⟨hq19, hp19⟩ := hp19
                replace hq19 := hq19.symm
                subst hq19
                rw [zc_congr hMi] at hp19
                have hc3 := zc_le X.mk X.n
                refine lv_goto (tgt := 75) F.1 F.2.1 d_Mo_table_71 (by decide) ?_
                refine q_iadd F d_Mo_table_75 (by omega) (fun v20 hv20 => ?_)
                exact q_iret F hr hlk hW19 ⟨0, X, by rw [hxa]; exact ⟨rfl, Or.inr ⟨hbt, Or.inr ⟨rfl, ⟨⟨by omega, by omega⟩, by omega, by omega⟩, by simp only [Int.toNat_natCast]; exact Or.inl ⟨by omega, by omega⟩⟩⟩⟩, ⟨⟨_, n32, b32, s32, p32, mo1, hv12, hn, hbb, hs, hpp⟩, hR⟩, fun q hq => hf0 q (by omega)⟩ d_Mo_table_76
            · have hOa := hOf a (by omega)
              refine lv_aload_n F.1 F.2.1 d_Mo_table_49 rfl (lv_at hl 0 rfl) ?_
              refine gf_Mo_42 F hW13 (by omega) mo1 d_Mo_table_50 ?_
              refine lv_iload_n F.1 F.2.1 d_Mo_table_53 rfl (lv_at hl 1 rfl) ?_
              refine q_iald F hW13 hO (by omega) a (by omega) (by omega) d_Mo_table_54 (fun v21 hv21 => ?_)
              refine lv_goto (tgt := 76) F.1 F.2.1 d_Mo_table_55 (by decide) ?_
              exact q_iret F hr hlk hW13 ⟨0, X, by rw [hxa]; exact ⟨rfl, Or.inr ⟨hbt, Or.inr ⟨rfl, ⟨⟨by omega, by omega⟩, by omega, by omega⟩, by simp only [Int.toNat_natCast]; exact Or.inr (Or.inr ⟨by omega, by rw [hv21]; exact hOa⟩)⟩⟩⟩, ⟨⟨_, n32, b32, s32, p32, mo1, hv12, hn, hbb, hs, hpp⟩, hR⟩, fun q hq => hf0 q (by omega)⟩ d_Mo_table_76
          · exact absurd c14 (by omega)
        · refine q_iconst F d_Mo_table_27 (by decide) (fun v22 hv22 => ?_)
          refine lv_goto (tgt := 32) F.1 F.2.1 d_Mo_table_28 (by decide) ?_
          refine pf_Mo_57 F hW2 (by omega) mo1 d_Mo_table_32 (fun H23 locs23 w23 hW23 hI23 hfr23 => ?_)
          replace mo1 := hI23
          refine lv_aload_n F.1 F.2.1 d_Mo_table_35 rfl (lv_at hl 0 rfl) ?_
          refine gf_Mo_57 F hW23 (by omega) mo1 d_Mo_table_36 ?_
          refine q_if_eq (tgt := 44) F d_Mo_table_39 (by decide) (fun c24 => ?_) (fun c24 => ?_)
          · exact absurd c24 (by omega)
          · refine q_iconst F d_Mo_table_42 (by decide) (fun v25 hv25 => ?_)
            exact q_iret F hr hlk hW23 ⟨2, X, ⟨rfl, Or.inr ⟨hbt, Or.inl ⟨rfl, by omega⟩⟩⟩, ⟨⟨_, n32, b32, s32, p32, mo1, hv22, hn, hbb, hs, hpp⟩, hR.keep (fun q _ _ => hfr23 q (by omega))⟩, fun q hq => (hfr23 q (by omega)).trans (hf0 q (by omega))⟩ d_Mo_table_43
  · have hnb := qb_f hqb (by omega)
    have ht2 : t1.toInt = 1 := by rcases ht1 with z | z; exact absurd z.1 hnb; exact z.2
    refine q_iconst F d_Mo_table_7 (by decide) (fun v26 hv26 => ?_)
    exact q_iret F hr hlk hW1 ⟨1, X, ⟨rfl, Or.inl ⟨rfl, hnb⟩⟩, ⟨⟨_, n32, b32, s32, p32, mo1, by omega, hn, hbb, hs, hpp⟩, hR.keep (fun q _ _ => hfr1 q (by omega))⟩, fun q hq => hfr1 q (by omega)⟩ d_Mo_table_8
set_option maxHeartbeats 4000000 in
set_option maxRecDepth 100000 in
/-- row -/
theorem k_Mo_row (l : Launch) (D : va_G) (τ : Nat → ClassId) (A : Nat → Prop) (ad : Nat → Nat) (N : Nat) (w : Nat → va_E) (hb : 484 ≤ N) (X : zSt) (Bd : Nat) (t0 : Int) (hX : qMo τ ad w X t0) (hO : zOK X Bd) (hB9 : Bd ≤ 1000) (x y : Int32) : Met l y_Mo_row (qws y_Mo_row c_Mo_row 3 (some .int)) ({ frames := 8, cells := 0, slots := 0, locals := 180 }) (qPc D τ A ad N w [.ref (ad 469), .int x, .int y]) (va_Qi (fun r1 w1 => ∃ k X9, zR_row X x.toInt y.toInt k r1.toInt X9 ∧ qMo τ ad w1 X9 k ∧ (∀ q, (q < 469 ∨ 484 ≤ q) → w1 q = w q)) (qB D τ A ad N) A) 0 0 A := by
  refine q_of (by decide) (Nat.le_of_ble_eq_true rfl) rfl ?_
  intro PP EE s MM below meth CC ls F hr hlk hnm hex hl hW
  have hl : lv_has ls 3 [(0, .ref (ad 469)), (1, .int x), (2, .int y)] := hl
  obtain ⟨⟨th, n32, b32, s32, p32, mo, ht, hn, hbb, hs, hpp⟩, hR⟩ := id hX
  obtain ⟨⟨GW, hGW, hGWf⟩, ⟨GP, hGP, hGPf⟩, hMs, hMb, hPl, hGo, hPd⟩ := id hR
  obtain ⟨hm1, hm40, hZ, hBt, hpk16, hpkb, hpk9, hsn⟩ := id hO
  refine lv_aload_n F.1 F.2.1 d_Mo_row_0 rfl (lv_at hl 0 rfl) ?_
  refine q_calli hW (q_cV (As := []) (rest := []) F hW cs_Mo_113 hd_Mo_isBuilt rfl (by omega) mo (k_Mo_isBuilt l D τ A ad N w hb th n32 b32 s32 p32 mo X.bt hbb) rfl rfl ⟨by decide, by decide⟩ rfl hl.1 rfl (Nat.le_of_ble_eq_true rfl) d_Mo_row_1 ⟨Nat.le_refl _, Nat.le_refl _⟩) (fun v1 w1 H1 locs1 hp1 hW1 => ?_)
  obtain ⟨hqb, ⟨t1, mo1, ht1⟩, hfr1⟩ := hp1
  refine q_if_ne (tgt := 9) F d_Mo_row_4 (by decide) (fun c4 => ?_) (fun c4 => ?_)
  · have hbt := qb_t hqb (by omega)
    have hB := hBt hbt
    have hf0 := hfr1
    replace hR := hR.keep (fun q _ _ => hfr1 q (by omega))
    replace hMb := (hMb hbt).keep (fun q _ _ _ => hfr1 q (by omega))
    replace hPl := hPl.keep (hfr1 _ (by omega))
    replace hGo := hGo.keep (hfr1 _ (by omega))
    replace hPd := hPd.keep (hfr1 _ (by omega))
    refine lv_aload_n F.1 F.2.1 d_Mo_row_9 rfl (lv_at hl 0 rfl) ?_
    refine lv_aload_n F.1 F.2.1 d_Mo_row_10 rfl (lv_at hl 0 rfl) ?_
    refine lv_iload_n F.1 F.2.1 d_Mo_row_11 rfl (lv_at hl 1 rfl) ?_
    refine q_calli hW1 (q_cV (As := [.int x]) (rest := [.ref (ad 469)]) F hW1 cs_Mo_70 hd_Mo_isNode rfl (by omega) mo1 (k_Mo_isNode l D τ A ad N w1 hb t1 n32 b32 s32 p32 mo1 X.n hn hm40 x) rfl rfl ⟨by decide, by decide⟩ rfl hl.1 rfl (Nat.le_of_ble_eq_true rfl) d_Mo_row_12 ⟨Nat.le_refl _, Nat.le_refl _⟩) (fun v2 w2 H2 locs2 hp2 hW2 => ?_)
    obtain ⟨hq2, hp2⟩ := hp2
    replace hq2 := hq2.symm
    subst hq2
    refine q_if_eq (tgt := 26) F d_Mo_row_15 (by decide) (fun c15 => ?_) (fun c15 => ?_)
    · refine q_iconst F d_Mo_row_26 (by decide) (fun v3 hv3 => ?_)
      refine lv_goto (tgt := 53) F.1 F.2.1 d_Mo_row_27 (by decide) ?_
      refine pf_Mo_57 F hW2 (by omega) mo1 d_Mo_row_53 (fun H4 locs4 w4 hW4 hI4 hfr4 => ?_)
      replace mo1 := hI4
      refine lv_aload_n F.1 F.2.1 d_Mo_row_56 rfl (lv_at hl 0 rfl) ?_
      refine gf_Mo_57 F hW4 (by omega) mo1 d_Mo_row_57 ?_
      refine q_if_eq (tgt := 65) F d_Mo_row_60 (by decide) (fun c5 => ?_) (fun c5 => ?_)
      · exact absurd c5 (by omega)
      · refine q_iconst F d_Mo_row_63 (by decide) (fun v6 hv6 => ?_)
        exact q_iret F hr hlk hW4 ⟨2, X, ⟨rfl, Or.inr ⟨hbt, Or.inl ⟨rfl, fun q => qb_f hp2 (by omega) q.1⟩⟩⟩, ⟨⟨_, n32, b32, s32, p32, mo1, hv3, hn, hbb, hs, hpp⟩, hR.keep (fun q _ _ => hfr4 q (by omega))⟩, fun q hq => (hfr4 q (by omega)).trans (hf0 q (by omega))⟩ d_Mo_row_64
    · have hx1 := qb_t hp2 (by omega)
      refine lv_aload_n F.1 F.2.1 d_Mo_row_18 rfl (lv_at hl 0 rfl) ?_
      refine lv_iload_n F.1 F.2.1 d_Mo_row_19 rfl (lv_at hl 2 rfl) ?_
      refine q_calli hW2 (q_cV (As := [.int y]) (rest := [.ref (ad 469)]) F hW2 cs_Mo_70 hd_Mo_isNode rfl (by omega) mo1 (k_Mo_isNode l D τ A ad N w1 hb t1 n32 b32 s32 p32 mo1 X.n hn hm40 y) rfl rfl ⟨by decide, by decide⟩ rfl hl.1 rfl (Nat.le_of_ble_eq_true rfl) d_Mo_row_20 ⟨Nat.le_refl _, Nat.le_refl _⟩) (fun v7 w7 H7 locs7 hp7 hW7 => ?_)
      obtain ⟨hq7, hp7⟩ := hp7
      replace hq7 := hq7.symm
      subst hq7
      refine q_if_ne (tgt := 30) F d_Mo_row_23 (by decide) (fun c23 => ?_) (fun c23 => ?_)
      · have hy1 := qb_t hp7 (by omega)
        obtain ⟨a, hxa⟩ : ∃ a : Nat, x.toInt = (a : Int) := ⟨x.toInt.toNat, by omega⟩
        obtain ⟨c, hxc⟩ : ∃ c : Nat, y.toInt = (c : Int) := ⟨y.toInt.toNat, by omega⟩
        obtain ⟨hm1b, hm40b, hZb, hallb, hmk1, hmk2⟩ := id hB
        obtain ⟨-, -, ⟨T, hT, hTf⟩, ⟨B1, hM, hMi⟩, ⟨O, hO, hOf⟩, -⟩ := id hMb
        have hmk3 : ∃ v, v < X.n ∧ X.mk v := hmk2.imp (fun v h => ⟨hmk1 v h, h⟩)
        have hMc := hMi c (by omega)
        refine lv_aload_n F.1 F.2.1 d_Mo_row_30 rfl (lv_at hl 0 rfl) ?_
        refine gf_Mo_32 F hW7 (by omega) mo1 d_Mo_row_31 ?_
        refine lv_iload_n F.1 F.2.1 d_Mo_row_34 rfl (lv_at hl 2 rfl) ?_
        refine q_zald F hW7 hM (by omega) c (by omega) (by omega) d_Mo_row_35 (fun v8 hv8 => ?_)
        refine q_if_ne (tgt := 52) F d_Mo_row_36 (by decide) (fun c36 => ?_) (fun c36 => ?_)
        · have hyes : X.mk c ∨ znr X.n (zd X.n X.Wo) X.mk a c := Or.inl (hMc.mp (qb_t hv8 (by omega)))
          refine q_iconst F d_Mo_row_52 (by decide) (fun v9 hv9 => ?_)
          refine pf_Mo_57 F hW7 (by omega) mo1 d_Mo_row_53 (fun H10 locs10 w10 hW10 hI10 hfr10 => ?_)
          replace mo1 := hI10
          refine lv_aload_n F.1 F.2.1 d_Mo_row_56 rfl (lv_at hl 0 rfl) ?_
          refine gf_Mo_57 F hW10 (by omega) mo1 d_Mo_row_57 ?_
          refine q_if_eq (tgt := 65) F d_Mo_row_60 (by decide) (fun c11 => ?_) (fun c11 => ?_)
          · replace hR := hR.keep (fun q _ _ => hfr10 q (by omega))
            replace hMb := hMb.keep (fun q _ _ _ => hfr10 q (by omega))
            replace hf0 : ∀ q, q ≠ 469 → w10 q = w q := fun q hq => (hfr10 q hq).trans (hf0 q hq)
            replace hPl := hPl.keep (hfr10 _ (by omega))
            replace hGo := hGo.keep (hfr10 _ (by omega))
            replace hPd := hPd.keep (hfr10 _ (by omega))
            clear hT hTf hM hMi hO hOf hmk1 hmk2 hmk3
            clear hm1b hm40b hZb hallb
            clear hMc
            clear hm1 hm40 hZ
            obtain ⟨hm1, hm40, hZ, hall, hmk1, hmk2⟩ := id hB
            obtain ⟨⟨V, hV, hVf⟩, ⟨GO, hGO, hGOf⟩, ⟨T, hT, hTf⟩, ⟨B1, hM, hMi⟩, ⟨O, hO, hOf⟩, PA, hPA, hPAf⟩ := id hMb
            have hdb : ∀ a b, a < X.n → b < X.n → 0 ≤ zd X.n X.Wo a b ∧ zd X.n X.Wo a b ≤ 1000000 := fun a b ha hb9 => zd_bd hZ.1 ha hb9
            have hWb : ∀ a b, a < X.n → b < X.n → 0 ≤ X.Wo a b ∧ X.Wo a b ≤ 1000 := fun a b ha hb9 => ⟨(hZ.1.1 a b ha hb9).1, (hZ.1.1 a b ha hb9).2.1⟩
            have hmk3 : ∃ v, v < X.n ∧ X.mk v := hmk2.imp (fun v h => ⟨hmk1 v h, h⟩)
            refine lv_iload_n F.1 F.2.1 d_Mo_row_65 rfl (lv_at hl 1 rfl) ?_
            refine lv_iload_n F.1 F.2.1 d_Mo_row_66 rfl (lv_at hl 2 rfl) ?_
            refine q_icmp_ne (tgt := 74) F d_Mo_row_67 (by decide) (fun c67 => ?_) (fun c67 => ?_)
            · refine lv_aload_n F.1 F.2.1 d_Mo_row_74 rfl (lv_at hl 0 rfl) ?_
              refine gf_Mo_23 F hW10 (by omega) mo1 d_Mo_row_75 ?_
              refine lv_iload_n F.1 F.2.1 d_Mo_row_78 rfl (lv_at hl 1 rfl) ?_
              refine lv_aload_n F.1 F.2.1 d_Mo_row_79 rfl (lv_at hl 0 rfl) ?_
              refine lv_iload_n F.1 F.2.1 d_Mo_row_80 rfl (lv_at hl 1 rfl) ?_
              refine lv_iload_n F.1 F.2.1 d_Mo_row_81 rfl (lv_at hl 2 rfl) ?_
              refine q_calli hW10 (q_cV (As := [.int x, .int y]) (rest := [.int x, .ref (ad 473)]) F hW10 cs_Mo_106 hd_Mo_towards rfl (by omega) mo1 (k_Mo_towards l D τ A ad N w10 hb v9 n32 b32 s32 p32 mo1 X.n hn hm40 T hT (zd X.n X.Wo) hTf V hV X.Wo hVf hWb hdb x y a c hxa hxc (by omega) (by omega)) rfl rfl ⟨by decide, by decide⟩ rfl hl.1 rfl (Nat.le_of_ble_eq_true rfl) d_Mo_row_82 ⟨Nat.le_refl _, Nat.le_refl _⟩) (fun v12 w12 H12 locs12 hp12 hW12 => ?_)
              obtain ⟨hq12, hp12⟩ := hp12
              replace hq12 := hq12.symm
              subst hq12
              refine q_calli hW12 (q_cS (As := [.ref (ad 473), .int x, .int v12]) (rest := []) F hW12 cs_Mo_74 hs_Mo_portOf (k_Mo_portOf l D τ A ad N w10 473 (by omega) X.n hm40 GO hGO X.bo hGOf x v12 a hxa (by omega)) rfl rfl ⟨by decide, by decide⟩ rfl hl.1 rfl (Nat.le_of_ble_eq_true rfl) d_Mo_row_85 ⟨Nat.le_refl _, Nat.le_refl _⟩) (fun v13 w13 H13 locs13 hp13 hW13 => ?_)
              obtain ⟨hq13, hp13⟩ := hp13
              replace hq13 := hq13.symm
              subst hq13
              rw [hp12] at hp13
              exact q_iret F hr hlk hW13 ⟨0, X, by rw [hxa, hxc]; exact ⟨rfl, Or.inr ⟨hbt, Or.inr ⟨⟨⟨by omega, by omega⟩, by omega, by omega⟩, Or.inr ⟨rfl, by simp only [Int.toNat_natCast]; exact hyes, by simp only [Int.toNat_natCast]; exact Or.inr ⟨by omega, hp13⟩⟩⟩⟩⟩, ⟨⟨_, n32, b32, s32, p32, mo1, hv9, hn, hbb, hs, hpp⟩, hR⟩, fun q hq => hf0 q (by omega)⟩ d_Mo_row_88
            · refine q_iconst F d_Mo_row_70 (by decide) (fun v14 hv14 => ?_)
              refine lv_goto (tgt := 88) F.1 F.2.1 d_Mo_row_71 (by decide) ?_
              exact q_iret F hr hlk hW10 ⟨0, X, by rw [hxa, hxc]; exact ⟨rfl, Or.inr ⟨hbt, Or.inr ⟨⟨⟨by omega, by omega⟩, by omega, by omega⟩, Or.inr ⟨rfl, by simp only [Int.toNat_natCast]; exact hyes, by simp only [Int.toNat_natCast]; exact Or.inl ⟨by omega, hv14⟩⟩⟩⟩⟩, ⟨⟨_, n32, b32, s32, p32, mo1, hv9, hn, hbb, hs, hpp⟩, hR⟩, fun q hq => hf0 q (by omega)⟩ d_Mo_row_88
          · exact absurd c11 (by omega)
        · refine lv_aload_n F.1 F.2.1 d_Mo_row_39 rfl (lv_at hl 0 rfl) ?_
          refine lv_iload_n F.1 F.2.1 d_Mo_row_40 rfl (lv_at hl 1 rfl) ?_
          refine lv_iload_n F.1 F.2.1 d_Mo_row_41 rfl (lv_at hl 2 rfl) ?_
          refine q_calli hW7 (q_cV (As := [.int x, .int y]) (rest := [.ref (ad 469)]) F hW7 cs_Mo_93 hd_Mo_isNear rfl (by omega) mo1 (k_Mo_isNear l D τ A ad N w1 hb t1 n32 b32 s32 p32 mo1 X.n hn hm40 T hT (zd X.n X.Wo) hTf O hO X.mk hOf hmk3 x y a c hxa hxc (by omega) (by omega)) rfl rfl ⟨by decide, by decide⟩ rfl hl.1 rfl (Nat.le_of_ble_eq_true rfl) d_Mo_row_42 ⟨Nat.le_refl _, Nat.le_refl _⟩) (fun v15 w15 H15 locs15 hp15 hW15 => ?_)
          obtain ⟨hq15, hp15⟩ := hp15
          replace hq15 := hq15.symm
          subst hq15
          refine q_if_ne (tgt := 52) F d_Mo_row_45 (by decide) (fun c45 => ?_) (fun c45 => ?_)
          · have hyes : X.mk c ∨ znr X.n (zd X.n X.Wo) X.mk a c := Or.inr (qb_t hp15 (by omega))
            refine q_iconst F d_Mo_row_52 (by decide) (fun v16 hv16 => ?_)
            refine pf_Mo_57 F hW15 (by omega) mo1 d_Mo_row_53 (fun H17 locs17 w17 hW17 hI17 hfr17 => ?_)
            replace mo1 := hI17
            refine lv_aload_n F.1 F.2.1 d_Mo_row_56 rfl (lv_at hl 0 rfl) ?_
            refine gf_Mo_57 F hW17 (by omega) mo1 d_Mo_row_57 ?_
            refine q_if_eq (tgt := 65) F d_Mo_row_60 (by decide) (fun c18 => ?_) (fun c18 => ?_)
            · replace hR := hR.keep (fun q _ _ => hfr17 q (by omega))
              replace hMb := hMb.keep (fun q _ _ _ => hfr17 q (by omega))
              replace hf0 : ∀ q, q ≠ 469 → w17 q = w q := fun q hq => (hfr17 q hq).trans (hf0 q hq)
              replace hPl := hPl.keep (hfr17 _ (by omega))
              replace hGo := hGo.keep (hfr17 _ (by omega))
              replace hPd := hPd.keep (hfr17 _ (by omega))
              clear hT hTf hM hMi hO hOf hmk1 hmk2 hmk3
              clear hm1b hm40b hZb hallb
              clear hMc
              clear hm1 hm40 hZ
              obtain ⟨hm1, hm40, hZ, hall, hmk1, hmk2⟩ := id hB
              obtain ⟨⟨V, hV, hVf⟩, ⟨GO, hGO, hGOf⟩, ⟨T, hT, hTf⟩, ⟨B1, hM, hMi⟩, ⟨O, hO, hOf⟩, PA, hPA, hPAf⟩ := id hMb
              have hdb : ∀ a b, a < X.n → b < X.n → 0 ≤ zd X.n X.Wo a b ∧ zd X.n X.Wo a b ≤ 1000000 := fun a b ha hb9 => zd_bd hZ.1 ha hb9
              have hWb : ∀ a b, a < X.n → b < X.n → 0 ≤ X.Wo a b ∧ X.Wo a b ≤ 1000 := fun a b ha hb9 => ⟨(hZ.1.1 a b ha hb9).1, (hZ.1.1 a b ha hb9).2.1⟩
              have hmk3 : ∃ v, v < X.n ∧ X.mk v := hmk2.imp (fun v h => ⟨hmk1 v h, h⟩)
              refine lv_iload_n F.1 F.2.1 d_Mo_row_65 rfl (lv_at hl 1 rfl) ?_
              refine lv_iload_n F.1 F.2.1 d_Mo_row_66 rfl (lv_at hl 2 rfl) ?_
              refine q_icmp_ne (tgt := 74) F d_Mo_row_67 (by decide) (fun c67 => ?_) (fun c67 => ?_)
              · refine lv_aload_n F.1 F.2.1 d_Mo_row_74 rfl (lv_at hl 0 rfl) ?_
                refine gf_Mo_23 F hW17 (by omega) mo1 d_Mo_row_75 ?_
                refine lv_iload_n F.1 F.2.1 d_Mo_row_78 rfl (lv_at hl 1 rfl) ?_
                refine lv_aload_n F.1 F.2.1 d_Mo_row_79 rfl (lv_at hl 0 rfl) ?_
                refine lv_iload_n F.1 F.2.1 d_Mo_row_80 rfl (lv_at hl 1 rfl) ?_
                refine lv_iload_n F.1 F.2.1 d_Mo_row_81 rfl (lv_at hl 2 rfl) ?_
                refine q_calli hW17 (q_cV (As := [.int x, .int y]) (rest := [.int x, .ref (ad 473)]) F hW17 cs_Mo_106 hd_Mo_towards rfl (by omega) mo1 (k_Mo_towards l D τ A ad N w17 hb v16 n32 b32 s32 p32 mo1 X.n hn hm40 T hT (zd X.n X.Wo) hTf V hV X.Wo hVf hWb hdb x y a c hxa hxc (by omega) (by omega)) rfl rfl ⟨by decide, by decide⟩ rfl hl.1 rfl (Nat.le_of_ble_eq_true rfl) d_Mo_row_82 ⟨Nat.le_refl _, Nat.le_refl _⟩) (fun v19 w19 H19 locs19 hp19 hW19 => ?_)
                obtain ⟨hq19, hp19⟩ := hp19
                replace hq19 := hq19.symm
                subst hq19
                refine q_calli hW19 (q_cS (As := [.ref (ad 473), .int x, .int v19]) (rest := []) F hW19 cs_Mo_74 hs_Mo_portOf (k_Mo_portOf l D τ A ad N w17 473 (by omega) X.n hm40 GO hGO X.bo hGOf x v19 a hxa (by omega)) rfl rfl ⟨by decide, by decide⟩ rfl hl.1 rfl (Nat.le_of_ble_eq_true rfl) d_Mo_row_85 ⟨Nat.le_refl _, Nat.le_refl _⟩) (fun v20 w20 H20 locs20 hp20 hW20 => ?_)
                obtain ⟨hq20, hp20⟩ := hp20
                replace hq20 := hq20.symm
                subst hq20
                rw [hp19] at hp20
                exact q_iret F hr hlk hW20 ⟨0, X, by rw [hxa, hxc]; exact ⟨rfl, Or.inr ⟨hbt, Or.inr ⟨⟨⟨by omega, by omega⟩, by omega, by omega⟩, Or.inr ⟨rfl, by simp only [Int.toNat_natCast]; exact hyes, by simp only [Int.toNat_natCast]; exact Or.inr ⟨by omega, hp20⟩⟩⟩⟩⟩, ⟨⟨_, n32, b32, s32, p32, mo1, hv16, hn, hbb, hs, hpp⟩, hR⟩, fun q hq => hf0 q (by omega)⟩ d_Mo_row_88
              · refine q_iconst F d_Mo_row_70 (by decide) (fun v21 hv21 => ?_)
                refine lv_goto (tgt := 88) F.1 F.2.1 d_Mo_row_71 (by decide) ?_
                exact q_iret F hr hlk hW17 ⟨0, X, by rw [hxa, hxc]; exact ⟨rfl, Or.inr ⟨hbt, Or.inr ⟨⟨⟨by omega, by omega⟩, by omega, by omega⟩, Or.inr ⟨rfl, by simp only [Int.toNat_natCast]; exact hyes, by simp only [Int.toNat_natCast]; exact Or.inl ⟨by omega, hv21⟩⟩⟩⟩⟩, ⟨⟨_, n32, b32, s32, p32, mo1, hv16, hn, hbb, hs, hpp⟩, hR⟩, fun q hq => hf0 q (by omega)⟩ d_Mo_row_88
            · exact absurd c18 (by omega)
          · refine q_iconst F d_Mo_row_48 (by decide) (fun v22 hv22 => ?_)
            refine lv_goto (tgt := 53) F.1 F.2.1 d_Mo_row_49 (by decide) ?_
            refine pf_Mo_57 F hW15 (by omega) mo1 d_Mo_row_53 (fun H23 locs23 w23 hW23 hI23 hfr23 => ?_)
            replace mo1 := hI23
            refine lv_aload_n F.1 F.2.1 d_Mo_row_56 rfl (lv_at hl 0 rfl) ?_
            refine gf_Mo_57 F hW23 (by omega) mo1 d_Mo_row_57 ?_
            refine q_if_eq (tgt := 65) F d_Mo_row_60 (by decide) (fun c24 => ?_) (fun c24 => ?_)
            · exact absurd c24 (by omega)
            · refine q_iconst F d_Mo_row_63 (by decide) (fun v25 hv25 => ?_)
              exact q_iret F hr hlk hW23 ⟨3, X, by rw [hxa, hxc]; exact ⟨rfl, Or.inr ⟨hbt, Or.inr ⟨⟨⟨by omega, by omega⟩, by omega, by omega⟩, Or.inl ⟨rfl, by simp only [Int.toNat_natCast]; exact fun q => q.elim (fun z => qb_f hv8 (by omega) (hMc.mpr z)) (qb_f hp15 (by omega))⟩⟩⟩⟩, ⟨⟨_, n32, b32, s32, p32, mo1, hv22, hn, hbb, hs, hpp⟩, hR.keep (fun q _ _ => hfr23 q (by omega))⟩, fun q hq => (hfr23 q (by omega)).trans (hf0 q (by omega))⟩ d_Mo_row_64
      · refine q_iconst F d_Mo_row_26 (by decide) (fun v26 hv26 => ?_)
        refine lv_goto (tgt := 53) F.1 F.2.1 d_Mo_row_27 (by decide) ?_
        refine pf_Mo_57 F hW7 (by omega) mo1 d_Mo_row_53 (fun H27 locs27 w27 hW27 hI27 hfr27 => ?_)
        replace mo1 := hI27
        refine lv_aload_n F.1 F.2.1 d_Mo_row_56 rfl (lv_at hl 0 rfl) ?_
        refine gf_Mo_57 F hW27 (by omega) mo1 d_Mo_row_57 ?_
        refine q_if_eq (tgt := 65) F d_Mo_row_60 (by decide) (fun c28 => ?_) (fun c28 => ?_)
        · exact absurd c28 (by omega)
        · refine q_iconst F d_Mo_row_63 (by decide) (fun v29 hv29 => ?_)
          exact q_iret F hr hlk hW27 ⟨2, X, ⟨rfl, Or.inr ⟨hbt, Or.inl ⟨rfl, fun q => qb_f hp7 (by omega) q.2⟩⟩⟩, ⟨⟨_, n32, b32, s32, p32, mo1, hv26, hn, hbb, hs, hpp⟩, hR.keep (fun q _ _ => hfr27 q (by omega))⟩, fun q hq => (hfr27 q (by omega)).trans (hf0 q (by omega))⟩ d_Mo_row_64
  · have hnb := qb_f hqb (by omega)
    have ht2 : t1.toInt = 1 := by rcases ht1 with z | z; exact absurd z.1 hnb; exact z.2
    refine q_iconst F d_Mo_row_7 (by decide) (fun v30 hv30 => ?_)
    exact q_iret F hr hlk hW1 ⟨1, X, ⟨rfl, Or.inl ⟨rfl, hnb⟩⟩, ⟨⟨_, n32, b32, s32, p32, mo1, by omega, hn, hbb, hs, hpp⟩, hR.keep (fun q _ _ => hfr1 q (by omega))⟩, fun q hq => hfr1 q (by omega)⟩ d_Mo_row_8
set_option maxHeartbeats 4000000 in
set_option maxRecDepth 100000 in
/-- label -/
theorem k_Mo_label (l : Launch) (D : va_G) (τ : Nat → ClassId) (A : Nat → Prop) (ad : Nat → Nat) (N : Nat) (w : Nat → va_E) (hb : 484 ≤ N) (X : zSt) (Bd : Nat) (t0 : Int) (hX : qMo τ ad w X t0) (hO : zOK X Bd) (hB9 : Bd ≤ 1000) (x y : Int32) : Met l y_Mo_label (qws y_Mo_label c_Mo_label 3 (some .int)) ({ frames := 8, cells := 0, slots := 0, locals := 180 }) (qPc D τ A ad N w [.ref (ad 469), .int x, .int y]) (va_Qi (fun r1 w1 => ∃ k X9, zR_label X x.toInt y.toInt k r1.toInt X9 ∧ qMo τ ad w1 X9 k ∧ (∀ q, (q < 469 ∨ 484 ≤ q) → w1 q = w q)) (qB D τ A ad N) A) 0 0 A := by
  refine q_of (by decide) (Nat.le_of_ble_eq_true rfl) rfl ?_
  intro PP EE s MM below meth CC ls F hr hlk hnm hex hl hW
  have hl : lv_has ls 3 [(0, .ref (ad 469)), (1, .int x), (2, .int y)] := hl
  obtain ⟨⟨th, n32, b32, s32, p32, mo, ht, hn, hbb, hs, hpp⟩, hR⟩ := id hX
  obtain ⟨⟨GW, hGW, hGWf⟩, ⟨GP, hGP, hGPf⟩, hMs, hMb, hPl, hGo, hPd⟩ := id hR
  obtain ⟨hm1, hm40, hZ, hBt, hpk16, hpkb, hpk9, hsn⟩ := id hO
  refine lv_aload_n F.1 F.2.1 d_Mo_label_0 rfl (lv_at hl 0 rfl) ?_
  refine q_calli hW (q_cV (As := []) (rest := []) F hW cs_Mo_113 hd_Mo_isBuilt rfl (by omega) mo (k_Mo_isBuilt l D τ A ad N w hb th n32 b32 s32 p32 mo X.bt hbb) rfl rfl ⟨by decide, by decide⟩ rfl hl.1 rfl (Nat.le_of_ble_eq_true rfl) d_Mo_label_1 ⟨Nat.le_refl _, Nat.le_refl _⟩) (fun v1 w1 H1 locs1 hp1 hW1 => ?_)
  obtain ⟨hqb, ⟨t1, mo1, ht1⟩, hfr1⟩ := hp1
  refine q_if_ne (tgt := 9) F d_Mo_label_4 (by decide) (fun c4 => ?_) (fun c4 => ?_)
  · have hbt := qb_t hqb (by omega)
    have hB := hBt hbt
    have hf0 := hfr1
    replace hR := hR.keep (fun q _ _ => hfr1 q (by omega))
    replace hMb := (hMb hbt).keep (fun q _ _ _ => hfr1 q (by omega))
    replace hPl := hPl.keep (hfr1 _ (by omega))
    replace hGo := hGo.keep (hfr1 _ (by omega))
    replace hPd := hPd.keep (hfr1 _ (by omega))
    refine lv_aload_n F.1 F.2.1 d_Mo_label_9 rfl (lv_at hl 0 rfl) ?_
    refine lv_aload_n F.1 F.2.1 d_Mo_label_10 rfl (lv_at hl 0 rfl) ?_
    refine lv_iload_n F.1 F.2.1 d_Mo_label_11 rfl (lv_at hl 1 rfl) ?_
    refine q_calli hW1 (q_cV (As := [.int x]) (rest := [.ref (ad 469)]) F hW1 cs_Mo_70 hd_Mo_isNode rfl (by omega) mo1 (k_Mo_isNode l D τ A ad N w1 hb t1 n32 b32 s32 p32 mo1 X.n hn hm40 x) rfl rfl ⟨by decide, by decide⟩ rfl hl.1 rfl (Nat.le_of_ble_eq_true rfl) d_Mo_label_12 ⟨Nat.le_refl _, Nat.le_refl _⟩) (fun v2 w2 H2 locs2 hp2 hW2 => ?_)
    obtain ⟨hq2, hp2⟩ := hp2
    replace hq2 := hq2.symm
    subst hq2
    refine q_if_eq (tgt := 27) F d_Mo_label_15 (by decide) (fun c15 => ?_) (fun c15 => ?_)
    · refine q_iconst F d_Mo_label_27 (by decide) (fun v3 hv3 => ?_)
      refine lv_goto (tgt := 32) F.1 F.2.1 d_Mo_label_28 (by decide) ?_
      refine pf_Mo_57 F hW2 (by omega) mo1 d_Mo_label_32 (fun H4 locs4 w4 hW4 hI4 hfr4 => ?_)
      replace mo1 := hI4
      refine lv_aload_n F.1 F.2.1 d_Mo_label_35 rfl (lv_at hl 0 rfl) ?_
      refine gf_Mo_57 F hW4 (by omega) mo1 d_Mo_label_36 ?_
      refine q_if_eq (tgt := 46) F d_Mo_label_39 (by decide) (fun c5 => ?_) (fun c5 => ?_)
      · exact absurd c5 (by omega)
      · refine q_iconst F d_Mo_label_42 (by decide) (fun v6 hv6 => ?_)
        refine lv_goto (tgt := 52) F.1 F.2.1 d_Mo_label_43 (by decide) ?_
        exact q_iret F hr hlk hW4 ⟨2, X, ⟨rfl, Or.inr ⟨hbt, Or.inl ⟨rfl, fun q => qb_f hp2 (by omega) q.1⟩⟩⟩, ⟨⟨_, n32, b32, s32, p32, mo1, hv3, hn, hbb, hs, hpp⟩, hR.keep (fun q _ _ => hfr4 q (by omega))⟩, fun q hq => (hfr4 q (by omega)).trans (hf0 q (by omega))⟩ d_Mo_label_52
    · have hx1 := qb_t hp2 (by omega)
      refine lv_iload_n F.1 F.2.1 d_Mo_label_18 rfl (lv_at hl 2 rfl) ?_
      refine q_if_lt (tgt := 27) F d_Mo_label_19 (by decide) (fun c19 => ?_) (fun c19 => ?_)
      · refine q_iconst F d_Mo_label_27 (by decide) (fun v7 hv7 => ?_)
        refine lv_goto (tgt := 32) F.1 F.2.1 d_Mo_label_28 (by decide) ?_
        refine pf_Mo_57 F hW2 (by omega) mo1 d_Mo_label_32 (fun H8 locs8 w8 hW8 hI8 hfr8 => ?_)
        replace mo1 := hI8
        refine lv_aload_n F.1 F.2.1 d_Mo_label_35 rfl (lv_at hl 0 rfl) ?_
        refine gf_Mo_57 F hW8 (by omega) mo1 d_Mo_label_36 ?_
        refine q_if_eq (tgt := 46) F d_Mo_label_39 (by decide) (fun c9 => ?_) (fun c9 => ?_)
        · exact absurd c9 (by omega)
        · refine q_iconst F d_Mo_label_42 (by decide) (fun v10 hv10 => ?_)
          refine lv_goto (tgt := 52) F.1 F.2.1 d_Mo_label_43 (by decide) ?_
          exact q_iret F hr hlk hW8 ⟨2, X, ⟨rfl, Or.inr ⟨hbt, Or.inl ⟨rfl, by omega⟩⟩⟩, ⟨⟨_, n32, b32, s32, p32, mo1, hv7, hn, hbb, hs, hpp⟩, hR.keep (fun q _ _ => hfr8 q (by omega))⟩, fun q hq => (hfr8 q (by omega)).trans (hf0 q (by omega))⟩ d_Mo_label_52
      · refine lv_iload_n F.1 F.2.1 d_Mo_label_22 rfl (lv_at hl 2 rfl) ?_
        refine q_iconst F d_Mo_label_23 (by decide) (fun v11 hv11 => ?_)
        refine q_icmp_le (tgt := 31) F d_Mo_label_24 (by decide) (fun c24 => ?_) (fun c24 => ?_)
        · refine q_iconst F d_Mo_label_31 (by decide) (fun v12 hv12 => ?_)
          refine pf_Mo_57 F hW2 (by omega) mo1 d_Mo_label_32 (fun H13 locs13 w13 hW13 hI13 hfr13 => ?_)
          replace mo1 := hI13
          refine lv_aload_n F.1 F.2.1 d_Mo_label_35 rfl (lv_at hl 0 rfl) ?_
          refine gf_Mo_57 F hW13 (by omega) mo1 d_Mo_label_36 ?_
          refine q_if_eq (tgt := 46) F d_Mo_label_39 (by decide) (fun c14 => ?_) (fun c14 => ?_)
          · replace hR := hR.keep (fun q _ _ => hfr13 q (by omega))
            replace hMb := hMb.keep (fun q _ _ _ => hfr13 q (by omega))
            replace hf0 : ∀ q, q ≠ 469 → w13 q = w q := fun q hq => (hfr13 q hq).trans (hf0 q hq)
            replace hPl := hPl.keep (hfr13 _ (by omega))
            replace hGo := hGo.keep (hfr13 _ (by omega))
            replace hPd := hPd.keep (hfr13 _ (by omega))
            obtain ⟨a, hxa⟩ : ∃ a : Nat, x.toInt = (a : Int) := ⟨x.toInt.toNat, by omega⟩
            refine lv_aload_n F.1 F.2.1 d_Mo_label_46 rfl (lv_at hl 0 rfl) ?_
            refine lv_iload_n F.1 F.2.1 d_Mo_label_47 rfl (lv_at hl 1 rfl) ?_
            refine lv_iload_n F.1 F.2.1 d_Mo_label_48 rfl (lv_at hl 2 rfl) ?_
            refine q_calli hW13 (q_cV (As := [.int x, .int y]) (rest := []) F hW13 cs_Mo_142 hd_Mo_word rfl (by omega) mo1 (k_Mo_word l D τ A ad N w13 hb v12 n32 b32 s32 p32 mo1 X hn hB hMb x y a hxa (by omega) (by omega) (by omega)) rfl rfl ⟨by decide, by decide⟩ rfl hl.1 rfl (Nat.le_of_ble_eq_true rfl) d_Mo_label_49 ⟨Nat.le_refl _, Nat.le_refl _⟩) (fun v15 w15 H15 locs15 hp15 hW15 => ?_)
            obtain ⟨hq15, hp15⟩ := hp15
            replace hq15 := hq15.symm
            subst hq15
            exact q_iret F hr hlk hW15 ⟨0, X, by rw [hxa]; exact ⟨rfl, Or.inr ⟨hbt, Or.inr ⟨rfl, ⟨⟨by omega, by omega⟩, by omega, by omega⟩, by simp only [Int.toNat_natCast]; exact hp15⟩⟩⟩, ⟨⟨_, n32, b32, s32, p32, mo1, hv12, hn, hbb, hs, hpp⟩, hR⟩, fun q hq => hf0 q (by omega)⟩ d_Mo_label_52
          · exact absurd c14 (by omega)
        · refine q_iconst F d_Mo_label_27 (by decide) (fun v16 hv16 => ?_)
          refine lv_goto (tgt := 32) F.1 F.2.1 d_Mo_label_28 (by decide) ?_
          refine pf_Mo_57 F hW2 (by omega) mo1 d_Mo_label_32 (fun H17 locs17 w17 hW17 hI17 hfr17 => ?_)
          replace mo1 := hI17
          refine lv_aload_n F.1 F.2.1 d_Mo_label_35 rfl (lv_at hl 0 rfl) ?_
          refine gf_Mo_57 F hW17 (by omega) mo1 d_Mo_label_36 ?_
          refine q_if_eq (tgt := 46) F d_Mo_label_39 (by decide) (fun c18 => ?_) (fun c18 => ?_)
          · exact absurd c18 (by omega)
          · refine q_iconst F d_Mo_label_42 (by decide) (fun v19 hv19 => ?_)
            refine lv_goto (tgt := 52) F.1 F.2.1 d_Mo_label_43 (by decide) ?_
            exact q_iret F hr hlk hW17 ⟨2, X, ⟨rfl, Or.inr ⟨hbt, Or.inl ⟨rfl, by omega⟩⟩⟩, ⟨⟨_, n32, b32, s32, p32, mo1, hv16, hn, hbb, hs, hpp⟩, hR.keep (fun q _ _ => hfr17 q (by omega))⟩, fun q hq => (hfr17 q (by omega)).trans (hf0 q (by omega))⟩ d_Mo_label_52
  · have hnb := qb_f hqb (by omega)
    have ht2 : t1.toInt = 1 := by rcases ht1 with z | z; exact absurd z.1 hnb; exact z.2
    refine q_iconst F d_Mo_label_7 (by decide) (fun v20 hv20 => ?_)
    exact q_iret F hr hlk hW1 ⟨1, X, ⟨rfl, Or.inl ⟨rfl, hnb⟩⟩, ⟨⟨_, n32, b32, s32, p32, mo1, by omega, hn, hbb, hs, hpp⟩, hR.keep (fun q _ _ => hfr1 q (by omega))⟩, fun q hq => hfr1 q (by omega)⟩ d_Mo_label_8
set_option maxHeartbeats 4000000 in
set_option maxRecDepth 100000 in
/-- tree -/
theorem k_Mo_tree (l : Launch) (D : va_G) (τ : Nat → ClassId) (A : Nat → Prop) (ad : Nat → Nat) (N : Nat) (w : Nat → va_E) (hb : 484 ≤ N) (X : zSt) (Bd : Nat) (t0 : Int) (hX : qMo τ ad w X t0) (hO : zOK X Bd) (hB9 : Bd ≤ 1000) (x y z : Int32) : Met l y_Mo_tree (qws y_Mo_tree c_Mo_tree 4 (some .int)) ({ frames := 8, cells := 0, slots := 0, locals := 180 }) (qPc D τ A ad N w [.ref (ad 469), .int x, .int y, .int z]) (va_Qi (fun r1 w1 => ∃ k X9, zR_tree X x.toInt y.toInt z.toInt k r1.toInt X9 ∧ qMo τ ad w1 X9 k ∧ (∀ q, (q < 469 ∨ 484 ≤ q) → w1 q = w q)) (qB D τ A ad N) A) 0 0 A := by
  refine q_of (by decide) (Nat.le_of_ble_eq_true rfl) rfl ?_
  intro PP EE s MM below meth CC ls F hr hlk hnm hex hl hW
  have hl : lv_has ls 4 [(0, .ref (ad 469)), (1, .int x), (2, .int y), (3, .int z)] := hl
  obtain ⟨⟨th, n32, b32, s32, p32, mo, ht, hn, hbb, hs, hpp⟩, hR⟩ := id hX
  obtain ⟨⟨GW, hGW, hGWf⟩, ⟨GP, hGP, hGPf⟩, hMs, hMb, hPl, hGo, hPd⟩ := id hR
  obtain ⟨hm1, hm40, hZ, hBt, hpk16, hpkb, hpk9, hsn⟩ := id hO
  refine lv_aload_n F.1 F.2.1 d_Mo_tree_0 rfl (lv_at hl 0 rfl) ?_
  refine q_calli hW (q_cV (As := []) (rest := []) F hW cs_Mo_113 hd_Mo_isBuilt rfl (by omega) mo (k_Mo_isBuilt l D τ A ad N w hb th n32 b32 s32 p32 mo X.bt hbb) rfl rfl ⟨by decide, by decide⟩ rfl hl.1 rfl (Nat.le_of_ble_eq_true rfl) d_Mo_tree_1 ⟨Nat.le_refl _, Nat.le_refl _⟩) (fun v1 w1 H1 locs1 hp1 hW1 => ?_)
  obtain ⟨hqb, ⟨t1, mo1, ht1⟩, hfr1⟩ := hp1
  refine q_if_ne (tgt := 9) F d_Mo_tree_4 (by decide) (fun c4 => ?_) (fun c4 => ?_)
  · have hbt := qb_t hqb (by omega)
    have hB := hBt hbt
    have hf0 := hfr1
    replace hR := hR.keep (fun q _ _ => hfr1 q (by omega))
    replace hMb := (hMb hbt).keep (fun q _ _ _ => hfr1 q (by omega))
    replace hPl := hPl.keep (hfr1 _ (by omega))
    replace hGo := hGo.keep (hfr1 _ (by omega))
    replace hPd := hPd.keep (hfr1 _ (by omega))
    refine lv_aload_n F.1 F.2.1 d_Mo_tree_9 rfl (lv_at hl 0 rfl) ?_
    refine lv_aload_n F.1 F.2.1 d_Mo_tree_10 rfl (lv_at hl 0 rfl) ?_
    refine lv_iload_n F.1 F.2.1 d_Mo_tree_11 rfl (lv_at hl 1 rfl) ?_
    refine q_calli hW1 (q_cV (As := [.int x]) (rest := [.ref (ad 469)]) F hW1 cs_Mo_70 hd_Mo_isNode rfl (by omega) mo1 (k_Mo_isNode l D τ A ad N w1 hb t1 n32 b32 s32 p32 mo1 X.n hn hm40 x) rfl rfl ⟨by decide, by decide⟩ rfl hl.1 rfl (Nat.le_of_ble_eq_true rfl) d_Mo_tree_12 ⟨Nat.le_refl _, Nat.le_refl _⟩) (fun v2 w2 H2 locs2 hp2 hW2 => ?_)
    obtain ⟨hq2, hp2⟩ := hp2
    replace hq2 := hq2.symm
    subst hq2
    refine q_if_eq (tgt := 35) F d_Mo_tree_15 (by decide) (fun c15 => ?_) (fun c15 => ?_)
    · refine q_iconst F d_Mo_tree_35 (by decide) (fun v3 hv3 => ?_)
      refine lv_goto (tgt := 53) F.1 F.2.1 d_Mo_tree_36 (by decide) ?_
      refine pf_Mo_57 F hW2 (by omega) mo1 d_Mo_tree_53 (fun H4 locs4 w4 hW4 hI4 hfr4 => ?_)
      replace mo1 := hI4
      refine lv_aload_n F.1 F.2.1 d_Mo_tree_56 rfl (lv_at hl 0 rfl) ?_
      refine gf_Mo_57 F hW4 (by omega) mo1 d_Mo_tree_57 ?_
      refine q_if_eq (tgt := 65) F d_Mo_tree_60 (by decide) (fun c5 => ?_) (fun c5 => ?_)
      · exact absurd c5 (by omega)
      · refine q_iconst F d_Mo_tree_63 (by decide) (fun v6 hv6 => ?_)
        exact q_iret F hr hlk hW4 ⟨2, X, ⟨rfl, Or.inr ⟨hbt, Or.inl ⟨rfl, fun q => qb_f hp2 (by omega) q.1⟩⟩⟩, ⟨⟨_, n32, b32, s32, p32, mo1, hv3, hn, hbb, hs, hpp⟩, hR.keep (fun q _ _ => hfr4 q (by omega))⟩, fun q hq => (hfr4 q (by omega)).trans (hf0 q (by omega))⟩ d_Mo_tree_64
    · have hx1 := qb_t hp2 (by omega)
      refine lv_aload_n F.1 F.2.1 d_Mo_tree_18 rfl (lv_at hl 0 rfl) ?_
      refine lv_iload_n F.1 F.2.1 d_Mo_tree_19 rfl (lv_at hl 2 rfl) ?_
      refine q_calli hW2 (q_cV (As := [.int y]) (rest := [.ref (ad 469)]) F hW2 cs_Mo_70 hd_Mo_isNode rfl (by omega) mo1 (k_Mo_isNode l D τ A ad N w1 hb t1 n32 b32 s32 p32 mo1 X.n hn hm40 y) rfl rfl ⟨by decide, by decide⟩ rfl hl.1 rfl (Nat.le_of_ble_eq_true rfl) d_Mo_tree_20 ⟨Nat.le_refl _, Nat.le_refl _⟩) (fun v7 w7 H7 locs7 hp7 hW7 => ?_)
      obtain ⟨hq7, hp7⟩ := hp7
      replace hq7 := hq7.symm
      subst hq7
      refine q_if_eq (tgt := 35) F d_Mo_tree_23 (by decide) (fun c23 => ?_) (fun c23 => ?_)
      · refine q_iconst F d_Mo_tree_35 (by decide) (fun v8 hv8 => ?_)
        refine lv_goto (tgt := 53) F.1 F.2.1 d_Mo_tree_36 (by decide) ?_
        refine pf_Mo_57 F hW7 (by omega) mo1 d_Mo_tree_53 (fun H9 locs9 w9 hW9 hI9 hfr9 => ?_)
        replace mo1 := hI9
        refine lv_aload_n F.1 F.2.1 d_Mo_tree_56 rfl (lv_at hl 0 rfl) ?_
        refine gf_Mo_57 F hW9 (by omega) mo1 d_Mo_tree_57 ?_
        refine q_if_eq (tgt := 65) F d_Mo_tree_60 (by decide) (fun c10 => ?_) (fun c10 => ?_)
        · exact absurd c10 (by omega)
        · refine q_iconst F d_Mo_tree_63 (by decide) (fun v11 hv11 => ?_)
          exact q_iret F hr hlk hW9 ⟨2, X, ⟨rfl, Or.inr ⟨hbt, Or.inl ⟨rfl, fun q => qb_f hp7 (by omega) q.2.1⟩⟩⟩, ⟨⟨_, n32, b32, s32, p32, mo1, hv8, hn, hbb, hs, hpp⟩, hR.keep (fun q _ _ => hfr9 q (by omega))⟩, fun q hq => (hfr9 q (by omega)).trans (hf0 q (by omega))⟩ d_Mo_tree_64
      · have hy1 := qb_t hp7 (by omega)
        refine lv_iload_n F.1 F.2.1 d_Mo_tree_26 rfl (lv_at hl 3 rfl) ?_
        refine q_if_lt (tgt := 35) F d_Mo_tree_27 (by decide) (fun c27 => ?_) (fun c27 => ?_)
        · refine q_iconst F d_Mo_tree_35 (by decide) (fun v12 hv12 => ?_)
          refine lv_goto (tgt := 53) F.1 F.2.1 d_Mo_tree_36 (by decide) ?_
          refine pf_Mo_57 F hW7 (by omega) mo1 d_Mo_tree_53 (fun H13 locs13 w13 hW13 hI13 hfr13 => ?_)
          replace mo1 := hI13
          refine lv_aload_n F.1 F.2.1 d_Mo_tree_56 rfl (lv_at hl 0 rfl) ?_
          refine gf_Mo_57 F hW13 (by omega) mo1 d_Mo_tree_57 ?_
          refine q_if_eq (tgt := 65) F d_Mo_tree_60 (by decide) (fun c14 => ?_) (fun c14 => ?_)
          · exact absurd c14 (by omega)
          · refine q_iconst F d_Mo_tree_63 (by decide) (fun v15 hv15 => ?_)
            exact q_iret F hr hlk hW13 ⟨2, X, ⟨rfl, Or.inr ⟨hbt, Or.inl ⟨rfl, fun q => by have q1 := q.2.2.1; have q2 := q.2.2.2; omega⟩⟩⟩, ⟨⟨_, n32, b32, s32, p32, mo1, hv12, hn, hbb, hs, hpp⟩, hR.keep (fun q _ _ => hfr13 q (by omega))⟩, fun q hq => (hfr13 q (by omega)).trans (hf0 q (by omega))⟩ d_Mo_tree_64
        · refine lv_iload_n F.1 F.2.1 d_Mo_tree_30 rfl (lv_at hl 3 rfl) ?_
          refine q_iconst F d_Mo_tree_31 (by decide) (fun v16 hv16 => ?_)
          refine q_icmp_le (tgt := 39) F d_Mo_tree_32 (by decide) (fun c32 => ?_) (fun c32 => ?_)
          · obtain ⟨a, hxa⟩ : ∃ a : Nat, x.toInt = (a : Int) := ⟨x.toInt.toNat, by omega⟩
            obtain ⟨c, hxc⟩ : ∃ c : Nat, y.toInt = (c : Int) := ⟨y.toInt.toNat, by omega⟩
            obtain ⟨-, -, -, ⟨B1, hM, hMi⟩, -⟩ := id hMb
            have hMc := hMi a (by omega)
            have hok : zn X x.toInt ∧ zn X y.toInt ∧ 0 ≤ z.toInt ∧ z.toInt < 4 := ⟨hx1, hy1, by omega, by omega⟩
            refine lv_aload_n F.1 F.2.1 d_Mo_tree_39 rfl (lv_at hl 0 rfl) ?_
            refine gf_Mo_32 F hW7 (by omega) mo1 d_Mo_tree_40 ?_
            refine lv_iload_n F.1 F.2.1 d_Mo_tree_43 rfl (lv_at hl 1 rfl) ?_
            refine q_zald F hW7 hM (by omega) a (by omega) (by omega) d_Mo_tree_44 (fun v17 hv17 => ?_)
            refine q_if_ne (tgt := 52) F d_Mo_tree_45 (by decide) (fun c45 => ?_) (fun c45 => ?_)
            · have hak : X.mk a := hMc.mp (qb_t hv17 (by omega))
              refine q_iconst F d_Mo_tree_52 (by decide) (fun v18 hv18 => ?_)
              refine pf_Mo_57 F hW7 (by omega) mo1 d_Mo_tree_53 (fun H19 locs19 w19 hW19 hI19 hfr19 => ?_)
              replace mo1 := hI19
              refine lv_aload_n F.1 F.2.1 d_Mo_tree_56 rfl (lv_at hl 0 rfl) ?_
              refine gf_Mo_57 F hW19 (by omega) mo1 d_Mo_tree_57 ?_
              refine q_if_eq (tgt := 65) F d_Mo_tree_60 (by decide) (fun c20 => ?_) (fun c20 => ?_)
              · replace hR := hR.keep (fun q _ _ => hfr19 q (by omega))
                replace hMb := hMb.keep (fun q _ _ _ => hfr19 q (by omega))
                replace hf0 : ∀ q, q ≠ 469 → w19 q = w q := fun q hq => (hfr19 q hq).trans (hf0 q hq)
                replace hPl := hPl.keep (hfr19 _ (by omega))
                replace hGo := hGo.keep (hfr19 _ (by omega))
                replace hPd := hPd.keep (hfr19 _ (by omega))
                clear hM hMi hMc
                clear hm1 hm40 hZ
                obtain ⟨hm1, hm40, hZ, hall, hmk1, hmk2⟩ := id hB
                obtain ⟨⟨V, hV, hVf⟩, ⟨GO, hGO, hGOf⟩, ⟨T, hT, hTf⟩, ⟨B1, hM, hMi⟩, ⟨O, hO, hOf⟩, PA, hPA, hPAf⟩ := id hMb
                have hdb : ∀ a b, a < X.n → b < X.n → 0 ≤ zd X.n X.Wo a b ∧ zd X.n X.Wo a b ≤ 1000000 := fun a b ha hb9 => zd_bd hZ.1 ha hb9
                have hWb : ∀ a b, a < X.n → b < X.n → 0 ≤ X.Wo a b ∧ X.Wo a b ≤ 1000 := fun a b ha hb9 => ⟨(hZ.1.1 a b ha hb9).1, (hZ.1.1 a b ha hb9).2.1⟩
                have hmk3 : ∃ v, v < X.n ∧ X.mk v := hmk2.imp (fun v h => ⟨hmk1 v h, h⟩)
                have ham : a < X.n := by omega
                refine lv_iload_n F.1 F.2.1 d_Mo_tree_65 rfl (lv_at hl 3 rfl) ?_
                refine q_if_ne (tgt := 76) F d_Mo_tree_66 (by decide) (fun c66 => ?_) (fun c66 => ?_)
                · refine lv_iload_n F.1 F.2.1 d_Mo_tree_76 rfl (lv_at hl 3 rfl) ?_
                  refine q_iconst F d_Mo_tree_77 (by decide) (fun v21 hv21 => ?_)
                  refine q_icmp_ne (tgt := 88) F d_Mo_tree_78 (by decide) (fun c78 => ?_) (fun c78 => ?_)
                  · refine lv_iload_n F.1 F.2.1 d_Mo_tree_88 rfl (lv_at hl 3 rfl) ?_
                    refine q_iconst F d_Mo_tree_89 (by decide) (fun v22 hv22 => ?_)
                    refine q_icmp_ne (tgt := 102) F d_Mo_tree_90 (by decide) (fun c90 => ?_) (fun c90 => ?_)
                    · have hPr := hPAf a c ham (by omega) hak
                      refine lv_aload_n F.1 F.2.1 d_Mo_tree_102 rfl (lv_at hl 0 rfl) ?_
                      refine gf_Mo_45 F hW19 (by omega) mo1 d_Mo_tree_103 ?_
                      refine q_bipush F d_Mo_tree_106 (by decide) (fun v23 hv23 => ?_)
                      refine lv_iload_n F.1 F.2.1 d_Mo_tree_108 rfl (lv_at hl 1 rfl) ?_
                      refine q_imul F d_Mo_tree_109 (by rw [hv23]; omega) (fun v24 hv24 => ?_)
                      rw [hv23] at hv24
                      refine lv_iload_n F.1 F.2.1 d_Mo_tree_110 rfl (lv_at hl 2 rfl) ?_
                      refine q_iadd F d_Mo_tree_111 (by omega) (fun v25 hv25 => ?_)
                      refine q_iald F hW19 hPA (by omega) ((40 * a) + c) (by omega) (by omega) d_Mo_tree_112 (fun v26 hv26 => ?_)
                      exact q_iret F hr hlk hW19 ⟨0, X, ⟨rfl, Or.inr ⟨hbt, Or.inr ⟨hok, Or.inr ⟨rfl, by rw [hxa]; simp only [Int.toNat_natCast]; exact hak, by rw [hxa, hxc]; simp only [Int.toNat_natCast]; exact Or.inr (Or.inr (Or.inr ⟨by omega, by rw [hv26]; exact hPr⟩))⟩⟩⟩⟩, ⟨⟨_, n32, b32, s32, p32, mo1, hv18, hn, hbb, hs, hpp⟩, hR⟩, fun q hq => hf0 q (by omega)⟩ d_Mo_tree_113
                    · refine lv_aload_n F.1 F.2.1 d_Mo_tree_93 rfl (lv_at hl 0 rfl) ?_
                      refine lv_iload_n F.1 F.2.1 d_Mo_tree_94 rfl (lv_at hl 1 rfl) ?_
                      refine lv_iload_n F.1 F.2.1 d_Mo_tree_95 rfl (lv_at hl 2 rfl) ?_
                      refine q_calli hW19 (q_cV (As := [.int x, .int y]) (rest := []) F hW19 cs_Mo_124 hd_Mo_heavy rfl (by omega) mo1 (k_Mo_heavy l D τ A ad N w19 hb v18 n32 b32 s32 p32 mo1 X.n hn hm40 a ham PA hPA (zpa X.n X.Wo a) (fun u9 hu9 => hPAf a u9 ham hu9 hak) (zrk X.n X.Wo a) (zpa_ok hZ.1 hall ham) x hxa y c hxc (by omega)) rfl rfl ⟨by decide, by decide⟩ rfl hl.1 rfl (Nat.le_of_ble_eq_true rfl) d_Mo_tree_96 ⟨Nat.le_refl _, Nat.le_refl _⟩) (fun v27 w27 H27 locs27 hp27 hW27 => ?_)
                      obtain ⟨hq27, hp27⟩ := hp27
                      replace hq27 := hq27.symm
                      subst hq27
                      refine lv_goto (tgt := 113) F.1 F.2.1 d_Mo_tree_99 (by decide) ?_
                      exact q_iret F hr hlk hW27 ⟨0, X, ⟨rfl, Or.inr ⟨hbt, Or.inr ⟨hok, Or.inr ⟨rfl, by rw [hxa]; simp only [Int.toNat_natCast]; exact hak, by rw [hxa, hxc]; simp only [Int.toNat_natCast]; exact Or.inr (Or.inr (Or.inl ⟨by omega, hp27⟩))⟩⟩⟩⟩, ⟨⟨_, n32, b32, s32, p32, mo1, hv18, hn, hbb, hs, hpp⟩, hR⟩, fun q hq => hf0 q (by omega)⟩ d_Mo_tree_113
                  · refine lv_aload_n F.1 F.2.1 d_Mo_tree_81 rfl (lv_at hl 0 rfl) ?_
                    refine lv_iload_n F.1 F.2.1 d_Mo_tree_82 rfl (lv_at hl 1 rfl) ?_
                    refine lv_iload_n F.1 F.2.1 d_Mo_tree_83 rfl (lv_at hl 2 rfl) ?_
                    refine q_calli hW19 (q_cV (As := [.int x, .int y]) (rest := []) F hW19 cs_Mo_121 hd_Mo_sizeOf rfl (by omega) mo1 (k_Mo_sizeOf l D τ A ad N w19 hb v18 n32 b32 s32 p32 mo1 X.n hn hm40 a ham PA hPA (zpa X.n X.Wo a) (fun u9 hu9 => hPAf a u9 ham hu9 hak) (zrk X.n X.Wo a) (zpa_ok hZ.1 hall ham) x hxa y c hxc (by omega)) rfl rfl ⟨by decide, by decide⟩ rfl hl.1 rfl (Nat.le_of_ble_eq_true rfl) d_Mo_tree_84 ⟨Nat.le_refl _, Nat.le_refl _⟩) (fun v28 w28 H28 locs28 hp28 hW28 => ?_)
                    obtain ⟨hq28, hp28⟩ := hp28
                    replace hq28 := hq28.symm
                    subst hq28
                    exact q_iret F hr hlk hW28 ⟨0, X, ⟨rfl, Or.inr ⟨hbt, Or.inr ⟨hok, Or.inr ⟨rfl, by rw [hxa]; simp only [Int.toNat_natCast]; exact hak, by rw [hxa, hxc]; simp only [Int.toNat_natCast]; exact Or.inr (Or.inl ⟨by omega, hp28⟩)⟩⟩⟩⟩, ⟨⟨_, n32, b32, s32, p32, mo1, hv18, hn, hbb, hs, hpp⟩, hR⟩, fun q hq => hf0 q (by omega)⟩ d_Mo_tree_87
                · refine lv_aload_n F.1 F.2.1 d_Mo_tree_69 rfl (lv_at hl 0 rfl) ?_
                  refine lv_iload_n F.1 F.2.1 d_Mo_tree_70 rfl (lv_at hl 1 rfl) ?_
                  refine lv_iload_n F.1 F.2.1 d_Mo_tree_71 rfl (lv_at hl 2 rfl) ?_
                  refine q_calli hW19 (q_cV (As := [.int x, .int y]) (rest := []) F hW19 cs_Mo_133 hd_Mo_placeOf rfl (by omega) mo1 (k_Mo_placeOf l D τ A ad N w19 hb v18 n32 b32 s32 p32 mo1 X.n hn hm40 a ham PA hPA (zpa X.n X.Wo a) (fun u9 hu9 => hPAf a u9 ham hu9 hak) (zrk X.n X.Wo a) (zpa_ok hZ.1 hall ham) x hxa y c hxc (by omega)) rfl rfl ⟨by decide, by decide⟩ rfl hl.1 rfl (Nat.le_of_ble_eq_true rfl) d_Mo_tree_72 ⟨Nat.le_refl _, Nat.le_refl _⟩) (fun v29 w29 H29 locs29 hp29 hW29 => ?_)
                  obtain ⟨hq29, hp29⟩ := hp29
                  replace hq29 := hq29.symm
                  subst hq29
                  exact q_iret F hr hlk hW29 ⟨0, X, ⟨rfl, Or.inr ⟨hbt, Or.inr ⟨hok, Or.inr ⟨rfl, by rw [hxa]; simp only [Int.toNat_natCast]; exact hak, by rw [hxa, hxc]; simp only [Int.toNat_natCast]; exact Or.inl ⟨by omega, hp29⟩⟩⟩⟩⟩, ⟨⟨_, n32, b32, s32, p32, mo1, hv18, hn, hbb, hs, hpp⟩, hR⟩, fun q hq => hf0 q (by omega)⟩ d_Mo_tree_75
              · exact absurd c20 (by omega)
            · refine q_iconst F d_Mo_tree_48 (by decide) (fun v30 hv30 => ?_)
              refine lv_goto (tgt := 53) F.1 F.2.1 d_Mo_tree_49 (by decide) ?_
              refine pf_Mo_57 F hW7 (by omega) mo1 d_Mo_tree_53 (fun H31 locs31 w31 hW31 hI31 hfr31 => ?_)
              replace mo1 := hI31
              refine lv_aload_n F.1 F.2.1 d_Mo_tree_56 rfl (lv_at hl 0 rfl) ?_
              refine gf_Mo_57 F hW31 (by omega) mo1 d_Mo_tree_57 ?_
              refine q_if_eq (tgt := 65) F d_Mo_tree_60 (by decide) (fun c32 => ?_) (fun c32 => ?_)
              · exact absurd c32 (by omega)
              · refine q_iconst F d_Mo_tree_63 (by decide) (fun v33 hv33 => ?_)
                exact q_iret F hr hlk hW31 ⟨3, X, ⟨rfl, Or.inr ⟨hbt, Or.inr ⟨hok, Or.inl ⟨rfl, by rw [hxa]; simp only [Int.toNat_natCast]; exact fun q => qb_f hv17 (by omega) (hMc.mpr q)⟩⟩⟩⟩, ⟨⟨_, n32, b32, s32, p32, mo1, hv30, hn, hbb, hs, hpp⟩, hR.keep (fun q _ _ => hfr31 q (by omega))⟩, fun q hq => (hfr31 q (by omega)).trans (hf0 q (by omega))⟩ d_Mo_tree_64
          · refine q_iconst F d_Mo_tree_35 (by decide) (fun v34 hv34 => ?_)
            refine lv_goto (tgt := 53) F.1 F.2.1 d_Mo_tree_36 (by decide) ?_
            refine pf_Mo_57 F hW7 (by omega) mo1 d_Mo_tree_53 (fun H35 locs35 w35 hW35 hI35 hfr35 => ?_)
            replace mo1 := hI35
            refine lv_aload_n F.1 F.2.1 d_Mo_tree_56 rfl (lv_at hl 0 rfl) ?_
            refine gf_Mo_57 F hW35 (by omega) mo1 d_Mo_tree_57 ?_
            refine q_if_eq (tgt := 65) F d_Mo_tree_60 (by decide) (fun c36 => ?_) (fun c36 => ?_)
            · exact absurd c36 (by omega)
            · refine q_iconst F d_Mo_tree_63 (by decide) (fun v37 hv37 => ?_)
              exact q_iret F hr hlk hW35 ⟨2, X, ⟨rfl, Or.inr ⟨hbt, Or.inl ⟨rfl, fun q => by have q1 := q.2.2.1; have q2 := q.2.2.2; omega⟩⟩⟩, ⟨⟨_, n32, b32, s32, p32, mo1, hv34, hn, hbb, hs, hpp⟩, hR.keep (fun q _ _ => hfr35 q (by omega))⟩, fun q hq => (hfr35 q (by omega)).trans (hf0 q (by omega))⟩ d_Mo_tree_64
  · have hnb := qb_f hqb (by omega)
    have ht2 : t1.toInt = 1 := by rcases ht1 with z | z; exact absurd z.1 hnb; exact z.2
    refine q_iconst F d_Mo_tree_7 (by decide) (fun v38 hv38 => ?_)
    exact q_iret F hr hlk hW1 ⟨1, X, ⟨rfl, Or.inl ⟨rfl, hnb⟩⟩, ⟨⟨_, n32, b32, s32, p32, mo1, by omega, hn, hbb, hs, hpp⟩, hR.keep (fun q _ _ => hfr1 q (by omega))⟩, fun q hq => hfr1 q (by omega)⟩ d_Mo_tree_8
