theorem qMs.now {τ : Nat → ClassId} {w w' : Nat → va_E} (h : qMs τ w) (hT : ∃ T, q_I τ w' 474 1600 T) (e : ∀ q, 470 ≤ q → q < 484 → q ≠ 474 → w' q = w q) : qMs τ w' := by
  obtain ⟨⟨_, h1⟩, ⟨_, h2⟩, -, ⟨_, h4⟩, ⟨_, h5⟩, ⟨_, h6⟩, ⟨_, h7⟩, ⟨_, h8⟩, _, h9⟩ := h
  exact ⟨⟨_, h1.keep (e _ (by omega) (by omega) (by omega))⟩, ⟨_, h2.keep (e _ (by omega) (by omega) (by omega))⟩, hT, ⟨_, h4.keep (e _ (by omega) (by omega) (by omega))⟩, ⟨_, h5.keep (e _ (by omega) (by omega) (by omega))⟩, ⟨_, h6.keep (e _ (by omega) (by omega) (by omega))⟩, ⟨_, h7.keep (e _ (by omega) (by omega) (by omega))⟩, ⟨_, h8.keep (e _ (by omega) (by omega) (by omega))⟩, _, h9.keep (e _ (by omega) (by omega) (by omega))⟩
theorem qMr.now {τ : Nat → ClassId} {w w' : Nat → va_E} {X : zSt} (h : qMr τ w X) (hT : ∃ T, q_I τ w' 474 1600 T) (e : ∀ q, 470 ≤ q → q < 484 → q ≠ 474 → w' q = w q) : qMr τ w' X := by
  obtain ⟨⟨_, h1, k1⟩, ⟨_, h2, k2⟩, h3, h4, h5, h6, h7⟩ := h
  exact ⟨⟨_, h1.keep (e _ (by omega) (by omega) (by omega)), k1⟩, ⟨_, h2.keep (e _ (by omega) (by omega) (by omega)), k2⟩, h3.now hT e, fun b => (h4 b).keep (fun q _ _ hq => e q (by omega) (by omega) hq), h5.keep (e _ (by omega) (by omega) (by omega)), h6.keep (e _ (by omega) (by omega) (by omega)), h7.keep (e _ (by omega) (by omega) (by omega))⟩
theorem zN_all {m most k : Nat} {d : Nat → Nat → Int} {M0 : Nat → Prop} (hk : k ≤ m) (h : zcd m d most (zN m d most M0 k) = -1) (v : Nat) : zN m d most M0 m v ↔ zN m d most M0 k v := by
  have := zN_stop h (m - k) v
  rw [show k + (m - k) = m by omega] at this
  exact this
set_option maxHeartbeats 4000000 in
set_option maxRecDepth 100000 in
/-- build -/
theorem k_Mo_build (l : Launch) (D : va_G) (τ : Nat → ClassId) (A : Nat → Prop) (ad : Nat → Nat) (N : Nat) (w : Nat → va_E) (hb : 484 ≤ N) (X : zSt) (Bd : Nat) (t0 : Int) (hX : qMo τ ad w X t0) (hO : zOK X Bd) (hB9 : Bd ≤ 1000) (x : Int32) : Met l y_Mo_build (qws y_Mo_build c_Mo_build 7 (some .int)) ({ frames := 8, cells := 0, slots := 0, locals := 180 }) (qPc D τ A ad N w [.ref (ad 469), .int x]) (va_Qi (fun r1 w1 => ∃ k X9, zR_build X x.toInt k r1.toInt X9 ∧ qMo τ ad w1 X9 k ∧ (∀ q, (q < 469 ∨ 484 ≤ q) → w1 q = w q)) (qB D τ A ad N) A) 0 0 A := by
  refine q_of (by decide) (Nat.le_of_ble_eq_true rfl) rfl ?_
  intro PP EE s MM below meth CC ls F hr hlk hnm hex hl hW
  have hl : lv_has ls 7 [(0, .ref (ad 469)), (1, .int x)] := hl
  obtain ⟨⟨th, n32, b32, s32, p32, mo, ht, hn, hbb, hs, hpp⟩, hR⟩ := id hX
  obtain ⟨⟨GW, hGW, hGWf⟩, ⟨GP, hGP, hGPf⟩, hMs, hMb, hPl, hGo, hPd⟩ := id hR
  obtain ⟨hm1, hm40, hZ, hBt, hpk16, hpkb, hpk9, hsn⟩ := id hO
  refine lv_aload_n F.1 F.2.1 d_Mo_build_0 rfl (lv_at hl 0 rfl) ?_
  refine lv_iload_n F.1 F.2.1 d_Mo_build_1 rfl (lv_at hl 1 rfl) ?_
  refine q_iconst F d_Mo_build_2 (by decide) (fun v1 hv1 => ?_)
  refine q_icmp_lt (tgt := 12) F d_Mo_build_3 (by decide) (fun c3 => ?_) (fun c3 => ?_)
  · refine q_iconst F d_Mo_build_12 (by decide) (fun v2 hv2 => ?_)
    refine lv_goto (tgt := 17) F.1 F.2.1 d_Mo_build_13 (by decide) ?_
    refine pf_Mo_57 F hW (by omega) mo d_Mo_build_17 (fun H3 locs3 w3 hW3 hI3 hfr3 => ?_)
    replace mo := hI3
    refine lv_aload_n F.1 F.2.1 d_Mo_build_20 rfl (lv_at hl 0 rfl) ?_
    refine gf_Mo_57 F hW3 (by omega) mo d_Mo_build_21 ?_
    refine q_if_eq (tgt := 29) F d_Mo_build_24 (by decide) (fun c4 => ?_) (fun c4 => ?_)
    · exact absurd c4 (by omega)
    · refine q_iconst F d_Mo_build_27 (by decide) (fun v5 hv5 => ?_)
      exact q_iret F hr hlk hW3 ⟨1, X, Or.inl ⟨rfl, rfl, by omega⟩, ⟨⟨_, n32, b32, s32, p32, mo, hv2, hn, hbb, hs, hpp⟩, hR.keep (fun q _ _ => hfr3 q (by omega))⟩, fun q hq => hfr3 q (by omega)⟩ d_Mo_build_28
  · refine lv_iload_n F.1 F.2.1 d_Mo_build_6 rfl (lv_at hl 1 rfl) ?_
    refine q_bipush F d_Mo_build_7 (by decide) (fun v6 hv6 => ?_)
    refine q_icmp_le (tgt := 16) F d_Mo_build_9 (by decide) (fun c9 => ?_) (fun c9 => ?_)
    · refine q_iconst F d_Mo_build_16 (by decide) (fun v7 hv7 => ?_)
      refine pf_Mo_57 F hW (by omega) mo d_Mo_build_17 (fun H8 locs8 w8 hW8 hI8 hfr8 => ?_)
      replace mo := hI8
      refine lv_aload_n F.1 F.2.1 d_Mo_build_20 rfl (lv_at hl 0 rfl) ?_
      refine gf_Mo_57 F hW8 (by omega) mo d_Mo_build_21 ?_
      refine q_if_eq (tgt := 29) F d_Mo_build_24 (by decide) (fun c9 => ?_) (fun c9 => ?_)
      · obtain ⟨bk, hxbk⟩ : ∃ bk : Nat, x.toInt = (bk : Int) := ⟨x.toInt.toNat, by omega⟩
        obtain ⟨⟨V0, hV0⟩, ⟨P0, hP0⟩, ⟨N9, hN9⟩, ⟨T0, hT0⟩, ⟨M0, hM0⟩, ⟨B0, hB0⟩, ⟨S0, hS0⟩, ⟨O0, hO0⟩, A0, hA0⟩ := id hMs
        replace hGW := hGW.keep (hfr8 _ (by omega))
        replace hGP := hGP.keep (hfr8 _ (by omega))
        replace hV0 := hV0.keep (hfr8 _ (by omega))
        replace hP0 := hP0.keep (hfr8 _ (by omega))
        replace hN9 := hN9.keep (hfr8 _ (by omega))
        replace hT0 := hT0.keep (hfr8 _ (by omega))
        replace hM0 := hM0.keep (hfr8 _ (by omega))
        replace hB0 := hB0.keep (hfr8 _ (by omega))
        replace hS0 := hS0.keep (hfr8 _ (by omega))
        replace hO0 := hO0.keep (hfr8 _ (by omega))
        replace hA0 := hA0.keep (hfr8 _ (by omega))
        replace hPl := hPl.keep (hfr8 _ (by omega))
        replace hGo := hGo.keep (hfr8 _ (by omega))
        replace hPd := hPd.keep (hfr8 _ (by omega))
        refine lv_aload_n F.1 F.2.1 d_Mo_build_29 rfl (lv_at hl 0 rfl) ?_
        refine q_callv hW8 (q_cV (As := []) (rest := []) F hW8 cs_Mo_79 hd_Mo_measure rfl (by omega) mo (k_Mo_measure l D τ A ad N w8 hb v7 n32 b32 s32 p32 mo X.n hn hm40 GW hGW X.Wt hGWf N9 hN9 hZ.1) rfl rfl ⟨by decide, by decide⟩ rfl hl.1 rfl (Nat.le_of_ble_eq_true rfl) d_Mo_build_30 ⟨Nat.le_refl _, Nat.le_refl _⟩) (fun w10 H10 locs10 hp10 hW10 => ?_)
        obtain ⟨⟨T9, hT9, hT9f⟩, hfr10⟩ := hp10
        clear hN9
        replace hGW := hGW.keep (hfr10 _ (by omega))
        replace hGP := hGP.keep (hfr10 _ (by omega))
        replace hV0 := hV0.keep (hfr10 _ (by omega))
        replace hP0 := hP0.keep (hfr10 _ (by omega))
        replace hT0 := hT0.keep (hfr10 _ (by omega))
        replace hM0 := hM0.keep (hfr10 _ (by omega))
        replace hB0 := hB0.keep (hfr10 _ (by omega))
        replace hS0 := hS0.keep (hfr10 _ (by omega))
        replace hO0 := hO0.keep (hfr10 _ (by omega))
        replace hA0 := hA0.keep (hfr10 _ (by omega))
        replace hPl := hPl.keep (hfr10 _ (by omega))
        replace hGo := hGo.keep (hfr10 _ (by omega))
        replace hPd := hPd.keep (hfr10 _ (by omega))
        replace mo := (hfr10 _ (by omega)).trans mo
        have hfa : ∀ q, (q ≠ 469 ∧ q ≠ 474) → w10 q = w q := fun q hq => (hfr10 q hq.2).trans (hfr8 q hq.1)
        have hT90 : ∀ b, b < X.n → T9 b = zd X.n X.Wt 0 b := fun b hb9 => by have h9 := hT9f 0 b (by omega) hb9; rw [show 40 * 0 + b = b by omega] at h9; exact h9
        refine q_iconst F d_Mo_build_33 (by decide) (fun v11 hv11 => ?_)
        refine lv_istore_n (lv' := [(2, .int v11), (0, .ref (ad 469)), (1, .int x)]) F.1 F.2.1 d_Mo_build_34 rfl hl (by decide) rfl (fun ls12 hl12 => ?_)
        clear hl
        obtain ⟨i, hi0⟩ : ∃ i : Nat, i = 0 := ⟨_, rfl⟩
        have hiv : v11.toInt = (i : Int) := by omega
        have hib : i ≤ X.n := by omega
        obtain ⟨wl, hwl⟩ : ∃ x : Nat → va_E, x = w10 := ⟨_, rfl⟩
        have hWl : qW D τ A s H10 locs10 ad N wl := by rw [hwl]; exact hW10
        have hfl : ∀ q, q ≠ 469 → wl q = w10 q := fun q _ => by rw [hwl]
        have hth : ∃ t9 : Int32, wl 469 = .inr (7, [.int t9, .int n32, .ref (ad 470), .ref (ad 471), .ref (ad 472), .ref (ad 473), .ref (ad 474), .ref (ad 475), .int b32, .ref (ad 476), .ref (ad 477), .ref (ad 478), .ref (ad 479), .ref (ad 480), .int s32, .int p32, .ref (ad 481), .ref (ad 482), .ref (ad 483)]) ∧ ((t9.toInt = 0 ∧ ∀ c, c < i → zd X.n X.Wt 0 c < 1000000) ∨ (t9.toInt = 2 ∧ ¬ ∀ c, c < X.n → zd X.n X.Wt 0 c < 1000000)) := ⟨_, by rw [hwl]; exact mo, Or.inl ⟨hv7, fun c hc => absurd hc (by omega)⟩⟩
        clear hi0 hv11 hwl
        generalize H10 = Hl at hWl ⊢
        generalize locs10 = locsl at hWl ⊢
        obtain ⟨f, hf⟩ : ∃ f : Nat, X.n + 1 ≤ i + f := ⟨X.n + 1, by omega⟩
        induction f generalizing i v11 ls12 wl Hl locsl with
        | zero => exact absurd hf (by omega)
        | succ f ihi =>
          obtain ⟨t9, mo9, ht9⟩ := hth
          have hT9l := hT9.keep (hfl 474 (by omega))
          refine lv_iload_n F.1 F.2.1 d_Mo_build_35 rfl (lv_at hl12 0 rfl) ?_
          refine lv_aload_n F.1 F.2.1 d_Mo_build_36 rfl (lv_at hl12 1 rfl) ?_
          refine gf_Mo_7 F hWl (by omega) mo9 d_Mo_build_37 ?_
          refine q_icmp_ge (tgt := 72) F d_Mo_build_40 (by decide) (fun c40 => ?_) (fun c40 => ?_)
          · refine lv_aload_n F.1 F.2.1 d_Mo_build_72 rfl (lv_at hl12 1 rfl) ?_
            refine gf_Mo_57 F hWl (by omega) mo9 d_Mo_build_73 ?_
            refine q_if_eq (tgt := 81) F d_Mo_build_76 (by decide) (fun c76 => ?_) (fun c76 => ?_)
            · have hallY : zall X.n X.Wt := by
                rw [zall_0 hZ.1 hm40 hm1]
                rcases ht9 with ⟨-, z⟩ | ⟨z, -⟩
                · exact fun c hc => z c (by omega)
                · omega
              have ht0 : t9.toInt = 0 := by omega
              clear ht9 ihi hf hib hiv hT9l
              replace hGW := hGW.keep (hfl _ (by omega))
              replace hGP := hGP.keep (hfl _ (by omega))
              replace hV0 := hV0.keep (hfl _ (by omega))
              replace hP0 := hP0.keep (hfl _ (by omega))
              replace hT0 := hT0.keep (hfl _ (by omega))
              replace hM0 := hM0.keep (hfl _ (by omega))
              replace hB0 := hB0.keep (hfl _ (by omega))
              replace hS0 := hS0.keep (hfl _ (by omega))
              replace hO0 := hO0.keep (hfl _ (by omega))
              replace hA0 := hA0.keep (hfl _ (by omega))
              replace hPl := hPl.keep (hfl _ (by omega))
              replace hGo := hGo.keep (hfl _ (by omega))
              replace hPd := hPd.keep (hfl _ (by omega))
              replace hT9 := hT9.keep (hfl _ (by omega))
              replace hfa : ∀ q, (q ≠ 469 ∧ q ≠ 474) → wl q = w q := fun q hq => (hfl q hq.1).trans (hfa q hq)
              clear hfl
              refine q_iconst F d_Mo_build_81 (by decide) (fun v13 hv13 => ?_)
              refine lv_istore_n (lv' := [(2, .int v13), (0, .ref (ad 469)), (1, .int x)]) F.1 F.2.1 d_Mo_build_82 rfl hl12 (by decide) rfl (fun ls14 hl14 => ?_)
              clear hl12
              obtain ⟨i, hi0⟩ : ∃ i : Nat, i = 0 := ⟨_, rfl⟩
              have hiv : v13.toInt = (i : Int) := by omega
              have hib : i ≤ 1600 := by omega
              obtain ⟨wc, hwc⟩ : ∃ x : Nat → va_E, x = wl := ⟨_, rfl⟩
              have hWc : qW D τ A s Hl locsl ad N wc := by rw [hwc]; exact hWl
              have hfc : ∀ q, (q ≠ 472 ∧ q ≠ 475) → wc q = wl q := fun q _ => by rw [hwc]
              have hcp : ∃ T1 V1, q_I τ wc 475 1600 T1 ∧ q_I τ wc 472 1600 V1 ∧ ∀ j, j < i → T1 j = T9 j ∧ V1 j = GW j := ⟨_, _, by rw [hwc]; exact hT0, by rw [hwc]; exact hV0, fun j hj => absurd hj (by omega)⟩
              clear hi0 hv13 hwc
              generalize Hl = Hc at hWc ⊢
              generalize locsl = locsc at hWc ⊢
              obtain ⟨f1, hf1⟩ : ∃ f1 : Nat, 1600 + 1 ≤ i + f1 := ⟨1600 + 1, by omega⟩
              induction f1 generalizing i v13 ls14 wc Hc locsc with
              | zero => exact absurd hf1 (by omega)
              | succ f1 ihi =>
                obtain ⟨T1, V1, hT1, hV1, hcp1⟩ := hcp
                have moc := (hfc 469 (by omega)).trans mo9
                have hT9c := hT9.keep (hfc 474 (by omega))
                have hGWc := hGW.keep (hfc 470 (by omega))
                refine lv_iload_n F.1 F.2.1 d_Mo_build_83 rfl (lv_at hl14 0 rfl) ?_
                refine q_sipush F d_Mo_build_84 (by decide) (fun v15 hv15 => ?_)
                refine q_icmp_ge (tgt := 120) F d_Mo_build_87 (by decide) (fun c87 => ?_) (fun c87 => ?_)
                · have hT1f : ∀ a b, a < X.n → b < X.n → T1 (40 * a + b) = zd X.n X.Wt a b := fun a b ha hb9 => by rw [(hcp1 _ (by omega)).1]; exact hT9f a b ha hb9
                  have hV1f : ∀ a b, a < X.n → b < X.n → V1 (40 * a + b) = X.Wt a b := fun a b ha hb9 => by rw [(hcp1 _ (by omega)).2]; exact hGWf a b ha hb9
                  clear hcp1 ihi hf1 hib hiv hT9c hGWc hT0 hV0
                  replace hGW := hGW.keep (hfc _ (by omega))
                  replace hGP := hGP.keep (hfc _ (by omega))
                  replace hP0 := hP0.keep (hfc _ (by omega))
                  replace hM0 := hM0.keep (hfc _ (by omega))
                  replace hB0 := hB0.keep (hfc _ (by omega))
                  replace hS0 := hS0.keep (hfc _ (by omega))
                  replace hO0 := hO0.keep (hfc _ (by omega))
                  replace hA0 := hA0.keep (hfc _ (by omega))
                  replace hPl := hPl.keep (hfc _ (by omega))
                  replace hGo := hGo.keep (hfc _ (by omega))
                  replace hPd := hPd.keep (hfc _ (by omega))
                  replace hT9 := hT9.keep (hfc _ (by omega))
                  replace hfa : ∀ q, (q ≠ 469 ∧ q ≠ 474 ∧ q ≠ 472 ∧ q ≠ 475) → wc q = w q := fun q hq => (hfc q (by omega)).trans (hfa q (by omega))
                  clear hfc
                  refine q_iconst F d_Mo_build_120 (by decide) (fun v16 hv16 => ?_)
                  refine lv_istore_n (lv' := [(2, .int v16), (0, .ref (ad 469)), (1, .int x)]) F.1 F.2.1 d_Mo_build_121 rfl hl14 (by decide) rfl (fun ls17 hl17 => ?_)
                  clear hl14
                  obtain ⟨i, hi0⟩ : ∃ i : Nat, i = 0 := ⟨_, rfl⟩
                  have hiv : v16.toInt = (i : Int) := by omega
                  have hib : i ≤ 640 := by omega
                  obtain ⟨wd, hwd⟩ : ∃ x : Nat → va_E, x = wc := ⟨_, rfl⟩
                  have hWd : qW D τ A s Hc locsc ad N wd := by rw [hwd]; exact hWc
                  have hfd : ∀ q, q ≠ 473 → wd q = wc q := fun q _ => by rw [hwd]
                  have hcp : ∃ P1, q_I τ wd 473 640 P1 ∧ ∀ j, j < i → P1 j = GP j := ⟨_, by rw [hwd]; exact hP0, fun j hj => absurd hj (by omega)⟩
                  clear hi0 hv16 hwd
                  generalize Hc = Hd at hWd ⊢
                  generalize locsc = locsd at hWd ⊢
                  obtain ⟨f1, hf1⟩ : ∃ f1 : Nat, 640 + 1 ≤ i + f1 := ⟨640 + 1, by omega⟩
                  induction f1 generalizing i v16 ls17 wd Hd locsd with
                  | zero => exact absurd hf1 (by omega)
                  | succ f1 ihi =>
                    obtain ⟨P1, hP1, hcp1⟩ := hcp
                    have mod9 := (hfd 469 (by omega)).trans moc
                    have hGPc := hGP.keep (hfd 471 (by omega))
                    refine lv_iload_n F.1 F.2.1 d_Mo_build_122 rfl (lv_at hl17 0 rfl) ?_
                    refine q_sipush F d_Mo_build_123 (by decide) (fun v18 hv18 => ?_)
                    refine q_icmp_ge (tgt := 147) F d_Mo_build_126 (by decide) (fun c126 => ?_) (fun c126 => ?_)
                    · have hP1f : ∀ a b, a < X.n → b < 16 → P1 (16 * a + b) = X.bh a b := fun a b ha hb9 => by rw [hcp1 _ (by omega)]; exact hGPf a b ha hb9
                      clear hcp1 ihi hf1 hib hiv hGPc hP0
                      replace hGW := hGW.keep (hfd _ (by omega))
                      replace hGP := hGP.keep (hfd _ (by omega))
                      replace hM0 := hM0.keep (hfd _ (by omega))
                      replace hB0 := hB0.keep (hfd _ (by omega))
                      replace hS0 := hS0.keep (hfd _ (by omega))
                      replace hO0 := hO0.keep (hfd _ (by omega))
                      replace hA0 := hA0.keep (hfd _ (by omega))
                      replace hPl := hPl.keep (hfd _ (by omega))
                      replace hGo := hGo.keep (hfd _ (by omega))
                      replace hPd := hPd.keep (hfd _ (by omega))
                      replace hT9 := hT9.keep (hfd _ (by omega))
                      replace hT1 := hT1.keep (hfd _ (by omega))
                      replace hV1 := hV1.keep (hfd _ (by omega))
                      replace hfa : ∀ q, (q ≠ 469 ∧ q ≠ 474 ∧ q ≠ 472 ∧ q ≠ 475 ∧ q ≠ 473) → wd q = w q := fun q hq => (hfd q (by omega)).trans (hfa q (by omega))
                      clear hfd
                      refine lv_aload_n F.1 F.2.1 d_Mo_build_147 rfl (lv_at hl17 1 rfl) ?_
                      refine lv_iload_n F.1 F.2.1 d_Mo_build_148 rfl (lv_at hl17 2 rfl) ?_
                      refine q_calli hWd (q_cV (As := [.int x]) (rest := []) F hWd cs_Mo_97 hd_Mo_firstMarks rfl (by omega) mod9 (k_Mo_firstMarks l D τ A ad N wd hb t9 n32 b32 s32 p32 mod9 X.n hn hm40 T1 hT1 X.Wt hT1f hm1 hZ.1 M0 B0 S0 hM0 hB0 hS0 x bk hxbk) rfl rfl ⟨by decide, by decide⟩ rfl hl17.1 rfl (Nat.le_of_ble_eq_true rfl) d_Mo_build_149 ⟨Nat.le_refl _, Nat.le_refl _⟩) (fun v19 w19 H19 locs19 hp19 hW19 => ?_)
                      obtain ⟨⟨M1, hM1, hM1i, hr1⟩, ⟨B1, hB1⟩, ⟨S1, hS1⟩, hfr19⟩ := hp19
                      clear hM0 hB0 hS0
                      replace hGW := hGW.keep (hfr19 _ (by omega))
                      replace hGP := hGP.keep (hfr19 _ (by omega))
                      replace hO0 := hO0.keep (hfr19 _ (by omega))
                      replace hA0 := hA0.keep (hfr19 _ (by omega))
                      replace hPl := hPl.keep (hfr19 _ (by omega))
                      replace hGo := hGo.keep (hfr19 _ (by omega))
                      replace hPd := hPd.keep (hfr19 _ (by omega))
                      replace hT9 := hT9.keep (hfr19 _ (by omega))
                      replace hT1 := hT1.keep (hfr19 _ (by omega))
                      replace hV1 := hV1.keep (hfr19 _ (by omega))
                      replace hP1 := hP1.keep (hfr19 _ (by omega))
                      replace mod9 := (hfr19 _ (by omega)).trans mod9
                      replace hfa : ∀ q, (q ≠ 469 ∧ q ≠ 474 ∧ q ≠ 472 ∧ q ≠ 475 ∧ q ≠ 473 ∧ q ≠ 476 ∧ q ≠ 477 ∧ q ≠ 478) → w19 q = w q := fun q hq => (hfr19 q (by omega)).trans (hfa q (by omega))
                      obtain ⟨MM0, hMM0⟩ : ∃ MM0, MM0 = zM X.n (zbl X.n X.Wt bk) X.n := ⟨_, rfl⟩
                      rw [← hMM0] at hM1i hr1
                      obtain ⟨u0, hu0, hu1⟩ : ∃ u, u < X.n ∧ MM0 u := by obtain ⟨u, h1, h2, -⟩ := zM_served (n := X.n) (ball := zbl X.n X.Wt bk) (fun a ha => zbl_self hZ.1 ha (by omega)) 0 (by omega); exact ⟨u, h1, by rw [hMM0]; exact h2⟩
                      have hc0 : 0 < zc MM0 X.n := zc_pos hu0 hu1
                      have hc1 := zc_le MM0 X.n
                      refine lv_istore_n (lv' := [(2, .int v19), (0, .ref (ad 469)), (1, .int x)]) F.1 F.2.1 d_Mo_build_152 rfl hl17 (by decide) rfl (fun ls20 hl20 => ?_)
                      clear hl17
                      refine q_iconst F d_Mo_build_153 (by decide) (fun v21 hv21 => ?_)
                      refine lv_aload_n F.1 F.2.1 d_Mo_build_154 rfl (lv_at hl20 1 rfl) ?_
                      refine gf_Mo_7 F hW19 (by omega) mod9 d_Mo_build_155 ?_
                      refine q_imul F d_Mo_build_158 (by rw [hv21]; omega) (fun v22 hv22 => ?_)
                      rw [hv21] at hv22
                      refine lv_iload_n F.1 F.2.1 d_Mo_build_159 rfl (lv_at hl20 0 rfl) ?_
                      refine q_iadd F d_Mo_build_160 (by omega) (fun v23 hv23 => ?_)
                      refine q_iconst F d_Mo_build_161 (by decide) (fun v24 hv24 => ?_)
                      refine q_isub F d_Mo_build_162 (by omega) (fun v25 hv25 => ?_)
                      refine lv_iload_n F.1 F.2.1 d_Mo_build_163 rfl (lv_at hl20 0 rfl) ?_
                      refine q_idiv F (by omega) (by omega) d_Mo_build_164 (fun v26 hv26 => ?_)
                      obtain ⟨most, hmost⟩ : ∃ most, most = zmo X.n MM0 := ⟨_, rfl⟩
                      have hmv : v26.toInt = (most : Int) := by
                        rw [hv26, hmost]
                        unfold zmo
                        rw [Int.natCast_ediv, show v25.toInt = ((4 * X.n + zc MM0 X.n - 1 : Nat) : Int) by omega, hr1]
                      have hdb : ∀ a b, a < X.n → b < X.n → 0 ≤ zd X.n X.Wt a b ∧ zd X.n X.Wt a b ≤ 1000000 := fun a b ha hb9 => zd_bd hZ.1 ha hb9
                      have hWb : ∀ a b, a < X.n → b < X.n → 0 ≤ X.Wt a b ∧ X.Wt a b ≤ 1000 := fun a b ha hb9 => ⟨(hZ.1.1 a b ha hb9).1, (hZ.1.1 a b ha hb9).2.1⟩
                      have hsym : ∀ a b, a < X.n → b < X.n → zd X.n X.Wt a b = zd X.n X.Wt b a := fun a b ha hb9 => zd_sym hZ.1 ha hb9
                      refine lv_istore_n (lv' := [(3, .int v26), (2, .int v19), (0, .ref (ad 469)), (1, .int x)]) F.1 F.2.1 d_Mo_build_165 rfl hl20 (by decide) rfl (fun ls27 hl27 => ?_)
                      clear hl20
                      refine lv_aload_n F.1 F.2.1 d_Mo_build_166 rfl (lv_at hl27 2 rfl) ?_
                      refine q_callv hW19 (q_cV (As := []) (rest := []) F hW19 cs_Mo_100 hd_Mo_findOwn rfl (by omega) mod9 (k_Mo_findOwn l D τ A ad N w19 hb t9 n32 b32 s32 p32 mod9 X.n hn hm40 T1 hT1 (zd X.n X.Wt) hT1f M1 hM1 O0 hO0) rfl rfl ⟨by decide, by decide⟩ rfl hl27.1 rfl (Nat.le_of_ble_eq_true rfl) d_Mo_build_167 ⟨Nat.le_refl _, Nat.le_refl _⟩) (fun w28 H28 locs28 hp28 hW28 => ?_)
                      obtain ⟨⟨O1, hO1, hO1f⟩, hfr28⟩ := hp28
                      clear hO0
                      replace hGW := hGW.keep (hfr28 _ (by omega))
                      replace hGP := hGP.keep (hfr28 _ (by omega))
                      replace hA0 := hA0.keep (hfr28 _ (by omega))
                      replace hPl := hPl.keep (hfr28 _ (by omega))
                      replace hGo := hGo.keep (hfr28 _ (by omega))
                      replace hPd := hPd.keep (hfr28 _ (by omega))
                      replace hT9 := hT9.keep (hfr28 _ (by omega))
                      replace hT1 := hT1.keep (hfr28 _ (by omega))
                      replace hV1 := hV1.keep (hfr28 _ (by omega))
                      replace hP1 := hP1.keep (hfr28 _ (by omega))
                      replace mod9 := (hfr28 _ (by omega)).trans mod9
                      replace hM1 := hM1.keep (hfr28 _ (by omega))
                      replace hB1 := hB1.keep (hfr28 _ (by omega))
                      replace hS1 := hS1.keep (hfr28 _ (by omega))
                      replace hfa : ∀ q, (q ≠ 469 ∧ q ≠ 474 ∧ q ≠ 472 ∧ q ≠ 475 ∧ q ≠ 473 ∧ q ≠ 476 ∧ q ≠ 477 ∧ q ≠ 478 ∧ q ≠ 479) → w28 q = w q := fun q hq => (hfr28 q (by omega)).trans (hfa q (by omega))
                      refine q_iconst F d_Mo_build_170 (by decide) (fun v29 hv29 => ?_)
                      refine lv_istore (lv' := [(4, .int v29), (3, .int v26), (2, .int v19), (0, .ref (ad 469)), (1, .int x)]) F.1 F.2.1 d_Mo_build_171 hl27 (by decide) rfl (fun ls30 hl30 => ?_)
                      clear hl27
                      obtain ⟨k, hk0⟩ : ∃ k : Nat, k = 0 := ⟨_, rfl⟩
                      obtain ⟨v, hv0⟩ : ∃ v : Nat, v = 0 := ⟨_, rfl⟩
                      obtain ⟨we, hwe⟩ : ∃ x : Nat → va_E, x = w28 := ⟨_, rfl⟩
                      have hWe : qW D τ A s H28 locs28 ad N we := by rw [hwe]; exact hW28
                      obtain ⟨f, hf0⟩ : ∃ f : Nat, f = (X.n + 1) * 50 := ⟨_, rfl⟩
                      have hfu : 0 < f ∧ (X.n + 1) * 50 ≤ k * 50 + v + f := by omega
                      have hvv : v29.toInt = (v : Int) := by rw [hv29, hv0]; rfl
                      have hvm : v ≤ X.n := by omega
                      have hno : ∀ u, u < v → ¬ most < zcw X.n (zd X.n X.Wt) (zN X.n (zd X.n X.Wt) most MM0 k) u := fun u hu => absurd hu (by omega)
                      have hgo : ∀ j, j < k → zcd X.n (zd X.n X.Wt) most (zN X.n (zd X.n X.Wt) most MM0 j) ≠ -1 := fun j hj => absurd hj (by omega)
                      have hfe : ∀ q, (q ≠ 476 ∧ q ≠ 479) → we q = w28 q := fun q _ => by rw [hwe]
                      have hA : ∃ M2 O2, q_Z τ we 476 40 M2 ∧ q_I τ we 479 40 O2 ∧ (∀ u, u < X.n → (M2 u ↔ (zN X.n (zd X.n X.Wt) most MM0 k) u)) ∧ ∀ a, a < X.n → O2 a = zow X.n (zd X.n X.Wt) (zN X.n (zd X.n X.Wt) most MM0 k) a := ⟨_, _, by rw [hwe]; exact hM1, by rw [hwe]; exact hO1, fun u hu => by rw [hk0]; exact hM1i u hu, fun a ha => by rw [hk0, hO1f a ha]; exact zow_congr (fun u hu => hM1i u hu) a⟩
                      clear hf0 hwe hk0 hv0 hv29
                      generalize H28 = He at hWe ⊢
                      generalize locs28 = locse at hWe ⊢
                      induction f generalizing v29 k v ls30 we He locse with
                      | zero => exact absurd hfu.1 (by omega)
                      | succ f ihf =>
                        obtain ⟨M2, O2, hM2, hO2, hM2i, hO2f⟩ := hA
                        have hNg := zN_go (n := X.n) (d := zd X.n X.Wt) (most := most) (M0 := MM0) hsym hgo
                        have hNl := zc_le (zN X.n (zd X.n X.Wt) most MM0 k) X.n
                        have moe := (hfe 469 (by omega)).trans mod9
                        have hT1e := hT1.keep (hfe 475 (by omega))
                        have hne : ∃ u, u < X.n ∧ (zN X.n (zd X.n X.Wt) most MM0 k) u := ⟨u0, hu0, zN_sub hu1⟩
                        refine lv_iload F.1 F.2.1 d_Mo_build_173 (lv_at hl30 0 rfl) ?_
                        refine lv_aload_n F.1 F.2.1 d_Mo_build_175 rfl (lv_at hl30 3 rfl) ?_
                        refine gf_Mo_7 F hWe (by omega) moe d_Mo_build_176 ?_
                        refine q_icmp_ge (tgt := 216) F d_Mo_build_179 (by decide) (fun c179 => ?_) (fun c179 => ?_)
                        · have hend : zcd X.n (zd X.n X.Wt) most (zN X.n (zd X.n X.Wt) most MM0 k) = -1 := zf_none (fun u hu => hno u (by omega))
                          have hkm : k ≤ X.n := by omega
                          have hMK : ∀ u, zMK X.n X.Wt bk u ↔ (zN X.n (zd X.n X.Wt) most MM0 k) u := fun u => by unfold zMK; rw [← hMM0, ← hmost]; exact zN_all hkm hend u
                          have hM3 : ∀ u, u < X.n → (M2 u ↔ zMK X.n X.Wt bk u) := fun u hu => (hM2i u hu).trans (hMK u).symm
                          have hO3 : ∀ a, a < X.n → O2 a = zow X.n (zd X.n X.Wt) (zMK X.n X.Wt bk) a := fun a ha => (hO2f a ha).trans (zow_congr (fun u _ => (hMK u).symm) a)
                          clear hfu hno hgo hM2i hO2f hNg hNl hvv hvm hend hT1e hne ihf
                          clear hM1
                          replace hGW := hGW.keep (hfe _ (by omega))
                          replace hGP := hGP.keep (hfe _ (by omega))
                          replace hA0 := hA0.keep (hfe _ (by omega))
                          replace hPl := hPl.keep (hfe _ (by omega))
                          replace hGo := hGo.keep (hfe _ (by omega))
                          replace hPd := hPd.keep (hfe _ (by omega))
                          replace hT9 := hT9.keep (hfe _ (by omega))
                          replace hT1 := hT1.keep (hfe _ (by omega))
                          replace hV1 := hV1.keep (hfe _ (by omega))
                          replace hP1 := hP1.keep (hfe _ (by omega))
                          replace hB1 := hB1.keep (hfe _ (by omega))
                          replace hS1 := hS1.keep (hfe _ (by omega))
                          replace hfa : ∀ q, (q ≠ 469 ∧ q ≠ 474 ∧ q ≠ 472 ∧ q ≠ 475 ∧ q ≠ 473 ∧ q ≠ 476 ∧ q ≠ 477 ∧ q ≠ 478 ∧ q ≠ 479) → we q = w q := fun q hq => (hfe q (by omega)).trans (hfa q (by omega))
                          clear hfe
                          refine q_iconst F d_Mo_build_216 (by decide) (fun v31 hv31 => ?_)
                          refine lv_istore (lv' := [(5, .int v31), (4, .int v29), (3, .int v26), (2, .int v19), (0, .ref (ad 469)), (1, .int x)]) F.1 F.2.1 d_Mo_build_217 hl30 (by decide) rfl (fun ls32 hl32 => ?_)
                          clear hl30
                          obtain ⟨i, hi0⟩ : ∃ i : Nat, i = 0 := ⟨_, rfl⟩
                          have hiv : v31.toInt = (i : Int) := by omega
                          have hib : i ≤ X.n := by omega
                          obtain ⟨wg, hwg⟩ : ∃ x : Nat → va_E, x = we := ⟨_, rfl⟩
                          have hWg : qW D τ A s He locse ad N wg := by rw [hwg]; exact hWe
                          have hfg : ∀ q, q ≠ 480 → wg q = we q := fun q _ => by rw [hwg]
                          have hPP : ∃ A1, q_I τ wg 480 1600 A1 ∧ ∀ r a, r < X.n → a < X.n → r < i → M2 r → A1 (40 * r + a) = zpa X.n X.Wt r a := ⟨_, by rw [hwg]; exact hA0, fun r a _ _ h => absurd h (by omega)⟩
                          clear hi0 hv31 hwg
                          generalize He = Hg at hWg ⊢
                          generalize locse = locsg at hWg ⊢
                          obtain ⟨f1, hf1⟩ : ∃ f1 : Nat, X.n + 1 ≤ i + f1 := ⟨X.n + 1, by omega⟩
                          induction f1 generalizing i v31 ls32 wg Hg locsg with
                          | zero => exact absurd hf1 (by omega)
                          | succ f1 ihi =>
                            obtain ⟨A1, hA1, hA1f⟩ := hPP
                            have mog := (hfg 469 (by omega)).trans moe
                            refine lv_iload F.1 F.2.1 d_Mo_build_219 (lv_at hl32 0 rfl) ?_
                            refine lv_aload_n F.1 F.2.1 d_Mo_build_221 rfl (lv_at hl32 4 rfl) ?_
                            refine gf_Mo_7 F hWg (by omega) mog d_Mo_build_222 ?_
                            refine q_icmp_ge (tgt := 294) F d_Mo_build_225 (by decide) (fun c225 => ?_) (fun c225 => ?_)
                            · have hin : X.n ≤ i := by omega
                              clear ihi hf1 hiv hA0
                              replace hGW := hGW.keep (hfg _ (by omega))
                              replace hGP := hGP.keep (hfg _ (by omega))
                              replace hPl := hPl.keep (hfg _ (by omega))
                              replace hGo := hGo.keep (hfg _ (by omega))
                              replace hPd := hPd.keep (hfg _ (by omega))
                              replace hT9 := hT9.keep (hfg _ (by omega))
                              replace hT1 := hT1.keep (hfg _ (by omega))
                              replace hV1 := hV1.keep (hfg _ (by omega))
                              replace hP1 := hP1.keep (hfg _ (by omega))
                              replace hB1 := hB1.keep (hfg _ (by omega))
                              replace hS1 := hS1.keep (hfg _ (by omega))
                              replace hM2 := hM2.keep (hfg _ (by omega))
                              replace hO2 := hO2.keep (hfg _ (by omega))
                              replace hfa : ∀ q, (q ≠ 469 ∧ q ≠ 474 ∧ q ≠ 472 ∧ q ≠ 475 ∧ q ≠ 473 ∧ q ≠ 476 ∧ q ≠ 477 ∧ q ≠ 478 ∧ q ≠ 479 ∧ q ≠ 480) → wg q = w q := fun q hq => (hfg q (by omega)).trans (hfa q (by omega))
                              clear hfg
                              refine lv_aload_n F.1 F.2.1 d_Mo_build_294 rfl (lv_at hl32 4 rfl) ?_
                              refine q_iconst F d_Mo_build_295 (by decide) (fun v33 hv33 => ?_)
                              refine pf_Mo_60 F hWg (Or.inr (q_eqI.mpr hv33)) (by omega) mog d_Mo_build_296 (fun H34 locs34 w34 hW34 hI34 hfr34 => ?_)
                              replace hGW := hGW.keep (hfr34 _ (by omega))
                              replace hGP := hGP.keep (hfr34 _ (by omega))
                              replace hPl := hPl.keep (hfr34 _ (by omega))
                              replace hGo := hGo.keep (hfr34 _ (by omega))
                              replace hPd := hPd.keep (hfr34 _ (by omega))
                              replace hT9 := hT9.keep (hfr34 _ (by omega))
                              replace hT1 := hT1.keep (hfr34 _ (by omega))
                              replace hV1 := hV1.keep (hfr34 _ (by omega))
                              replace hP1 := hP1.keep (hfr34 _ (by omega))
                              replace hB1 := hB1.keep (hfr34 _ (by omega))
                              replace hS1 := hS1.keep (hfr34 _ (by omega))
                              replace hM2 := hM2.keep (hfr34 _ (by omega))
                              replace hO2 := hO2.keep (hfr34 _ (by omega))
                              replace hA1 := hA1.keep (hfr34 _ (by omega))
                              replace mog := hI34
                              refine lv_aload_n F.1 F.2.1 d_Mo_build_299 rfl (lv_at hl32 4 rfl) ?_
                              refine q_iconst F d_Mo_build_300 (by decide) (fun v35 hv35 => ?_)
                              refine pf_Mo_64 F hW34 (by omega) mog d_Mo_build_301 (fun H36 locs36 w36 hW36 hI36 hfr36 => ?_)
                              replace hGW := hGW.keep (hfr36 _ (by omega))
                              replace hGP := hGP.keep (hfr36 _ (by omega))
                              replace hPl := hPl.keep (hfr36 _ (by omega))
                              replace hGo := hGo.keep (hfr36 _ (by omega))
                              replace hPd := hPd.keep (hfr36 _ (by omega))
                              replace hT9 := hT9.keep (hfr36 _ (by omega))
                              replace hT1 := hT1.keep (hfr36 _ (by omega))
                              replace hV1 := hV1.keep (hfr36 _ (by omega))
                              replace hP1 := hP1.keep (hfr36 _ (by omega))
                              replace hB1 := hB1.keep (hfr36 _ (by omega))
                              replace hS1 := hS1.keep (hfr36 _ (by omega))
                              replace hM2 := hM2.keep (hfr36 _ (by omega))
                              replace hO2 := hO2.keep (hfr36 _ (by omega))
                              replace hA1 := hA1.keep (hfr36 _ (by omega))
                              replace mog := hI36
                              refine lv_aload_n F.1 F.2.1 d_Mo_build_304 rfl (lv_at hl32 4 rfl) ?_
                              refine q_iconst F d_Mo_build_305 (by decide) (fun v37 hv37 => ?_)
                              refine pf_Mo_67 F hW36 (by omega) mog d_Mo_build_306 (fun H38 locs38 w38 hW38 hI38 hfr38 => ?_)
                              replace hGW := hGW.keep (hfr38 _ (by omega))
                              replace hGP := hGP.keep (hfr38 _ (by omega))
                              replace hPl := hPl.keep (hfr38 _ (by omega))
                              replace hGo := hGo.keep (hfr38 _ (by omega))
                              replace hPd := hPd.keep (hfr38 _ (by omega))
                              replace hT9 := hT9.keep (hfr38 _ (by omega))
                              replace hT1 := hT1.keep (hfr38 _ (by omega))
                              replace hV1 := hV1.keep (hfr38 _ (by omega))
                              replace hP1 := hP1.keep (hfr38 _ (by omega))
                              replace hB1 := hB1.keep (hfr38 _ (by omega))
                              replace hS1 := hS1.keep (hfr38 _ (by omega))
                              replace hM2 := hM2.keep (hfr38 _ (by omega))
                              replace hO2 := hO2.keep (hfr38 _ (by omega))
                              replace hA1 := hA1.keep (hfr38 _ (by omega))
                              replace mog := hI38
                              replace hfa : ∀ q, (q ≠ 469 ∧ q ≠ 474 ∧ q ≠ 472 ∧ q ≠ 475 ∧ q ≠ 473 ∧ q ≠ 476 ∧ q ≠ 477 ∧ q ≠ 478 ∧ q ≠ 479 ∧ q ≠ 480) → w38 q = w q := fun q hq => by rw [hfr38 q hq.1, hfr36 q hq.1, hfr34 q hq.1]; exact hfa q hq
                              refine lv_aload_n F.1 F.2.1 d_Mo_build_309 rfl (lv_at hl32 4 rfl) ?_
                              refine q_calli hW38 (q_cV (As := []) (rest := []) F hW38 cs_Mo_109 hd_Mo_marks rfl (by omega) mog (k_Mo_marks l D τ A ad N w38 hb t9 n32 v33 v35 v37 mog X.n hn hm40 M2 hM2) rfl rfl ⟨by decide, by decide⟩ rfl hl32.1 rfl (Nat.le_of_ble_eq_true rfl) d_Mo_build_310 ⟨Nat.le_refl _, Nat.le_refl _⟩) (fun v39 w39 H39 locs39 hp39 hW39 => ?_)
                              obtain ⟨hq39, hp39⟩ := hp39
                              replace hq39 := hq39.symm
                              subst hq39
                              rw [zc_congr hM3] at hp39
                              exact q_iret F hr hlk hW39 ⟨0, zs_build X bk, by rw [hxbk, hp39]; exact Or.inr ⟨by omega, Or.inr ⟨rfl, hallY, by simp only [Int.toNat_natCast], by simp only [Int.toNat_natCast]⟩⟩, ⟨⟨_, _, _, _, _, mog, ht0, hn, Or.inl ⟨trivial, q_eqI.mpr hv33⟩, hv35, hv37⟩, ⟨_, hGW, hGWf⟩, ⟨_, hGP, hGPf⟩, ⟨⟨_, hV1⟩, ⟨_, hP1⟩, ⟨_, hT9⟩, ⟨_, hT1⟩, ⟨_, hM2⟩, ⟨_, hB1⟩, ⟨_, hS1⟩, ⟨_, hO2⟩, _, hA1⟩, fun _ => ⟨⟨_, hV1, hV1f⟩, ⟨_, hP1, hP1f⟩, ⟨_, hT1, hT1f⟩, ⟨_, hM2, hM3⟩, ⟨_, hO2, hO3⟩, _, hA1, fun r a hr9 ha hk9 => hA1f r a hr9 ha (by have h8 : r < X.n := hr9; omega) ((hM3 r hr9).mpr hk9)⟩, hPl, hGo, hPd⟩, fun q hq => hfa q (by omega)⟩ d_Mo_build_313
                            · refine q_iconst F d_Mo_build_228 (by decide) (fun v40 hv40 => ?_)
                              refine lv_istore (lv' := [(6, .int v40), (5, .int v31), (4, .int v29), (3, .int v26), (2, .int v19), (0, .ref (ad 469)), (1, .int x)]) F.1 F.2.1 d_Mo_build_229 hl32 (by decide) rfl (fun ls41 hl41 => ?_)
                              clear hl32
                              obtain ⟨j, hj0⟩ : ∃ j : Nat, j = 0 := ⟨_, rfl⟩
                              have hjv : v40.toInt = (j : Int) := by omega
                              have hjb : j ≤ X.n := by omega
                              obtain ⟨wh, hwh⟩ : ∃ x : Nat → va_E, x = wg := ⟨_, rfl⟩
                              have hWh : qW D τ A s Hg locsg ad N wh := by rw [hwh]; exact hWg
                              have hfh : ∀ q, q ≠ 480 → wh q = we q := by rw [hwh]; exact hfg
                              have hPP : ∃ A2, q_I τ wh 480 1600 A2 ∧ ∀ r a, r < X.n → a < X.n → (r < i ∨ (r = i ∧ a < j)) → M2 r → A2 (40 * r + a) = zpa X.n X.Wt r a := ⟨_, by rw [hwh]; exact hA1, fun r a hr9 ha h => hA1f r a hr9 ha (by omega)⟩
                              clear hj0 hv40 hwh mog
                              generalize Hg = Hh at hWh ⊢
                              generalize locsg = locsh at hWh ⊢
                              obtain ⟨f2, hf2⟩ : ∃ f2 : Nat, X.n + 1 ≤ j + f2 := ⟨X.n + 1, by omega⟩
                              induction f2 generalizing j v40 ls41 wh Hh locsh with
                              | zero => exact absurd hf2 (by omega)
                              | succ f2 ihj =>
                                obtain ⟨A2, hA2, hA2f⟩ := hPP
                                have moh := (hfh 469 (by omega)).trans moe
                                have hM2h := hM2.keep (hfh 476 (by omega))
                                have hT1h := hT1.keep (hfh 475 (by omega))
                                have hV1h := hV1.keep (hfh 472 (by omega))
                                refine lv_iload F.1 F.2.1 d_Mo_build_231 (lv_at hl41 0 rfl) ?_
                                refine lv_aload_n F.1 F.2.1 d_Mo_build_233 rfl (lv_at hl41 5 rfl) ?_
                                refine gf_Mo_7 F hWh (by omega) moh d_Mo_build_234 ?_
                                refine q_icmp_ge (tgt := 288) F d_Mo_build_237 (by decide) (fun c237 => ?_) (fun c237 => ?_)
                                · refine q_iinc (lv' := fun v42 => [(5, .int v42), (6, .int v40), (4, .int v29), (3, .int v26), (2, .int v19), (0, .ref (ad 469)), (1, .int x)]) F d_Mo_build_288 hl41 (k := 1) rfl (by decide) (by omega) (by decide) (fun _ => rfl) (fun v42 lsv42 hv42 hlv42 => ?_)
                                  clear hl41
                                  refine lv_goto (tgt := 219) F.1 F.2.1 d_Mo_build_291 (by decide) ?_
                                  exact ihi (i := i + 1) (v31 := v42) (ls32 := lsv42) (wg := wh) (Hg := Hh) (locsg := locsh) (hiv := by omega) (hib := by omega) (hWg := hWh) (hfg := hfh) (hPP := ⟨A2, hA2, fun r a hr9 ha h => hA2f r a hr9 ha (by omega)⟩) (hf1 := by omega) (hl32 := (lv_sub hlv42 [0, 2, 3, 4, 5, 6] rfl))
                                · refine lv_aload_n F.1 F.2.1 d_Mo_build_240 rfl (lv_at hl41 5 rfl) ?_
                                  refine gf_Mo_45 F hWh (by omega) moh d_Mo_build_241 ?_
                                  refine q_bipush F d_Mo_build_244 (by decide) (fun v43 hv43 => ?_)
                                  refine lv_iload F.1 F.2.1 d_Mo_build_246 (lv_at hl41 1 rfl) ?_
                                  refine q_imul F d_Mo_build_248 (by rw [hv43]; omega) (fun v44 hv44 => ?_)
                                  rw [hv43] at hv44
                                  refine lv_iload F.1 F.2.1 d_Mo_build_249 (lv_at hl41 0 rfl) ?_
                                  refine q_iadd F d_Mo_build_251 (by omega) (fun v45 hv45 => ?_)
                                  refine lv_aload_n F.1 F.2.1 d_Mo_build_252 rfl (lv_at hl41 5 rfl) ?_
                                  refine gf_Mo_32 F hWh (by omega) moh d_Mo_build_253 ?_
                                  refine lv_iload F.1 F.2.1 d_Mo_build_256 (lv_at hl41 1 rfl) ?_
                                  refine q_zald F hWh hM2h (by omega) i (by omega) (by omega) d_Mo_build_258 (fun v46 hv46 => ?_)
                                  refine q_if_eq (tgt := 280) F d_Mo_build_259 (by decide) (fun c259 => ?_) (fun c259 => ?_)
                                  · refine q_iconst F d_Mo_build_280 (by decide) (fun v47 hv47 => ?_)
                                    refine q_iast F hWh hA2 (by omega) (40 * i + j) (by omega) (by omega) d_Mo_build_281 (fun H48 locs48 w48 hW48 hI48 hfr48 => ?_)
                                    refine q_iinc (lv' := fun v49 => [(6, .int v49), (5, .int v31), (4, .int v29), (3, .int v26), (2, .int v19), (0, .ref (ad 469)), (1, .int x)]) F d_Mo_build_282 hl41 (k := 0) rfl (by decide) (by omega) (by decide) (fun _ => rfl) (fun v49 lsv49 hv49 hlv49 => ?_)
                                    clear hl41
                                    refine lv_goto (tgt := 231) F.1 F.2.1 d_Mo_build_285 (by decide) ?_
                                    exact ihj (j := j + 1) (v40 := v49) (ls41 := lsv49) (wh := w48) (Hh := H48) (locsh := locs48) (hjv := by omega) (hjb := by omega) (hWh := hW48) (hfh := fun q hq => (hfr48 q hq).trans (hfh q hq)) (hPP := ⟨_, hI48, fun r a hr9 ha h hk9 => by unfold q_up; by_cases e : 40 * r + a = 40 * i + j; rw [if_pos e]; rw [show r = i by omega] at hk9; rw [show r = i by omega, show a = j by omega]; exact absurd hk9 (qb_f hv46 (by omega)); rw [if_neg e]; exact hA2f r a hr9 ha (by omega) hk9⟩) (hf2 := by omega) (hl41 := (lv_sub hlv49 [0, 1, 2, 3, 4, 5, 6] rfl))
                                  · refine lv_iload F.1 F.2.1 d_Mo_build_262 (lv_at hl41 0 rfl) ?_
                                    refine lv_iload F.1 F.2.1 d_Mo_build_264 (lv_at hl41 1 rfl) ?_
                                    refine q_icmp_eq (tgt := 280) F d_Mo_build_266 (by decide) (fun c266 => ?_) (fun c266 => ?_)
                                    · refine q_iconst F d_Mo_build_280 (by decide) (fun v50 hv50 => ?_)
                                      refine q_iast F hWh hA2 (by omega) (40 * i + j) (by omega) (by omega) d_Mo_build_281 (fun H51 locs51 w51 hW51 hI51 hfr51 => ?_)
                                      refine q_iinc (lv' := fun v52 => [(6, .int v52), (5, .int v31), (4, .int v29), (3, .int v26), (2, .int v19), (0, .ref (ad 469)), (1, .int x)]) F d_Mo_build_282 hl41 (k := 0) rfl (by decide) (by omega) (by decide) (fun _ => rfl) (fun v52 lsv52 hv52 hlv52 => ?_)
                                      clear hl41
                                      refine lv_goto (tgt := 231) F.1 F.2.1 d_Mo_build_285 (by decide) ?_
                                      exact ihj (j := j + 1) (v40 := v52) (ls41 := lsv52) (wh := w51) (Hh := H51) (locsh := locs51) (hjv := by omega) (hjb := by omega) (hWh := hW51) (hfh := fun q hq => (hfr51 q hq).trans (hfh q hq)) (hPP := ⟨_, hI51, fun r a hr9 ha h hk9 => by unfold q_up; by_cases e : 40 * r + a = 40 * i + j; rw [if_pos e]; rw [show r = i by omega] at hk9; rw [show r = i by omega, show a = j by omega]; exact (by rw [hv50, show j = i by omega]; exact (ztw_self hZ.1 (show i < X.n by omega)).symm); rw [if_neg e]; exact hA2f r a hr9 ha (by omega) hk9⟩) (hf2 := by omega) (hl41 := (lv_sub hlv52 [0, 1, 2, 3, 4, 5, 6] rfl))
                                    · refine lv_aload_n F.1 F.2.1 d_Mo_build_269 rfl (lv_at hl41 5 rfl) ?_
                                      refine lv_iload F.1 F.2.1 d_Mo_build_270 (lv_at hl41 0 rfl) ?_
                                      refine lv_iload F.1 F.2.1 d_Mo_build_272 (lv_at hl41 1 rfl) ?_
                                      refine q_calli hWh (q_cV (As := [.int v40, .int v31]) (rest := [.int v45, .ref (ad 480)]) F hWh cs_Mo_106 hd_Mo_towards rfl (by omega) moh (k_Mo_towards l D τ A ad N wh hb t9 n32 b32 s32 p32 moh X.n hn hm40 T1 hT1h (zd X.n X.Wt) hT1f V1 hV1h X.Wt hV1f hWb hdb v40 v31 j i hjv hiv (by omega) (by omega)) rfl rfl ⟨by decide, by decide⟩ rfl hl41.1 rfl (Nat.le_of_ble_eq_true rfl) d_Mo_build_274 ⟨Nat.le_refl _, Nat.le_refl _⟩) (fun v53 w53 H53 locs53 hp53 hW53 => ?_)
                                      obtain ⟨hq53, hp53⟩ := hp53
                                      replace hq53 := hq53.symm
                                      subst hq53
                                      refine lv_goto (tgt := 281) F.1 F.2.1 d_Mo_build_277 (by decide) ?_
                                      refine q_iast F hW53 hA2 (by omega) (40 * i + j) (by omega) (by omega) d_Mo_build_281 (fun H54 locs54 w54 hW54 hI54 hfr54 => ?_)
                                      refine q_iinc (lv' := fun v55 => [(6, .int v55), (5, .int v31), (4, .int v29), (3, .int v26), (2, .int v19), (0, .ref (ad 469)), (1, .int x)]) F d_Mo_build_282 hl41 (k := 0) rfl (by decide) (by omega) (by decide) (fun _ => rfl) (fun v55 lsv55 hv55 hlv55 => ?_)
                                      clear hl41
                                      refine lv_goto (tgt := 231) F.1 F.2.1 d_Mo_build_285 (by decide) ?_
                                      exact ihj (j := j + 1) (v40 := v55) (ls41 := lsv55) (wh := w54) (Hh := H54) (locsh := locs54) (hjv := by omega) (hjb := by omega) (hWh := hW54) (hfh := fun q hq => (hfr54 q hq).trans (hfh q hq)) (hPP := ⟨_, hI54, fun r a hr9 ha h hk9 => by unfold q_up; by_cases e : 40 * r + a = 40 * i + j; rw [if_pos e]; rw [show r = i by omega] at hk9; rw [show r = i by omega, show a = j by omega]; exact hp53; rw [if_neg e]; exact hA2f r a hr9 ha (by omega) hk9⟩) (hf2 := by omega) (hl41 := (lv_sub hlv55 [0, 1, 2, 3, 4, 5, 6] rfl))
                        · refine lv_aload_n F.1 F.2.1 d_Mo_build_182 rfl (lv_at hl30 3 rfl) ?_
                          refine lv_iload F.1 F.2.1 d_Mo_build_183 (lv_at hl30 0 rfl) ?_
                          refine q_calli hWe (q_cV (As := [.int v29]) (rest := []) F hWe cs_Mo_103 hd_Mo_cluster rfl (by omega) moe (k_Mo_cluster l D τ A ad N we hb t9 n32 b32 s32 p32 moe X.n hn hm40 T1 hT1e (zd X.n X.Wt) hT1f O2 hO2 (zN X.n (zd X.n X.Wt) most MM0 k) hO2f hne v29 v hvv (by omega)) rfl rfl ⟨by decide, by decide⟩ rfl hl30.1 rfl (Nat.le_of_ble_eq_true rfl) d_Mo_build_185 ⟨Nat.le_refl _, Nat.le_refl _⟩) (fun v56 w56 H56 locs56 hp56 hW56 => ?_)
                          obtain ⟨hq56, hp56⟩ := hp56
                          replace hq56 := hq56.symm
                          subst hq56
                          refine lv_iload_n F.1 F.2.1 d_Mo_build_188 rfl (lv_at hl30 1 rfl) ?_
                          refine q_icmp_le (tgt := 210) F d_Mo_build_189 (by decide) (fun c189 => ?_) (fun c189 => ?_)
                          · refine q_iinc (lv' := fun v57 => [(4, .int v57), (3, .int v26), (2, .int v19), (0, .ref (ad 469)), (1, .int x)]) F d_Mo_build_210 hl30 (k := 0) rfl (by decide) (by omega) (by decide) (fun _ => rfl) (fun v57 lsv57 hv57 hlv57 => ?_)
                            clear hl30
                            refine lv_goto (tgt := 173) F.1 F.2.1 d_Mo_build_213 (by decide) ?_
                            exact ihf (v29 := v57) (k := k) (v := v + 1) (ls30 := lsv57) (we := we) (He := H56) (locse := locs56) (hWe := hW56) (hfu := by omega) (hvv := by omega) (hvm := by omega) (hno := fun u hu => (Nat.lt_or_ge u v).elim (hno u) (fun z => by rw [show u = v by omega]; omega)) (hgo := hgo) (hfe := hfe) (hA := ⟨M2, O2, hM2, hO2, hM2i, hO2f⟩) (hl30 := (lv_sub hlv57 [0, 1, 2, 3, 4] rfl))
                          · have hcd : zcd X.n (zd X.n X.Wt) most (zN X.n (zd X.n X.Wt) most MM0 k) = (v : Int) := zf_found (by omega) (by omega) hno
                            refine lv_aload_n F.1 F.2.1 d_Mo_build_192 rfl (lv_at hl30 3 rfl) ?_
                            refine gf_Mo_32 F hW56 (by omega) moe d_Mo_build_193 ?_
                            refine lv_iload F.1 F.2.1 d_Mo_build_196 (lv_at hl30 0 rfl) ?_
                            refine q_iconst F d_Mo_build_198 (by decide) (fun v58 hv58 => ?_)
                            refine q_zast F hW56 hM2 (by omega) (P := True) (Or.inl ⟨trivial, q_eqI.mpr hv58⟩) v (by omega) (by omega) d_Mo_build_199 (fun H59 locs59 w59 hW59 hI59 hfr59 => ?_)
                            have mof := (hfr59 _ (by omega)).trans moe
                            have hT1s := hT1e.keep (hfr59 _ (by omega))
                            have hO2s := hO2.keep (hfr59 _ (by omega))
                            have hM4 : ∀ u, u < X.n → (q_upB M2 v True u ↔ (zN X.n (zd X.n X.Wt) most MM0 (k + 1)) u) := fun u hu => by unfold q_upB; rw [zN_s, hcd]; by_cases e : u = v; rw [if_pos e]; exact ⟨fun _ => Or.inr (by omega), fun _ => trivial⟩; rw [if_neg e, hM2i u hu]; exact ⟨Or.inl, fun q => q.elim id (fun z => absurd z (by omega))⟩
                            refine lv_aload_n F.1 F.2.1 d_Mo_build_200 rfl (lv_at hl30 3 rfl) ?_
                            refine q_callv hW59 (q_cV (As := []) (rest := []) F hW59 cs_Mo_100 hd_Mo_findOwn rfl (by omega) mof (k_Mo_findOwn l D τ A ad N w59 hb t9 n32 b32 s32 p32 mof X.n hn hm40 T1 hT1s (zd X.n X.Wt) hT1f (q_upB M2 v True) hI59 O2 hO2s) rfl rfl ⟨by decide, by decide⟩ rfl hl30.1 rfl (Nat.le_of_ble_eq_true rfl) d_Mo_build_201 ⟨Nat.le_refl _, Nat.le_refl _⟩) (fun w60 H60 locs60 hp60 hW60 => ?_)
                            obtain ⟨⟨O5, hO5, hO5f⟩, hfr60⟩ := hp60
                            refine q_iconst F d_Mo_build_204 (by decide) (fun v61 hv61 => ?_)
                            refine lv_istore (lv' := [(4, .int v61), (3, .int v26), (2, .int v19), (0, .ref (ad 469)), (1, .int x)]) F.1 F.2.1 d_Mo_build_205 hl30 (by decide) rfl (fun ls62 hl62 => ?_)
                            clear hl30
                            refine lv_goto (tgt := 173) F.1 F.2.1 d_Mo_build_207 (by decide) ?_
                            exact ihf (v29 := v61) (k := k + 1) (v := 0) (ls30 := ls62) (we := w60) (He := H60) (locse := locs60) (hWe := hW60) (hfu := by omega) (hvv := hv61) (hvm := by omega) (hno := fun u hu => absurd hu (by omega)) (hgo := fun j9 hj9 => (Nat.lt_or_ge j9 k).elim (hgo j9) (fun z => by rw [show j9 = k by omega, hcd]; omega)) (hfe := fun q hq => by rw [hfr60 q hq.2, hfr59 q hq.1]; exact hfe q hq) (hA := ⟨_, O5, hI59.keep (hfr60 _ (by omega)), hO5, hM4, fun a ha => by rw [hO5f a ha]; exact zow_congr hM4 a⟩) (hl30 := (lv_sub hl62 [0, 1, 2, 3, 4] rfl))
                    · refine lv_aload_n F.1 F.2.1 d_Mo_build_129 rfl (lv_at hl17 1 rfl) ?_
                      refine gf_Mo_23 F hWd (by omega) mod9 d_Mo_build_130 ?_
                      refine lv_iload_n F.1 F.2.1 d_Mo_build_133 rfl (lv_at hl17 0 rfl) ?_
                      refine lv_aload_n F.1 F.2.1 d_Mo_build_134 rfl (lv_at hl17 1 rfl) ?_
                      refine gf_Mo_17 F hWd (by omega) mod9 d_Mo_build_135 ?_
                      refine lv_iload_n F.1 F.2.1 d_Mo_build_138 rfl (lv_at hl17 0 rfl) ?_
                      refine q_iald F hWd hGPc (by omega) i (by omega) (by omega) d_Mo_build_139 (fun v63 hv63 => ?_)
                      refine q_iast F hWd hP1 (by omega) i (by omega) (by omega) d_Mo_build_140 (fun H64 locs64 w64 hW64 hI64 hfr64 => ?_)
                      refine q_iinc (lv' := fun v65 => [(2, .int v65), (0, .ref (ad 469)), (1, .int x)]) F d_Mo_build_141 hl17 (k := 0) rfl (by decide) (by omega) (by decide) (fun _ => rfl) (fun v65 lsv65 hv65 hlv65 => ?_)
                      clear hl17
                      refine lv_goto (tgt := 122) F.1 F.2.1 d_Mo_build_144 (by decide) ?_
                      exact ihi (i := i + 1) (v16 := v65) (ls17 := lsv65) (wd := w64) (Hd := H64) (locsd := locs64) (hiv := by omega) (hib := by omega) (hWd := hW64) (hfd := fun q hq => (hfr64 q hq).trans (hfd q hq)) (hcp := ⟨_, hI64, fun j hj => by unfold q_up; by_cases e : j = i; rw [if_pos e, e]; omega; rw [if_neg e]; exact hcp1 j (by omega)⟩) (hf1 := by omega) (hl17 := (lv_sub hlv65 [0, 1, 2] rfl))
                · refine lv_aload_n F.1 F.2.1 d_Mo_build_90 rfl (lv_at hl14 1 rfl) ?_
                  refine gf_Mo_29 F hWc (by omega) moc d_Mo_build_91 ?_
                  refine lv_iload_n F.1 F.2.1 d_Mo_build_94 rfl (lv_at hl14 0 rfl) ?_
                  refine lv_aload_n F.1 F.2.1 d_Mo_build_95 rfl (lv_at hl14 1 rfl) ?_
                  refine gf_Mo_26 F hWc (by omega) moc d_Mo_build_96 ?_
                  refine lv_iload_n F.1 F.2.1 d_Mo_build_99 rfl (lv_at hl14 0 rfl) ?_
                  refine q_iald F hWc hT9c (by omega) i (by omega) (by omega) d_Mo_build_100 (fun v66 hv66 => ?_)
                  refine q_iast F hWc hT1 (by omega) i (by omega) (by omega) d_Mo_build_101 (fun H67 locs67 w67 hW67 hI67 hfr67 => ?_)
                  have moc2 := (hfr67 _ (by omega)).trans moc
                  have hGWc2 := hGWc.keep (hfr67 _ (by omega))
                  have hV2 := hV1.keep (hfr67 _ (by omega))
                  refine lv_aload_n F.1 F.2.1 d_Mo_build_102 rfl (lv_at hl14 1 rfl) ?_
                  refine gf_Mo_20 F hW67 (by omega) moc2 d_Mo_build_103 ?_
                  refine lv_iload_n F.1 F.2.1 d_Mo_build_106 rfl (lv_at hl14 0 rfl) ?_
                  refine lv_aload_n F.1 F.2.1 d_Mo_build_107 rfl (lv_at hl14 1 rfl) ?_
                  refine gf_Mo_13 F hW67 (by omega) moc2 d_Mo_build_108 ?_
                  refine lv_iload_n F.1 F.2.1 d_Mo_build_111 rfl (lv_at hl14 0 rfl) ?_
                  refine q_iald F hW67 hGWc2 (by omega) i (by omega) (by omega) d_Mo_build_112 (fun v68 hv68 => ?_)
                  refine q_iast F hW67 hV2 (by omega) i (by omega) (by omega) d_Mo_build_113 (fun H69 locs69 w69 hW69 hI69 hfr69 => ?_)
                  refine q_iinc (lv' := fun v70 => [(2, .int v70), (0, .ref (ad 469)), (1, .int x)]) F d_Mo_build_114 hl14 (k := 0) rfl (by decide) (by omega) (by decide) (fun _ => rfl) (fun v70 lsv70 hv70 hlv70 => ?_)
                  clear hl14
                  refine lv_goto (tgt := 83) F.1 F.2.1 d_Mo_build_117 (by decide) ?_
                  exact ihi (i := i + 1) (v13 := v70) (ls14 := lsv70) (wc := w69) (Hc := H69) (locsc := locs69) (hiv := by omega) (hib := by omega) (hWc := hW69) (hfc := fun q hq => by rw [hfr69 q hq.1, hfr67 q hq.2]; exact hfc q hq) (hcp := ⟨_, _, hI67.keep (hfr69 _ (by omega)), hI69, fun j hj => by unfold q_up; by_cases e : j = i; rw [if_pos e, if_pos e, e]; exact ⟨by omega, by omega⟩; rw [if_neg e, if_neg e]; exact hcp1 j (by omega)⟩) (hf1 := by omega) (hl14 := (lv_sub hlv70 [0, 1, 2] rfl))
            · refine q_iconst F d_Mo_build_79 (by decide) (fun v71 hv71 => ?_)
              exact q_iret F hr hlk hWl ⟨2, X, Or.inr ⟨by omega, Or.inl ⟨rfl, rfl, by rw [zall_0 hZ.1 hm40 hm1]; rcases ht9 with ⟨z, -⟩ | ⟨-, z⟩; omega; exact z⟩⟩, ⟨⟨_, n32, b32, s32, p32, mo9, by omega, hn, hbb, hs, hpp⟩, hR.now ⟨_, hT9l⟩ (fun q h1 _ h3 => (hfl q (by omega)).trans (hfa q (by omega)))⟩, fun q hq => (hfl q (by omega)).trans (hfa q (by omega))⟩ d_Mo_build_80
          · have hTi := hT90 i (by omega)
            refine lv_aload_n F.1 F.2.1 d_Mo_build_43 rfl (lv_at hl12 1 rfl) ?_
            refine lv_aload_n F.1 F.2.1 d_Mo_build_44 rfl (lv_at hl12 1 rfl) ?_
            refine gf_Mo_26 F hWl (by omega) mo9 d_Mo_build_45 ?_
            refine lv_iload_n F.1 F.2.1 d_Mo_build_48 rfl (lv_at hl12 0 rfl) ?_
            refine q_iald F hWl hT9l (by omega) i (by omega) (by omega) d_Mo_build_49 (fun v72 hv72 => ?_)
            refine q_far F d_Mo_build_50 (fun v73 hv73 => ?_)
            refine q_icmp_lt (tgt := 59) F d_Mo_build_52 (by decide) (fun c52 => ?_) (fun c52 => ?_)
            · refine lv_aload_n F.1 F.2.1 d_Mo_build_59 rfl (lv_at hl12 1 rfl) ?_
              refine gf_Mo_57 F hWl (by omega) mo9 d_Mo_build_60 ?_
              refine pf_Mo_57 F hWl (by omega) mo9 d_Mo_build_63 (fun H74 locs74 w74 hW74 hI74 hfr74 => ?_)
              replace mo9 := hI74
              refine q_iinc (lv' := fun v75 => [(2, .int v75), (0, .ref (ad 469)), (1, .int x)]) F d_Mo_build_66 hl12 (k := 0) rfl (by decide) (by omega) (by decide) (fun _ => rfl) (fun v75 lsv75 hv75 hlv75 => ?_)
              clear hl12
              refine lv_goto (tgt := 35) F.1 F.2.1 d_Mo_build_69 (by decide) ?_
              exact ihi (i := i + 1) (v11 := v75) (ls12 := lsv75) (wl := w74) (Hl := H74) (locsl := locs74) (hiv := by omega) (hib := by omega) (hWl := hW74) (hfl := fun q hq => (hfr74 q hq).trans (hfl q hq)) (hth := ⟨_, mo9, ht9.elim (fun z => Or.inl ⟨z.1, fun c hc => (Nat.lt_or_ge c i).elim (z.2 c) (fun y => by rw [show c = i by omega]; omega)⟩) Or.inr⟩) (hf := by omega) (hl12 := (lv_sub hlv75 [0, 1, 2] rfl))
            · refine q_iconst F d_Mo_build_55 (by decide) (fun v76 hv76 => ?_)
              refine lv_goto (tgt := 63) F.1 F.2.1 d_Mo_build_56 (by decide) ?_
              refine pf_Mo_57 F hWl (by omega) mo9 d_Mo_build_63 (fun H77 locs77 w77 hW77 hI77 hfr77 => ?_)
              replace mo9 := hI77
              refine q_iinc (lv' := fun v78 => [(2, .int v78), (0, .ref (ad 469)), (1, .int x)]) F d_Mo_build_66 hl12 (k := 0) rfl (by decide) (by omega) (by decide) (fun _ => rfl) (fun v78 lsv78 hv78 hlv78 => ?_)
              clear hl12
              refine lv_goto (tgt := 35) F.1 F.2.1 d_Mo_build_69 (by decide) ?_
              exact ihi (i := i + 1) (v11 := v78) (ls12 := lsv78) (wl := w77) (Hl := H77) (locsl := locs77) (hiv := by omega) (hib := by omega) (hWl := hW77) (hfl := fun q hq => (hfr77 q hq).trans (hfl q hq)) (hth := ⟨_, mo9, Or.inr ⟨hv76, fun z => by have := z i (by omega); omega⟩⟩) (hf := by omega) (hl12 := (lv_sub hlv78 [0, 1, 2] rfl))
      · exact absurd c9 (by omega)
    · refine q_iconst F d_Mo_build_12 (by decide) (fun v79 hv79 => ?_)
      refine lv_goto (tgt := 17) F.1 F.2.1 d_Mo_build_13 (by decide) ?_
      refine pf_Mo_57 F hW (by omega) mo d_Mo_build_17 (fun H80 locs80 w80 hW80 hI80 hfr80 => ?_)
      replace mo := hI80
      refine lv_aload_n F.1 F.2.1 d_Mo_build_20 rfl (lv_at hl 0 rfl) ?_
      refine gf_Mo_57 F hW80 (by omega) mo d_Mo_build_21 ?_
      refine q_if_eq (tgt := 29) F d_Mo_build_24 (by decide) (fun c81 => ?_) (fun c81 => ?_)
      · exact absurd c81 (by omega)
      · refine q_iconst F d_Mo_build_27 (by decide) (fun v82 hv82 => ?_)
        exact q_iret F hr hlk hW80 ⟨1, X, Or.inl ⟨rfl, rfl, by omega⟩, ⟨⟨_, n32, b32, s32, p32, mo, hv79, hn, hbb, hs, hpp⟩, hR.keep (fun q _ _ => hfr80 q (by omega))⟩, fun q hq => hfr80 q (by omega)⟩ d_Mo_build_28
