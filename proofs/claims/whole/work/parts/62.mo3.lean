theorem zfl_up {m a c : Nat} {z : Int} {G : Nat → Int} {M : Nat → Nat → Int} (hm : m ≤ 40) (hc : c < m) (h : ∀ x y, x < m → y < m → G (40 * x + y) = M x y) : ∀ x y, x < m → y < m → q_up G (40 * a + c) z (40 * x + y) = q_up2 M a c z x y := by
  intro x y hx hy
  unfold q_up q_up2
  by_cases e : x = a ∧ y = c
  · rw [if_pos e, if_pos (by rw [e.1, e.2])]
  · rw [if_neg e, if_neg (by omega)]; exact h x y hx hy
theorem zfp_up {m a c : Nat} {z : Int} {G : Nat → Int} {M : Nat → Nat → Int} (hc : c < 16) (h : ∀ x y, x < m → y < 16 → G (16 * x + y) = M x y) : ∀ x y, x < m → y < 16 → q_up G (16 * a + c) z (16 * x + y) = q_up2 M a c z x y := by
  intro x y hx hy
  unfold q_up q_up2
  by_cases e : x = a ∧ y = c
  · rw [if_pos e, if_pos (by rw [e.1, e.2])]
  · rw [if_neg e, if_neg (by omega)]; exact h x y hx hy
theorem zp_ne {bh : Nat → Nat → Int} {a q c : Nat} {z v : Int} (h : c ≠ a) : zp (q_up2 bh a q z) c v = zp bh c v := zf_congr (fun p _ => by unfold q_up2; rw [if_neg (by omega)])
set_option maxHeartbeats 4000000 in
set_option maxRecDepth 100000 in
/-- port -/
theorem k_Mo_port (l : Launch) (D : va_G) (τ : Nat → ClassId) (A : Nat → Prop) (ad : Nat → Nat) (N : Nat) (w : Nat → va_E) (hb : 484 ≤ N) (X : zSt) (Bd : Nat) (t0 : Int) (hX : qMo τ ad w X t0) (hO : zOK X Bd) (hB9 : Bd ≤ 1000) (x y : Int32) : Met l y_Mo_port (qws y_Mo_port c_Mo_port 3 (some .int)) ({ frames := 8, cells := 0, slots := 0, locals := 180 }) (qPc D τ A ad N w [.ref (ad 469), .int x, .int y]) (va_Qi (fun r1 w1 => ∃ k X9, zR_port X x.toInt y.toInt k r1.toInt X9 ∧ qMo τ ad w1 X9 k ∧ (∀ q, (q < 469 ∨ 484 ≤ q) → w1 q = w q)) (qB D τ A ad N) A) 0 0 A := by
  refine q_of (by decide) (Nat.le_of_ble_eq_true rfl) rfl ?_
  intro PP EE s MM below meth CC ls F hr hlk hnm hex hl hW
  have hl : lv_has ls 3 [(0, .ref (ad 469)), (1, .int x), (2, .int y)] := hl
  obtain ⟨⟨th, n32, b32, s32, p32, mo, ht, hn, hbb, hs, hpp⟩, hR⟩ := id hX
  obtain ⟨⟨GW, hGW, hGWf⟩, ⟨GP, hGP, hGPf⟩, hMs, hMb, hPl, hGo, hPd⟩ := id hR
  obtain ⟨hm1, hm40, hZ, hBt, hpk16, hpkb, hpk9, hsn⟩ := id hO
  refine lv_aload_n F.1 F.2.1 d_Mo_port_0 rfl (lv_at hl 0 rfl) ?_
  refine lv_aload_n F.1 F.2.1 d_Mo_port_1 rfl (lv_at hl 0 rfl) ?_
  refine lv_iload_n F.1 F.2.1 d_Mo_port_2 rfl (lv_at hl 1 rfl) ?_
  refine q_calli hW (q_cV (As := [.int x]) (rest := [.ref (ad 469)]) F hW cs_Mo_70 hd_Mo_isNode rfl (by omega) mo (k_Mo_isNode l D τ A ad N w hb th n32 b32 s32 p32 mo X.n hn hm40 x) rfl rfl ⟨by decide, by decide⟩ rfl hl.1 rfl (Nat.le_of_ble_eq_true rfl) d_Mo_port_3 ⟨Nat.le_refl _, Nat.le_refl _⟩) (fun v1 w1 H1 locs1 hp1 hW1 => ?_)
  obtain ⟨hq1, hp1⟩ := hp1
  replace hq1 := hq1.symm
  subst hq1
  refine q_if_eq (tgt := 19) F d_Mo_port_6 (by decide) (fun c6 => ?_) (fun c6 => ?_)
  · refine q_iconst F d_Mo_port_19 (by decide) (fun v2 hv2 => ?_)
    refine lv_goto (tgt := 24) F.1 F.2.1 d_Mo_port_20 (by decide) ?_
    refine pf_Mo_57 F hW1 (by omega) mo d_Mo_port_24 (fun H3 locs3 w3 hW3 hI3 hfr3 => ?_)
    replace mo := hI3
    refine lv_aload_n F.1 F.2.1 d_Mo_port_27 rfl (lv_at hl 0 rfl) ?_
    refine gf_Mo_57 F hW3 (by omega) mo d_Mo_port_28 ?_
    refine q_if_eq (tgt := 38) F d_Mo_port_31 (by decide) (fun c4 => ?_) (fun c4 => ?_)
    · exact absurd c4 (by omega)
    · refine q_iconst F d_Mo_port_34 (by decide) (fun v5 hv5 => ?_)
      refine lv_goto (tgt := 49) F.1 F.2.1 d_Mo_port_35 (by decide) ?_
      exact q_iret F hr hlk hW3 ⟨1, X, ⟨rfl, Or.inl ⟨rfl, fun q => qb_f hp1 (by omega) q.1⟩⟩, ⟨⟨_, n32, b32, s32, p32, mo, hv2, hn, hbb, hs, hpp⟩, hR.keep (fun q _ _ => hfr3 q (by omega))⟩, fun q hq => hfr3 q (by omega)⟩ d_Mo_port_49
  · have hx1 := qb_t hp1 (by omega)
    refine lv_iload_n F.1 F.2.1 d_Mo_port_9 rfl (lv_at hl 2 rfl) ?_
    refine q_if_lt (tgt := 19) F d_Mo_port_10 (by decide) (fun c10 => ?_) (fun c10 => ?_)
    · refine q_iconst F d_Mo_port_19 (by decide) (fun v6 hv6 => ?_)
      refine lv_goto (tgt := 24) F.1 F.2.1 d_Mo_port_20 (by decide) ?_
      refine pf_Mo_57 F hW1 (by omega) mo d_Mo_port_24 (fun H7 locs7 w7 hW7 hI7 hfr7 => ?_)
      replace mo := hI7
      refine lv_aload_n F.1 F.2.1 d_Mo_port_27 rfl (lv_at hl 0 rfl) ?_
      refine gf_Mo_57 F hW7 (by omega) mo d_Mo_port_28 ?_
      refine q_if_eq (tgt := 38) F d_Mo_port_31 (by decide) (fun c8 => ?_) (fun c8 => ?_)
      · exact absurd c8 (by omega)
      · refine q_iconst F d_Mo_port_34 (by decide) (fun v9 hv9 => ?_)
        refine lv_goto (tgt := 49) F.1 F.2.1 d_Mo_port_35 (by decide) ?_
        exact q_iret F hr hlk hW7 ⟨1, X, ⟨rfl, Or.inl ⟨rfl, by omega⟩⟩, ⟨⟨_, n32, b32, s32, p32, mo, hv6, hn, hbb, hs, hpp⟩, hR.keep (fun q _ _ => hfr7 q (by omega))⟩, fun q hq => hfr7 q (by omega)⟩ d_Mo_port_49
    · refine lv_iload_n F.1 F.2.1 d_Mo_port_13 rfl (lv_at hl 2 rfl) ?_
      refine q_bipush F d_Mo_port_14 (by decide) (fun v10 hv10 => ?_)
      refine q_icmp_le (tgt := 23) F d_Mo_port_16 (by decide) (fun c16 => ?_) (fun c16 => ?_)
      · refine q_iconst F d_Mo_port_23 (by decide) (fun v11 hv11 => ?_)
        refine pf_Mo_57 F hW1 (by omega) mo d_Mo_port_24 (fun H12 locs12 w12 hW12 hI12 hfr12 => ?_)
        replace mo := hI12
        refine lv_aload_n F.1 F.2.1 d_Mo_port_27 rfl (lv_at hl 0 rfl) ?_
        refine gf_Mo_57 F hW12 (by omega) mo d_Mo_port_28 ?_
        refine q_if_eq (tgt := 38) F d_Mo_port_31 (by decide) (fun c13 => ?_) (fun c13 => ?_)
        · obtain ⟨a, hxa⟩ : ∃ a : Nat, x.toInt = (a : Int) := ⟨x.toInt.toNat, by omega⟩
          obtain ⟨c, hxc⟩ : ∃ c : Nat, y.toInt = (c : Int) := ⟨y.toInt.toNat, by omega⟩
          replace hGP := hGP.keep (hfr12 _ (by omega))
          refine lv_aload_n F.1 F.2.1 d_Mo_port_38 rfl (lv_at hl 0 rfl) ?_
          refine gf_Mo_17 F hW12 (by omega) mo d_Mo_port_39 ?_
          refine q_bipush F d_Mo_port_42 (by decide) (fun v14 hv14 => ?_)
          refine lv_iload_n F.1 F.2.1 d_Mo_port_44 rfl (lv_at hl 1 rfl) ?_
          refine q_imul F d_Mo_port_45 (by rw [hv14]; omega) (fun v15 hv15 => ?_)
          rw [hv14] at hv15
          refine lv_iload_n F.1 F.2.1 d_Mo_port_46 rfl (lv_at hl 2 rfl) ?_
          refine q_iadd F d_Mo_port_47 (by omega) (fun v16 hv16 => ?_)
          refine q_iald F hW12 hGP (by omega) ((16 * a) + c) (by omega) (by omega) d_Mo_port_48 (fun v17 hv17 => ?_)
          rw [hGPf a c (by omega) (by omega)] at hv17
          exact q_iret F hr hlk hW12 ⟨0, X, by rw [hxa, hxc, hv17]; exact ⟨rfl, Or.inr ⟨rfl, ⟨⟨by omega, by omega⟩, by omega, by omega⟩, by simp only [Int.toNat_natCast]⟩⟩, ⟨⟨_, n32, b32, s32, p32, mo, hv11, hn, hbb, hs, hpp⟩, hR.keep (fun q _ _ => hfr12 q (by omega))⟩, fun q hq => hfr12 q (by omega)⟩ d_Mo_port_49
        · exact absurd c13 (by omega)
      · refine q_iconst F d_Mo_port_19 (by decide) (fun v18 hv18 => ?_)
        refine lv_goto (tgt := 24) F.1 F.2.1 d_Mo_port_20 (by decide) ?_
        refine pf_Mo_57 F hW1 (by omega) mo d_Mo_port_24 (fun H19 locs19 w19 hW19 hI19 hfr19 => ?_)
        replace mo := hI19
        refine lv_aload_n F.1 F.2.1 d_Mo_port_27 rfl (lv_at hl 0 rfl) ?_
        refine gf_Mo_57 F hW19 (by omega) mo d_Mo_port_28 ?_
        refine q_if_eq (tgt := 38) F d_Mo_port_31 (by decide) (fun c20 => ?_) (fun c20 => ?_)
        · exact absurd c20 (by omega)
        · refine q_iconst F d_Mo_port_34 (by decide) (fun v21 hv21 => ?_)
          refine lv_goto (tgt := 49) F.1 F.2.1 d_Mo_port_35 (by decide) ?_
          exact q_iret F hr hlk hW19 ⟨1, X, ⟨rfl, Or.inl ⟨rfl, by omega⟩⟩, ⟨⟨_, n32, b32, s32, p32, mo, hv18, hn, hbb, hs, hpp⟩, hR.keep (fun q _ _ => hfr19 q (by omega))⟩, fun q hq => hfr19 q (by omega)⟩ d_Mo_port_49
set_option maxHeartbeats 4000000 in
set_option maxRecDepth 100000 in
/-- distance -/
theorem k_Mo_distance (l : Launch) (D : va_G) (τ : Nat → ClassId) (A : Nat → Prop) (ad : Nat → Nat) (N : Nat) (w : Nat → va_E) (hb : 484 ≤ N) (X : zSt) (Bd : Nat) (t0 : Int) (hX : qMo τ ad w X t0) (hO : zOK X Bd) (hB9 : Bd ≤ 1000) (x y : Int32) : Met l y_Mo_distance (qws y_Mo_distance c_Mo_distance 3 (some .int)) ({ frames := 8, cells := 0, slots := 0, locals := 180 }) (qPc D τ A ad N w [.ref (ad 469), .int x, .int y]) (va_Qi (fun r1 w1 => ∃ k X9, zR_distance X x.toInt y.toInt k r1.toInt X9 ∧ qMo τ ad w1 X9 k ∧ (∀ q, (q < 469 ∨ 484 ≤ q) → w1 q = w q)) (qB D τ A ad N) A) 0 0 A := by
  refine q_of (by decide) (Nat.le_of_ble_eq_true rfl) rfl ?_
  intro PP EE s MM below meth CC ls F hr hlk hnm hex hl hW
  have hl : lv_has ls 3 [(0, .ref (ad 469)), (1, .int x), (2, .int y)] := hl
  obtain ⟨⟨th, n32, b32, s32, p32, mo, ht, hn, hbb, hs, hpp⟩, hR⟩ := id hX
  obtain ⟨⟨GW, hGW, hGWf⟩, ⟨GP, hGP, hGPf⟩, hMs, hMb, hPl, hGo, hPd⟩ := id hR
  obtain ⟨hm1, hm40, hZ, hBt, hpk16, hpkb, hpk9, hsn⟩ := id hO
  refine lv_aload_n F.1 F.2.1 d_Mo_distance_0 rfl (lv_at hl 0 rfl) ?_
  refine lv_aload_n F.1 F.2.1 d_Mo_distance_1 rfl (lv_at hl 0 rfl) ?_
  refine lv_iload_n F.1 F.2.1 d_Mo_distance_2 rfl (lv_at hl 1 rfl) ?_
  refine q_calli hW (q_cV (As := [.int x]) (rest := [.ref (ad 469)]) F hW cs_Mo_70 hd_Mo_isNode rfl (by omega) mo (k_Mo_isNode l D τ A ad N w hb th n32 b32 s32 p32 mo X.n hn hm40 x) rfl rfl ⟨by decide, by decide⟩ rfl hl.1 rfl (Nat.le_of_ble_eq_true rfl) d_Mo_distance_3 ⟨Nat.le_refl _, Nat.le_refl _⟩) (fun v1 w1 H1 locs1 hp1 hW1 => ?_)
  obtain ⟨hq1, hp1⟩ := hp1
  replace hq1 := hq1.symm
  subst hq1
  refine q_if_eq (tgt := 17) F d_Mo_distance_6 (by decide) (fun c6 => ?_) (fun c6 => ?_)
  · refine q_iconst F d_Mo_distance_17 (by decide) (fun v2 hv2 => ?_)
    refine lv_goto (tgt := 22) F.1 F.2.1 d_Mo_distance_18 (by decide) ?_
    refine pf_Mo_57 F hW1 (by omega) mo d_Mo_distance_22 (fun H3 locs3 w3 hW3 hI3 hfr3 => ?_)
    replace mo := hI3
    refine lv_aload_n F.1 F.2.1 d_Mo_distance_25 rfl (lv_at hl 0 rfl) ?_
    refine gf_Mo_57 F hW3 (by omega) mo d_Mo_distance_26 ?_
    refine q_if_eq (tgt := 34) F d_Mo_distance_29 (by decide) (fun c4 => ?_) (fun c4 => ?_)
    · exact absurd c4 (by omega)
    · refine q_iconst F d_Mo_distance_32 (by decide) (fun v5 hv5 => ?_)
      exact q_iret F hr hlk hW3 ⟨1, X, ⟨rfl, Or.inl ⟨rfl, fun q => qb_f hp1 (by omega) q.1⟩⟩, ⟨⟨_, n32, b32, s32, p32, mo, hv2, hn, hbb, hs, hpp⟩, hR.keep (fun q _ _ => hfr3 q (by omega))⟩, fun q hq => hfr3 q (by omega)⟩ d_Mo_distance_33
  · have hx1 := qb_t hp1 (by omega)
    refine lv_aload_n F.1 F.2.1 d_Mo_distance_9 rfl (lv_at hl 0 rfl) ?_
    refine lv_iload_n F.1 F.2.1 d_Mo_distance_10 rfl (lv_at hl 2 rfl) ?_
    refine q_calli hW1 (q_cV (As := [.int y]) (rest := [.ref (ad 469)]) F hW1 cs_Mo_70 hd_Mo_isNode rfl (by omega) mo (k_Mo_isNode l D τ A ad N w hb th n32 b32 s32 p32 mo X.n hn hm40 y) rfl rfl ⟨by decide, by decide⟩ rfl hl.1 rfl (Nat.le_of_ble_eq_true rfl) d_Mo_distance_11 ⟨Nat.le_refl _, Nat.le_refl _⟩) (fun v6 w6 H6 locs6 hp6 hW6 => ?_)
    obtain ⟨hq6, hp6⟩ := hp6
    replace hq6 := hq6.symm
    subst hq6
    refine q_if_ne (tgt := 21) F d_Mo_distance_14 (by decide) (fun c14 => ?_) (fun c14 => ?_)
    · have hy1 := qb_t hp6 (by omega)
      refine q_iconst F d_Mo_distance_21 (by decide) (fun v7 hv7 => ?_)
      refine pf_Mo_57 F hW6 (by omega) mo d_Mo_distance_22 (fun H8 locs8 w8 hW8 hI8 hfr8 => ?_)
      replace mo := hI8
      refine lv_aload_n F.1 F.2.1 d_Mo_distance_25 rfl (lv_at hl 0 rfl) ?_
      refine gf_Mo_57 F hW8 (by omega) mo d_Mo_distance_26 ?_
      refine q_if_eq (tgt := 34) F d_Mo_distance_29 (by decide) (fun c9 => ?_) (fun c9 => ?_)
      · obtain ⟨a, hxa⟩ : ∃ a : Nat, x.toInt = (a : Int) := ⟨x.toInt.toNat, by omega⟩
        obtain ⟨c, hxc⟩ : ∃ c : Nat, y.toInt = (c : Int) := ⟨y.toInt.toNat, by omega⟩
        obtain ⟨-, -, ⟨N9, hN9⟩, -⟩ := id hMs
        replace hGW := hGW.keep (hfr8 _ (by omega))
        replace hN9 := hN9.keep (hfr8 _ (by omega))
        refine lv_aload_n F.1 F.2.1 d_Mo_distance_34 rfl (lv_at hl 0 rfl) ?_
        refine q_callv hW8 (q_cV (As := []) (rest := []) F hW8 cs_Mo_79 hd_Mo_measure rfl (by omega) mo (k_Mo_measure l D τ A ad N w8 hb v7 n32 b32 s32 p32 mo X.n hn hm40 GW hGW X.Wt hGWf N9 hN9 hZ.1) rfl rfl ⟨by decide, by decide⟩ rfl hl.1 rfl (Nat.le_of_ble_eq_true rfl) d_Mo_distance_35 ⟨Nat.le_refl _, Nat.le_refl _⟩) (fun w10 H10 locs10 hp10 hW10 => ?_)
        obtain ⟨⟨T9, hT9, hT9f⟩, hfr10⟩ := hp10
        replace mo := (hfr10 _ (by omega)).trans mo
        have hR9 : qMr τ w10 X := ⟨⟨GW, hGW.keep (hfr10 _ (by omega)), hGWf⟩, ⟨GP, (hGP.keep (hfr8 _ (by omega))).keep (hfr10 _ (by omega)), hGPf⟩, by
          obtain ⟨⟨_, h1⟩, ⟨_, h2⟩, -, ⟨_, h4⟩, ⟨_, h5⟩, ⟨_, h6⟩, ⟨_, h7⟩, ⟨_, h8⟩, _, h9⟩ := hMs.keep (fun q _ _ => hfr8 q (by omega))
          exact ⟨⟨_, h1.keep (hfr10 _ (by omega))⟩, ⟨_, h2.keep (hfr10 _ (by omega))⟩, ⟨_, hT9⟩, ⟨_, h4.keep (hfr10 _ (by omega))⟩, ⟨_, h5.keep (hfr10 _ (by omega))⟩, ⟨_, h6.keep (hfr10 _ (by omega))⟩, ⟨_, h7.keep (hfr10 _ (by omega))⟩, ⟨_, h8.keep (hfr10 _ (by omega))⟩, _, h9.keep (hfr10 _ (by omega))⟩, fun b => ((hMb b).keep (fun q _ _ _ => hfr8 q (by omega))).keep (fun q _ _ h => hfr10 q h), (hPl.keep (hfr8 _ (by omega))).keep (hfr10 _ (by omega)), (hGo.keep (hfr8 _ (by omega))).keep (hfr10 _ (by omega)), (hPd.keep (hfr8 _ (by omega))).keep (hfr10 _ (by omega))⟩
        refine lv_aload_n F.1 F.2.1 d_Mo_distance_38 rfl (lv_at hl 0 rfl) ?_
        refine gf_Mo_26 F hW10 (by omega) mo d_Mo_distance_39 ?_
        refine q_bipush F d_Mo_distance_42 (by decide) (fun v11 hv11 => ?_)
        refine lv_iload_n F.1 F.2.1 d_Mo_distance_44 rfl (lv_at hl 1 rfl) ?_
        refine q_imul F d_Mo_distance_45 (by rw [hv11]; omega) (fun v12 hv12 => ?_)
        rw [hv11] at hv12
        refine lv_iload_n F.1 F.2.1 d_Mo_distance_46 rfl (lv_at hl 2 rfl) ?_
        refine q_iadd F d_Mo_distance_47 (by omega) (fun v13 hv13 => ?_)
        refine q_iald F hW10 hT9 (by omega) ((40 * a) + c) (by omega) (by omega) d_Mo_distance_48 (fun v14 hv14 => ?_)
        rw [hT9f a c (by omega) (by omega)] at hv14
        refine q_far F d_Mo_distance_49 (fun v15 hv15 => ?_)
        refine q_icmp_lt (tgt := 58) F d_Mo_distance_51 (by decide) (fun c51 => ?_) (fun c51 => ?_)
        · refine lv_aload_n F.1 F.2.1 d_Mo_distance_58 rfl (lv_at hl 0 rfl) ?_
          refine gf_Mo_26 F hW10 (by omega) mo d_Mo_distance_59 ?_
          refine q_bipush F d_Mo_distance_62 (by decide) (fun v16 hv16 => ?_)
          refine lv_iload_n F.1 F.2.1 d_Mo_distance_64 rfl (lv_at hl 1 rfl) ?_
          refine q_imul F d_Mo_distance_65 (by rw [hv16]; omega) (fun v17 hv17 => ?_)
          rw [hv16] at hv17
          refine lv_iload_n F.1 F.2.1 d_Mo_distance_66 rfl (lv_at hl 2 rfl) ?_
          refine q_iadd F d_Mo_distance_67 (by omega) (fun v18 hv18 => ?_)
          refine q_iald F hW10 hT9 (by omega) ((40 * a) + c) (by omega) (by omega) d_Mo_distance_68 (fun v19 hv19 => ?_)
          rw [hT9f a c (by omega) (by omega)] at hv19
          exact q_iret F hr hlk hW10 ⟨0, X, by rw [hxa, hxc]; exact ⟨rfl, Or.inr ⟨rfl, ⟨⟨by omega, by omega⟩, by omega, by omega⟩, by simp only [Int.toNat_natCast]; exact Or.inl ⟨by omega, by omega⟩⟩⟩, ⟨⟨_, n32, b32, s32, p32, mo, hv7, hn, hbb, hs, hpp⟩, hR9⟩, fun q hq => (hfr10 q (by omega)).trans (hfr8 q (by omega))⟩ d_Mo_distance_69
        · refine q_iconst F d_Mo_distance_54 (by decide) (fun v20 hv20 => ?_)
          refine lv_goto (tgt := 69) F.1 F.2.1 d_Mo_distance_55 (by decide) ?_
          exact q_iret F hr hlk hW10 ⟨0, X, by rw [hxa, hxc]; exact ⟨rfl, Or.inr ⟨rfl, ⟨⟨by omega, by omega⟩, by omega, by omega⟩, by simp only [Int.toNat_natCast]; exact Or.inr ⟨by omega, by omega⟩⟩⟩, ⟨⟨_, n32, b32, s32, p32, mo, hv7, hn, hbb, hs, hpp⟩, hR9⟩, fun q hq => (hfr10 q (by omega)).trans (hfr8 q (by omega))⟩ d_Mo_distance_69
      · exact absurd c9 (by omega)
    · refine q_iconst F d_Mo_distance_17 (by decide) (fun v21 hv21 => ?_)
      refine lv_goto (tgt := 22) F.1 F.2.1 d_Mo_distance_18 (by decide) ?_
      refine pf_Mo_57 F hW6 (by omega) mo d_Mo_distance_22 (fun H22 locs22 w22 hW22 hI22 hfr22 => ?_)
      replace mo := hI22
      refine lv_aload_n F.1 F.2.1 d_Mo_distance_25 rfl (lv_at hl 0 rfl) ?_
      refine gf_Mo_57 F hW22 (by omega) mo d_Mo_distance_26 ?_
      refine q_if_eq (tgt := 34) F d_Mo_distance_29 (by decide) (fun c23 => ?_) (fun c23 => ?_)
      · exact absurd c23 (by omega)
      · refine q_iconst F d_Mo_distance_32 (by decide) (fun v24 hv24 => ?_)
        exact q_iret F hr hlk hW22 ⟨1, X, ⟨rfl, Or.inl ⟨rfl, fun q => qb_f hp6 (by omega) q.2⟩⟩, ⟨⟨_, n32, b32, s32, p32, mo, hv21, hn, hbb, hs, hpp⟩, hR.keep (fun q _ _ => hfr22 q (by omega))⟩, fun q hq => hfr22 q (by omega)⟩ d_Mo_distance_33
set_option maxHeartbeats 4000000 in
set_option maxRecDepth 100000 in
/-- nodes -/
theorem k_Mo_nodes (l : Launch) (D : va_G) (τ : Nat → ClassId) (A : Nat → Prop) (ad : Nat → Nat) (N : Nat) (w : Nat → va_E) (hb : 484 ≤ N) (X : zSt) (Bd : Nat) (t0 : Int) (hX : qMo τ ad w X t0) (hO : zOK X Bd) (hB9 : Bd ≤ 1000) (x : Int32) : Met l y_Mo_nodes (qws y_Mo_nodes c_Mo_nodes 3 none) ({ frames := 8, cells := 0, slots := 0, locals := 180 }) (qPc D τ A ad N w [.ref (ad 469), .int x]) (va_Qv (fun w1 => ∃ k X9, zR_nodes X x.toInt k 0 X9 ∧ qMo τ ad w1 X9 k ∧ (∀ q, (q < 469 ∨ 484 ≤ q) → w1 q = w q)) (qB D τ A ad N) A) 0 0 A := by
  refine q_of (by decide) (Nat.le_of_ble_eq_true rfl) rfl ?_
  intro PP EE s MM below meth CC ls F hr hlk hnm hex hl hW
  have hl : lv_has ls 3 [(0, .ref (ad 469)), (1, .int x)] := hl
  obtain ⟨⟨th, n32, b32, s32, p32, mo, ht, hn, hbb, hs, hpp⟩, hR⟩ := id hX
  obtain ⟨⟨GW, hGW, hGWf⟩, ⟨GP, hGP, hGPf⟩, hMs, hMb, hPl, hGo, hPd⟩ := id hR
  obtain ⟨hm1, hm40, hZ, hBt, hpk16, hpkb, hpk9, hsn⟩ := id hO
  refine lv_aload_n F.1 F.2.1 d_Mo_nodes_0 rfl (lv_at hl 0 rfl) ?_
  refine lv_iload_n F.1 F.2.1 d_Mo_nodes_1 rfl (lv_at hl 1 rfl) ?_
  refine q_iconst F d_Mo_nodes_2 (by decide) (fun v1 hv1 => ?_)
  refine q_icmp_lt (tgt := 12) F d_Mo_nodes_3 (by decide) (fun c3 => ?_) (fun c3 => ?_)
  · refine q_iconst F d_Mo_nodes_12 (by decide) (fun v2 hv2 => ?_)
    refine lv_goto (tgt := 17) F.1 F.2.1 d_Mo_nodes_13 (by decide) ?_
    refine pf_Mo_57 F hW (by omega) mo d_Mo_nodes_17 (fun H3 locs3 w3 hW3 hI3 hfr3 => ?_)
    replace mo := hI3
    refine lv_aload_n F.1 F.2.1 d_Mo_nodes_20 rfl (lv_at hl 0 rfl) ?_
    refine gf_Mo_57 F hW3 (by omega) mo d_Mo_nodes_21 ?_
    refine q_if_eq (tgt := 28) F d_Mo_nodes_24 (by decide) (fun c4 => ?_) (fun c4 => ?_)
    · exact absurd c4 (by omega)
    · exact q_vret F hr hlk hW3 ⟨1, X, Or.inl ⟨rfl, rfl, by omega⟩, ⟨⟨_, n32, b32, s32, p32, mo, hv2, hn, hbb, hs, hpp⟩, hR.keep (fun q _ _ => hfr3 q (by omega))⟩, fun q hq => hfr3 q (by omega)⟩ d_Mo_nodes_27
  · refine lv_iload_n F.1 F.2.1 d_Mo_nodes_6 rfl (lv_at hl 1 rfl) ?_
    refine q_bipush F d_Mo_nodes_7 (by decide) (fun v5 hv5 => ?_)
    refine q_icmp_le (tgt := 16) F d_Mo_nodes_9 (by decide) (fun c9 => ?_) (fun c9 => ?_)
    · refine q_iconst F d_Mo_nodes_16 (by decide) (fun v6 hv6 => ?_)
      refine pf_Mo_57 F hW (by omega) mo d_Mo_nodes_17 (fun H7 locs7 w7 hW7 hI7 hfr7 => ?_)
      replace mo := hI7
      refine lv_aload_n F.1 F.2.1 d_Mo_nodes_20 rfl (lv_at hl 0 rfl) ?_
      refine gf_Mo_57 F hW7 (by omega) mo d_Mo_nodes_21 ?_
      refine q_if_eq (tgt := 28) F d_Mo_nodes_24 (by decide) (fun c8 => ?_) (fun c8 => ?_)
      · obtain ⟨n9, hxn9⟩ : ∃ n9 : Nat, x.toInt = (n9 : Int) := ⟨x.toInt.toNat, by omega⟩
        refine lv_aload_n F.1 F.2.1 d_Mo_nodes_28 rfl (lv_at hl 0 rfl) ?_
        refine lv_iload_n F.1 F.2.1 d_Mo_nodes_29 rfl (lv_at hl 1 rfl) ?_
        refine pf_Mo_7 F hW7 (by omega) mo d_Mo_nodes_30 (fun H9 locs9 w9 hW9 hI9 hfr9 => ?_)
        replace mo := hI9
        refine lv_aload_n F.1 F.2.1 d_Mo_nodes_33 rfl (lv_at hl 0 rfl) ?_
        refine q_iconst F d_Mo_nodes_34 (by decide) (fun v10 hv10 => ?_)
        refine pf_Mo_60 F hW9 (Or.inl (q_eqI.mpr hv10)) (by omega) mo d_Mo_nodes_35 (fun H11 locs11 w11 hW11 hI11 hfr11 => ?_)
        replace mo := hI11
        have hf3 : ∀ q, q ≠ 469 → w11 q = w q := fun q hq => by rw [hfr11 q hq, hfr9 q hq, hfr7 q hq]
        replace hGW := hGW.keep (hf3 _ (by omega))
        replace hGP := hGP.keep (hf3 _ (by omega))
        refine q_iconst F d_Mo_nodes_38 (by decide) (fun v12 hv12 => ?_)
        refine lv_istore_n (lv' := [(2, .int v12), (0, .ref (ad 469)), (1, .int x)]) F.1 F.2.1 d_Mo_nodes_39 rfl hl (by decide) rfl (fun ls13 hl13 => ?_)
        clear hl
        obtain ⟨i, hi0⟩ : ∃ i : Nat, i = 0 := ⟨_, rfl⟩
        have hiv : v12.toInt = (i : Int) := by omega
        have hib : i ≤ 1600 := by omega
        obtain ⟨wl, hwl⟩ : ∃ x : Nat → va_E, x = w11 := ⟨_, rfl⟩
        have hWl : qW D τ A s H11 locs11 ad N wl := by rw [hwl]; exact hW11
        have mo : wl 469 = .inr (7, [.int v6, .int x, .ref (ad 470), .ref (ad 471), .ref (ad 472), .ref (ad 473), .ref (ad 474), .ref (ad 475), .int v10, .ref (ad 476), .ref (ad 477), .ref (ad 478), .ref (ad 479), .ref (ad 480), .int s32, .int p32, .ref (ad 481), .ref (ad 482), .ref (ad 483)]) := by rw [hwl]; exact mo
        have hfl : ∀ q, q ≠ 470 → wl q = w11 q := fun q _ => by rw [hwl]
        have hG1 : ∃ G, q_I τ wl 470 1600 G ∧ ∀ j, j < i → G j = 0 := ⟨GW, by rw [hwl]; exact hGW, fun j hj => absurd hj (by omega)⟩
        clear hi0 hv12 hwl
        generalize H11 = Hl at hWl ⊢
        generalize locs11 = locsl at hWl ⊢
        obtain ⟨f, hf⟩ : ∃ f : Nat, 1600 + 1 ≤ i + f := ⟨1600 + 1, by omega⟩
        induction f generalizing i v12 ls13 wl Hl locsl with
        | zero => exact absurd hf (by omega)
        | succ f ihi =>
          obtain ⟨G1, hG1, hG1f⟩ := hG1
          refine lv_iload_n F.1 F.2.1 d_Mo_nodes_40 rfl (lv_at hl13 0 rfl) ?_
          refine q_sipush F d_Mo_nodes_41 (by decide) (fun v14 hv14 => ?_)
          refine q_icmp_ge (tgt := 60) F d_Mo_nodes_44 (by decide) (fun c44 => ?_) (fun c44 => ?_)
          · have hGP2 := hGP.keep (hfl 471 (by omega))
            refine q_iconst F d_Mo_nodes_60 (by decide) (fun v15 hv15 => ?_)
            refine lv_istore_n (lv' := [(2, .int v15), (0, .ref (ad 469)), (1, .int x)]) F.1 F.2.1 d_Mo_nodes_61 rfl hl13 (by decide) rfl (fun ls16 hl16 => ?_)
            clear hl13
            obtain ⟨j, hj0⟩ : ∃ j : Nat, j = 0 := ⟨_, rfl⟩
            have hjv : v15.toInt = (j : Int) := by omega
            have hjb : j ≤ 640 := by omega
            obtain ⟨wk, hwk⟩ : ∃ x : Nat → va_E, x = wl := ⟨_, rfl⟩
            have hWk : qW D τ A s Hl locsl ad N wk := by rw [hwk]; exact hWl
            have mo : wk 469 = .inr (7, [.int v6, .int x, .ref (ad 470), .ref (ad 471), .ref (ad 472), .ref (ad 473), .ref (ad 474), .ref (ad 475), .int v10, .ref (ad 476), .ref (ad 477), .ref (ad 478), .ref (ad 479), .ref (ad 480), .int s32, .int p32, .ref (ad 481), .ref (ad 482), .ref (ad 483)]) := by rw [hwk]; exact mo
            have hfk : ∀ q, q ≠ 471 → wk q = wl q := fun q _ => by rw [hwk]
            have hG2 : ∃ G, q_I τ wk 471 640 G ∧ ∀ j2, j2 < j → G j2 = -1 := ⟨GP, by rw [hwk]; exact hGP2, fun j2 hj => absurd hj (by omega)⟩
            clear hj0 hv15 hwk
            generalize Hl = Hk at hWk ⊢
            generalize locsl = locsk at hWk ⊢
            obtain ⟨f9, hf9⟩ : ∃ f9 : Nat, 640 + 1 ≤ j + f9 := ⟨640 + 1, by omega⟩
            induction f9 generalizing j v15 ls16 wk Hk locsk with
            | zero => exact absurd hf9 (by omega)
            | succ f9 ihj =>
              obtain ⟨G2, hG2, hG2f⟩ := hG2
              refine lv_iload_n F.1 F.2.1 d_Mo_nodes_62 rfl (lv_at hl16 0 rfl) ?_
              refine q_sipush F d_Mo_nodes_63 (by decide) (fun v17 hv17 => ?_)
              refine q_icmp_ge (tgt := 82) F d_Mo_nodes_66 (by decide) (fun c66 => ?_) (fun c66 => ?_)
              · refine lv_aload_n F.1 F.2.1 d_Mo_nodes_82 rfl (lv_at hl16 1 rfl) ?_
                refine q_iconst F d_Mo_nodes_83 (by decide) (fun v18 hv18 => ?_)
                refine pf_Mo_64 F hWk (by omega) mo d_Mo_nodes_84 (fun H19 locs19 w19 hW19 hI19 hfr19 => ?_)
                replace mo := hI19
                refine lv_aload_n F.1 F.2.1 d_Mo_nodes_87 rfl (lv_at hl16 1 rfl) ?_
                refine q_iconst F d_Mo_nodes_88 (by decide) (fun v20 hv20 => ?_)
                refine pf_Mo_67 F hW19 (by omega) mo d_Mo_nodes_89 (fun H21 locs21 w21 hW21 hI21 hfr21 => ?_)
                replace mo := hI21
                have hfz : ∀ q, (q ≠ 469 ∧ q ≠ 470 ∧ q ≠ 471) → w21 q = w q := fun q hq => by rw [hfr21 q hq.1, hfr19 q hq.1, hfk q hq.2.2, hfl q hq.2.1, hf3 q hq.1]
                have hfy : ∀ q, q ≠ 469 → w21 q = wk q := fun q hq => by rw [hfr21 q hq, hfr19 q hq]
                exact q_vret F hr hlk hW21 ⟨0, zs_nodes X n9, by rw [hxn9]; exact Or.inr ⟨rfl, by omega, by simp only [Int.toNat_natCast]⟩, ⟨⟨_, _, _, _, _, mo, hv6, hxn9, Or.inr ⟨id, q_eqI.mpr hv10⟩, hv18, hv20⟩, ⟨G1, (hG1.keep (hfk _ (by omega))).keep (hfy _ (by omega)), fun a b ha hb9 => hG1f _ (by have h8 : a < n9 := ha; have h9 : b < n9 := hb9; omega)⟩, ⟨G2, hG2.keep (hfy _ (by omega)), fun a b ha hb9 => hG2f _ (by have h8 : a < n9 := ha; omega)⟩, hMs.keep (fun q _ _ => hfz q (by omega)), fun q => absurd q id, hPl.keep (hfz _ (by omega)), hGo.keep (hfz _ (by omega)), hPd.keep (hfz _ (by omega))⟩, fun q hq => hfz q (by omega)⟩ d_Mo_nodes_92
              · refine lv_aload_n F.1 F.2.1 d_Mo_nodes_69 rfl (lv_at hl16 1 rfl) ?_
                refine gf_Mo_17 F hWk (by omega) mo d_Mo_nodes_70 ?_
                refine lv_iload_n F.1 F.2.1 d_Mo_nodes_73 rfl (lv_at hl16 0 rfl) ?_
                refine q_iconst F d_Mo_nodes_74 (by decide) (fun v22 hv22 => ?_)
                refine q_iast F hWk hG2 (by omega) j (by omega) (by omega) d_Mo_nodes_75 (fun H23 locs23 w23 hW23 hI23 hfr23 => ?_)
                refine q_iinc (lv' := fun v24 => [(2, .int v24), (0, .ref (ad 469)), (1, .int x)]) F d_Mo_nodes_76 hl16 (k := 0) rfl (by decide) (by omega) (by decide) (fun _ => rfl) (fun v24 lsv24 hv24 hlv24 => ?_)
                clear hl16
                refine lv_goto (tgt := 62) F.1 F.2.1 d_Mo_nodes_79 (by decide) ?_
                exact ihj (j := j + 1) (v15 := v24) (ls16 := lsv24) (wk := w23) (Hk := H23) (locsk := locs23) (hjv := by omega) (hjb := by omega) (hWk := hW23) (mo := (hfr23 _ (by omega)).trans mo) (hfk := fun q hq => (hfr23 q hq).trans (hfk q hq)) (hG2 := ⟨_, hI23, fun j2 hj2 => by unfold q_up; split; omega; exact hG2f j2 (by omega)⟩) (hf9 := by omega) (hl16 := (lv_sub hlv24 [0, 1, 2] rfl))
          · refine lv_aload_n F.1 F.2.1 d_Mo_nodes_47 rfl (lv_at hl13 1 rfl) ?_
            refine gf_Mo_13 F hWl (by omega) mo d_Mo_nodes_48 ?_
            refine lv_iload_n F.1 F.2.1 d_Mo_nodes_51 rfl (lv_at hl13 0 rfl) ?_
            refine q_iconst F d_Mo_nodes_52 (by decide) (fun v25 hv25 => ?_)
            refine q_iast F hWl hG1 (by omega) i (by omega) (by omega) d_Mo_nodes_53 (fun H26 locs26 w26 hW26 hI26 hfr26 => ?_)
            refine q_iinc (lv' := fun v27 => [(2, .int v27), (0, .ref (ad 469)), (1, .int x)]) F d_Mo_nodes_54 hl13 (k := 0) rfl (by decide) (by omega) (by decide) (fun _ => rfl) (fun v27 lsv27 hv27 hlv27 => ?_)
            clear hl13
            refine lv_goto (tgt := 40) F.1 F.2.1 d_Mo_nodes_57 (by decide) ?_
            exact ihi (i := i + 1) (v12 := v27) (ls13 := lsv27) (wl := w26) (Hl := H26) (locsl := locs26) (hiv := by omega) (hib := by omega) (hWl := hW26) (mo := (hfr26 _ (by omega)).trans mo) (hfl := fun q hq => (hfr26 q hq).trans (hfl q hq)) (hG1 := ⟨_, hI26, fun j2 hj2 => by unfold q_up; split; omega; exact hG1f j2 (by omega)⟩) (hf := by omega) (hl13 := (lv_sub hlv27 [0, 1, 2] rfl))
      · exact absurd c8 (by omega)
    · refine q_iconst F d_Mo_nodes_12 (by decide) (fun v28 hv28 => ?_)
      refine lv_goto (tgt := 17) F.1 F.2.1 d_Mo_nodes_13 (by decide) ?_
      refine pf_Mo_57 F hW (by omega) mo d_Mo_nodes_17 (fun H29 locs29 w29 hW29 hI29 hfr29 => ?_)
      replace mo := hI29
      refine lv_aload_n F.1 F.2.1 d_Mo_nodes_20 rfl (lv_at hl 0 rfl) ?_
      refine gf_Mo_57 F hW29 (by omega) mo d_Mo_nodes_21 ?_
      refine q_if_eq (tgt := 28) F d_Mo_nodes_24 (by decide) (fun c30 => ?_) (fun c30 => ?_)
      · exact absurd c30 (by omega)
      · exact q_vret F hr hlk hW29 ⟨1, X, Or.inl ⟨rfl, rfl, by omega⟩, ⟨⟨_, n32, b32, s32, p32, mo, hv28, hn, hbb, hs, hpp⟩, hR.keep (fun q _ _ => hfr29 q (by omega))⟩, fun q hq => hfr29 q (by omega)⟩ d_Mo_nodes_27
