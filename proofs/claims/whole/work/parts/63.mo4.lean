set_option maxHeartbeats 4000000 in
set_option maxRecDepth 100000 in
/-- edge -/
theorem k_Mo_edge (l : Launch) (D : va_G) (τ : Nat → ClassId) (A : Nat → Prop) (ad : Nat → Nat) (N : Nat) (w : Nat → va_E) (hb : 484 ≤ N) (X : zSt) (Bd : Nat) (t0 : Int) (hX : qMo τ ad w X t0) (hO : zOK X Bd) (hB9 : Bd ≤ 1000) (x y z : Int32) : Met l y_Mo_edge (qws y_Mo_edge c_Mo_edge 7 (some .int)) ({ frames := 8, cells := 0, slots := 0, locals := 180 }) (qPc D τ A ad N w [.ref (ad 469), .int x, .int y, .int z]) (va_Qi (fun r1 w1 => ∃ k X9, zR_edge X x.toInt y.toInt z.toInt k r1.toInt X9 ∧ qMo τ ad w1 X9 k ∧ (∀ q, (q < 469 ∨ 484 ≤ q) → w1 q = w q)) (qB D τ A ad N) A) 0 0 A := by
  refine q_of (by decide) (Nat.le_of_ble_eq_true rfl) rfl ?_
  intro PP EE s MM below meth CC ls F hr hlk hnm hex hl hW
  have hl : lv_has ls 7 [(0, .ref (ad 469)), (1, .int x), (2, .int y), (3, .int z)] := hl
  obtain ⟨⟨th, n32, b32, s32, p32, mo, ht, hn, hbb, hs, hpp⟩, hR⟩ := id hX
  obtain ⟨⟨GW, hGW, hGWf⟩, ⟨GP, hGP, hGPf⟩, hMs, hMb, hPl, hGo, hPd⟩ := id hR
  obtain ⟨hm1, hm40, hZ, hBt, hpk16, hpkb, hpk9, hsn⟩ := id hO
  refine lv_aload_n F.1 F.2.1 d_Mo_edge_0 rfl (lv_at hl 0 rfl) ?_
  refine lv_aload_n F.1 F.2.1 d_Mo_edge_1 rfl (lv_at hl 0 rfl) ?_
  refine lv_iload_n F.1 F.2.1 d_Mo_edge_2 rfl (lv_at hl 1 rfl) ?_
  refine q_calli hW (q_cV (As := [.int x]) (rest := [.ref (ad 469)]) F hW cs_Mo_70 hd_Mo_isNode rfl (by omega) mo (k_Mo_isNode l D τ A ad N w hb th n32 b32 s32 p32 mo X.n hn hm40 x) rfl rfl ⟨by decide, by decide⟩ rfl hl.1 rfl (Nat.le_of_ble_eq_true rfl) d_Mo_edge_3 ⟨Nat.le_refl _, Nat.le_refl _⟩) (fun v1 w1 H1 locs1 hp1 hW1 => ?_)
  obtain ⟨hq1, hp1⟩ := hp1
  replace hq1 := hq1.symm
  subst hq1
  refine q_if_eq (tgt := 17) F d_Mo_edge_6 (by decide) (fun c6 => ?_) (fun c6 => ?_)
  · refine q_iconst F d_Mo_edge_17 (by decide) (fun v2 hv2 => ?_)
    refine lv_goto (tgt := 43) F.1 F.2.1 d_Mo_edge_18 (by decide) ?_
    refine pf_Mo_57 F hW1 (by omega) mo d_Mo_edge_43 (fun H3 locs3 w3 hW3 hI3 hfr3 => ?_)
    replace mo := hI3
    refine lv_aload_n F.1 F.2.1 d_Mo_edge_46 rfl (lv_at hl 0 rfl) ?_
    refine gf_Mo_57 F hW3 (by omega) mo d_Mo_edge_47 ?_
    refine q_if_eq (tgt := 55) F d_Mo_edge_50 (by decide) (fun c4 => ?_) (fun c4 => ?_)
    · exact absurd c4 (by omega)
    · refine q_iconst F d_Mo_edge_53 (by decide) (fun v5 hv5 => ?_)
      exact q_iret F hr hlk hW3 ⟨1, X, Or.inl ⟨rfl, rfl, fun q => qb_f hp1 (by omega) q.1⟩, ⟨⟨_, n32, b32, s32, p32, mo, hv2, hn, hbb, hs, hpp⟩, hR.keep (fun q _ _ => hfr3 q (by omega))⟩, fun q hq => hfr3 q (by omega)⟩ d_Mo_edge_54
  · have hx1 := qb_t hp1 (by omega)
    refine lv_aload_n F.1 F.2.1 d_Mo_edge_9 rfl (lv_at hl 0 rfl) ?_
    refine lv_iload_n F.1 F.2.1 d_Mo_edge_10 rfl (lv_at hl 2 rfl) ?_
    refine q_calli hW1 (q_cV (As := [.int y]) (rest := [.ref (ad 469)]) F hW1 cs_Mo_70 hd_Mo_isNode rfl (by omega) mo (k_Mo_isNode l D τ A ad N w hb th n32 b32 s32 p32 mo X.n hn hm40 y) rfl rfl ⟨by decide, by decide⟩ rfl hl.1 rfl (Nat.le_of_ble_eq_true rfl) d_Mo_edge_11 ⟨Nat.le_refl _, Nat.le_refl _⟩) (fun v6 w6 H6 locs6 hp6 hW6 => ?_)
    obtain ⟨hq6, hp6⟩ := hp6
    replace hq6 := hq6.symm
    subst hq6
    refine q_if_ne (tgt := 21) F d_Mo_edge_14 (by decide) (fun c14 => ?_) (fun c14 => ?_)
    · have hy1 := qb_t hp6 (by omega)
      refine lv_iload_n F.1 F.2.1 d_Mo_edge_21 rfl (lv_at hl 1 rfl) ?_
      refine lv_iload_n F.1 F.2.1 d_Mo_edge_22 rfl (lv_at hl 2 rfl) ?_
      refine q_icmp_eq (tgt := 38) F d_Mo_edge_23 (by decide) (fun c23 => ?_) (fun c23 => ?_)
      · refine q_iconst F d_Mo_edge_38 (by decide) (fun v7 hv7 => ?_)
        refine lv_goto (tgt := 43) F.1 F.2.1 d_Mo_edge_39 (by decide) ?_
        refine pf_Mo_57 F hW6 (by omega) mo d_Mo_edge_43 (fun H8 locs8 w8 hW8 hI8 hfr8 => ?_)
        replace mo := hI8
        refine lv_aload_n F.1 F.2.1 d_Mo_edge_46 rfl (lv_at hl 0 rfl) ?_
        refine gf_Mo_57 F hW8 (by omega) mo d_Mo_edge_47 ?_
        refine q_if_eq (tgt := 55) F d_Mo_edge_50 (by decide) (fun c9 => ?_) (fun c9 => ?_)
        · exact absurd c9 (by omega)
        · refine q_iconst F d_Mo_edge_53 (by decide) (fun v10 hv10 => ?_)
          exact q_iret F hr hlk hW8 ⟨2, X, Or.inr ⟨⟨hx1, hy1⟩, Or.inl ⟨rfl, rfl, by omega⟩⟩, ⟨⟨_, n32, b32, s32, p32, mo, hv7, hn, hbb, hs, hpp⟩, hR.keep (fun q _ _ => hfr8 q (by omega))⟩, fun q hq => hfr8 q (by omega)⟩ d_Mo_edge_54
      · refine lv_iload_n F.1 F.2.1 d_Mo_edge_26 rfl (lv_at hl 3 rfl) ?_
        refine q_iconst F d_Mo_edge_27 (by decide) (fun v11 hv11 => ?_)
        refine q_icmp_lt (tgt := 38) F d_Mo_edge_28 (by decide) (fun c28 => ?_) (fun c28 => ?_)
        · refine q_iconst F d_Mo_edge_38 (by decide) (fun v12 hv12 => ?_)
          refine lv_goto (tgt := 43) F.1 F.2.1 d_Mo_edge_39 (by decide) ?_
          refine pf_Mo_57 F hW6 (by omega) mo d_Mo_edge_43 (fun H13 locs13 w13 hW13 hI13 hfr13 => ?_)
          replace mo := hI13
          refine lv_aload_n F.1 F.2.1 d_Mo_edge_46 rfl (lv_at hl 0 rfl) ?_
          refine gf_Mo_57 F hW13 (by omega) mo d_Mo_edge_47 ?_
          refine q_if_eq (tgt := 55) F d_Mo_edge_50 (by decide) (fun c14 => ?_) (fun c14 => ?_)
          · exact absurd c14 (by omega)
          · refine q_iconst F d_Mo_edge_53 (by decide) (fun v15 hv15 => ?_)
            exact q_iret F hr hlk hW13 ⟨2, X, Or.inr ⟨⟨hx1, hy1⟩, Or.inl ⟨rfl, rfl, by omega⟩⟩, ⟨⟨_, n32, b32, s32, p32, mo, hv12, hn, hbb, hs, hpp⟩, hR.keep (fun q _ _ => hfr13 q (by omega))⟩, fun q hq => hfr13 q (by omega)⟩ d_Mo_edge_54
        · refine lv_iload_n F.1 F.2.1 d_Mo_edge_31 rfl (lv_at hl 3 rfl) ?_
          refine q_sipush F d_Mo_edge_32 (by decide) (fun v16 hv16 => ?_)
          refine q_icmp_le (tgt := 42) F d_Mo_edge_35 (by decide) (fun c35 => ?_) (fun c35 => ?_)
          · refine q_iconst F d_Mo_edge_42 (by decide) (fun v17 hv17 => ?_)
            refine pf_Mo_57 F hW6 (by omega) mo d_Mo_edge_43 (fun H18 locs18 w18 hW18 hI18 hfr18 => ?_)
            replace mo := hI18
            refine lv_aload_n F.1 F.2.1 d_Mo_edge_46 rfl (lv_at hl 0 rfl) ?_
            refine gf_Mo_57 F hW18 (by omega) mo d_Mo_edge_47 ?_
            refine q_if_eq (tgt := 55) F d_Mo_edge_50 (by decide) (fun c19 => ?_) (fun c19 => ?_)
            · obtain ⟨a, hxa⟩ : ∃ a : Nat, x.toInt = (a : Int) := ⟨x.toInt.toNat, by omega⟩
              obtain ⟨c, hxc⟩ : ∃ c : Nat, y.toInt = (c : Int) := ⟨y.toInt.toNat, by omega⟩
              replace hGW := hGW.keep (hfr18 _ (by omega))
              replace hGP := hGP.keep (hfr18 _ (by omega))
              have hsy := hO.sym (show a < X.n by omega) (show c < X.n by omega)
              have hac : a ≠ c := by omega
              have han : a < X.n := by omega
              have hcn : c < X.n := by omega
              refine lv_aload_n F.1 F.2.1 d_Mo_edge_55 rfl (lv_at hl 0 rfl) ?_
              refine gf_Mo_17 F hW18 (by omega) mo d_Mo_edge_56 ?_
              refine lv_iload_n F.1 F.2.1 d_Mo_edge_59 rfl (lv_at hl 1 rfl) ?_
              refine lv_iload_n F.1 F.2.1 d_Mo_edge_60 rfl (lv_at hl 2 rfl) ?_
              refine q_calli hW18 (q_cS (As := [.ref (ad 471), .int x, .int y]) (rest := []) F hW18 cs_Mo_74 hs_Mo_portOf (k_Mo_portOf l D τ A ad N w18 471 (by omega) X.n hm40 GP hGP X.bh hGPf x y a hxa (by omega)) rfl rfl ⟨by decide, by decide⟩ rfl hl.1 rfl (Nat.le_of_ble_eq_true rfl) d_Mo_edge_61 ⟨Nat.le_refl _, Nat.le_refl _⟩) (fun v20 w20 H20 locs20 hp20 hW20 => ?_)
              obtain ⟨hq20, hp20⟩ := hp20
              replace hq20 := hq20.symm
              subst hq20
              rw [hxc] at hp20
              refine lv_istore (lv' := [(4, .int v20), (0, .ref (ad 469)), (1, .int x), (2, .int y), (3, .int z)]) F.1 F.2.1 d_Mo_edge_64 hl (by decide) rfl (fun ls21 hl21 => ?_)
              clear hl
              refine lv_aload_n F.1 F.2.1 d_Mo_edge_66 rfl (lv_at hl21 1 rfl) ?_
              refine gf_Mo_17 F hW20 (by omega) mo d_Mo_edge_67 ?_
              refine lv_iload_n F.1 F.2.1 d_Mo_edge_70 rfl (lv_at hl21 2 rfl) ?_
              refine q_iconst F d_Mo_edge_71 (by decide) (fun v22 hv22 => ?_)
              refine q_calli hW20 (q_cS (As := [.ref (ad 471), .int x, .int v22]) (rest := []) F hW20 cs_Mo_74 hs_Mo_portOf (k_Mo_portOf l D τ A ad N w18 471 (by omega) X.n hm40 GP hGP X.bh hGPf x v22 a hxa (by omega)) rfl rfl ⟨by decide, by decide⟩ rfl hl21.1 rfl (Nat.le_of_ble_eq_true rfl) d_Mo_edge_72 ⟨Nat.le_refl _, Nat.le_refl _⟩) (fun v23 w23 H23 locs23 hp23 hW23 => ?_)
              obtain ⟨hq23, hp23⟩ := hp23
              replace hq23 := hq23.symm
              subst hq23
              rw [hv22] at hp23
              refine lv_istore (lv' := [(5, .int v23), (4, .int v20), (0, .ref (ad 469)), (1, .int x), (2, .int y), (3, .int z)]) F.1 F.2.1 d_Mo_edge_75 hl21 (by decide) rfl (fun ls24 hl24 => ?_)
              clear hl21
              refine lv_aload_n F.1 F.2.1 d_Mo_edge_77 rfl (lv_at hl24 2 rfl) ?_
              refine gf_Mo_17 F hW23 (by omega) mo d_Mo_edge_78 ?_
              refine lv_iload_n F.1 F.2.1 d_Mo_edge_81 rfl (lv_at hl24 4 rfl) ?_
              refine q_iconst F d_Mo_edge_82 (by decide) (fun v25 hv25 => ?_)
              refine q_calli hW23 (q_cS (As := [.ref (ad 471), .int y, .int v25]) (rest := []) F hW23 cs_Mo_74 hs_Mo_portOf (k_Mo_portOf l D τ A ad N w18 471 (by omega) X.n hm40 GP hGP X.bh hGPf y v25 c hxc (by omega)) rfl rfl ⟨by decide, by decide⟩ rfl hl24.1 rfl (Nat.le_of_ble_eq_true rfl) d_Mo_edge_83 ⟨Nat.le_refl _, Nat.le_refl _⟩) (fun v26 w26 H26 locs26 hp26 hW26 => ?_)
              obtain ⟨hq26, hp26⟩ := hp26
              replace hq26 := hq26.symm
              subst hq26
              rw [hv25] at hp26
              have r1 := zp_range X.bh a (c : Int)
              have r2 := zp_range X.bh a (-1)
              have r3 := zp_range X.bh c (-1)
              refine lv_istore (lv' := [(6, .int v26), (5, .int v23), (4, .int v20), (0, .ref (ad 469)), (1, .int x), (2, .int y), (3, .int z)]) F.1 F.2.1 d_Mo_edge_86 hl24 (by decide) rfl (fun ls27 hl27 => ?_)
              clear hl24
              refine lv_iload F.1 F.2.1 d_Mo_edge_88 (lv_at hl27 2 rfl) ?_
              refine q_if_ge (tgt := 110) F d_Mo_edge_90 (by decide) (fun c90 => ?_) (fun c90 => ?_)
              · obtain ⟨qa, hqa, ea, -⟩ := zp_at (bh := X.bh) (a := a) (b := (c : Int)) (by omega)
                obtain ⟨qc, hqc, ec, -⟩ := zp_at (hsy.mp (by omega))
                refine lv_aload_n F.1 F.2.1 d_Mo_edge_110 rfl (lv_at hl27 3 rfl) ?_
                refine gf_Mo_13 F hW26 (by omega) mo d_Mo_edge_111 ?_
                refine q_bipush F d_Mo_edge_114 (by decide) (fun v28 hv28 => ?_)
                refine lv_iload_n F.1 F.2.1 d_Mo_edge_116 rfl (lv_at hl27 4 rfl) ?_
                refine q_imul F d_Mo_edge_117 (by rw [hv28]; omega) (fun v29 hv29 => ?_)
                rw [hv28] at hv29
                refine lv_iload_n F.1 F.2.1 d_Mo_edge_118 rfl (lv_at hl27 5 rfl) ?_
                refine q_iadd F d_Mo_edge_119 (by omega) (fun v30 hv30 => ?_)
                refine lv_iload_n F.1 F.2.1 d_Mo_edge_120 rfl (lv_at hl27 6 rfl) ?_
                refine q_iast F hW26 hGW (by omega) ((40 * a) + c) (by omega) (by omega) d_Mo_edge_121 (fun H31 locs31 w31 hW31 hI31 hfr31 => ?_)
                replace mo := (hfr31 _ (by omega)).trans mo
                replace hGW := hI31
                replace hGP := hGP.keep (hfr31 _ (by omega))
                refine lv_aload_n F.1 F.2.1 d_Mo_edge_122 rfl (lv_at hl27 3 rfl) ?_
                refine gf_Mo_13 F hW31 (by omega) mo d_Mo_edge_123 ?_
                refine q_bipush F d_Mo_edge_126 (by decide) (fun v32 hv32 => ?_)
                refine lv_iload_n F.1 F.2.1 d_Mo_edge_128 rfl (lv_at hl27 5 rfl) ?_
                refine q_imul F d_Mo_edge_129 (by rw [hv32]; omega) (fun v33 hv33 => ?_)
                rw [hv32] at hv33
                refine lv_iload_n F.1 F.2.1 d_Mo_edge_130 rfl (lv_at hl27 4 rfl) ?_
                refine q_iadd F d_Mo_edge_131 (by omega) (fun v34 hv34 => ?_)
                refine lv_iload_n F.1 F.2.1 d_Mo_edge_132 rfl (lv_at hl27 6 rfl) ?_
                refine q_iast F hW31 hGW (by omega) ((40 * c) + a) (by omega) (by omega) d_Mo_edge_133 (fun H35 locs35 w35 hW35 hI35 hfr35 => ?_)
                replace mo := (hfr35 _ (by omega)).trans mo
                replace hGW := hI35
                replace hGP := hGP.keep (hfr35 _ (by omega))
                refine lv_iload F.1 F.2.1 d_Mo_edge_134 (lv_at hl27 2 rfl) ?_
                refine q_if_lt (tgt := 142) F d_Mo_edge_136 (by decide) (fun c136 => ?_) (fun c136 => ?_)
                · exact absurd c136 (by omega)
                · refine lv_iload F.1 F.2.1 d_Mo_edge_139 (lv_at hl27 2 rfl) ?_
                  have hfz : ∀ q, (q ≠ 469 ∧ q ≠ 470) → w35 q = w q := fun q hq => by rw [hfr35 q hq.2, hfr31 q hq.2, hfr18 q hq.1]
                  exact q_iret F hr hlk hW35 ⟨0, zs_set X a c qa qc z.toInt, by rw [hxa, hxc, hp20, ea]; exact zR_edge_set han hcn hac (by omega) (by omega) ea ec, ⟨⟨_, n32, b32, s32, p32, mo, hv17, hn, hbb, hs, hpp⟩, ⟨_, hGW, zfl_up (m := X.n) hm40 han (zfl_up (m := X.n) hm40 hcn hGWf)⟩, ⟨_, hGP, hGPf⟩, hMs.keep (fun q _ _ => hfz q (by omega)), fun b => (hMb b).keep (fun q _ _ _ => hfz q (by omega)), hPl.keep (hfz _ (by omega)), hGo.keep (hfz _ (by omega)), hPd.keep (hfz _ (by omega))⟩, fun q hq => hfz q (by omega)⟩ d_Mo_edge_141
              · refine lv_iload F.1 F.2.1 d_Mo_edge_93 (lv_at hl27 1 rfl) ?_
                refine q_if_lt (tgt := 103) F d_Mo_edge_95 (by decide) (fun c95 => ?_) (fun c95 => ?_)
                · refine lv_aload_n F.1 F.2.1 d_Mo_edge_103 rfl (lv_at hl27 3 rfl) ?_
                  refine q_iconst F d_Mo_edge_104 (by decide) (fun v36 hv36 => ?_)
                  refine pf_Mo_57 F hW26 (by omega) mo d_Mo_edge_105 (fun H37 locs37 w37 hW37 hI37 hfr37 => ?_)
                  replace mo := hI37
                  replace hGW := hGW.keep (hfr37 _ (by omega))
                  replace hGP := hGP.keep (hfr37 _ (by omega))
                  refine q_iconst F d_Mo_edge_108 (by decide) (fun v38 hv38 => ?_)
                  exact q_iret F hr hlk hW37 ⟨3, X, by rw [hxa, hxc]; exact zR_edge_full han hcn hac (by omega) (by omega) (by omega) (by omega), ⟨⟨_, n32, b32, s32, p32, mo, hv36, hn, hbb, hs, hpp⟩, hR.keep (fun q _ _ => (hfr37 q (by omega)).trans (hfr18 q (by omega)))⟩, fun q hq => (hfr37 q (by omega)).trans (hfr18 q (by omega))⟩ d_Mo_edge_109
                · refine lv_iload F.1 F.2.1 d_Mo_edge_98 (lv_at hl27 0 rfl) ?_
                  refine q_if_ge (tgt := 110) F d_Mo_edge_100 (by decide) (fun c100 => ?_) (fun c100 => ?_)
                  · obtain ⟨qa, hqa, ea, -⟩ := zp_at (bh := X.bh) (a := a) (b := (-1 : Int)) (by omega)
                    obtain ⟨qc, hqc, ec, -⟩ := zp_at (bh := X.bh) (a := c) (b := (-1 : Int)) (by omega)
                    refine lv_aload_n F.1 F.2.1 d_Mo_edge_110 rfl (lv_at hl27 3 rfl) ?_
                    refine gf_Mo_13 F hW26 (by omega) mo d_Mo_edge_111 ?_
                    refine q_bipush F d_Mo_edge_114 (by decide) (fun v39 hv39 => ?_)
                    refine lv_iload_n F.1 F.2.1 d_Mo_edge_116 rfl (lv_at hl27 4 rfl) ?_
                    refine q_imul F d_Mo_edge_117 (by rw [hv39]; omega) (fun v40 hv40 => ?_)
                    rw [hv39] at hv40
                    refine lv_iload_n F.1 F.2.1 d_Mo_edge_118 rfl (lv_at hl27 5 rfl) ?_
                    refine q_iadd F d_Mo_edge_119 (by omega) (fun v41 hv41 => ?_)
                    refine lv_iload_n F.1 F.2.1 d_Mo_edge_120 rfl (lv_at hl27 6 rfl) ?_
                    refine q_iast F hW26 hGW (by omega) ((40 * a) + c) (by omega) (by omega) d_Mo_edge_121 (fun H42 locs42 w42 hW42 hI42 hfr42 => ?_)
                    replace mo := (hfr42 _ (by omega)).trans mo
                    replace hGW := hI42
                    replace hGP := hGP.keep (hfr42 _ (by omega))
                    refine lv_aload_n F.1 F.2.1 d_Mo_edge_122 rfl (lv_at hl27 3 rfl) ?_
                    refine gf_Mo_13 F hW42 (by omega) mo d_Mo_edge_123 ?_
                    refine q_bipush F d_Mo_edge_126 (by decide) (fun v43 hv43 => ?_)
                    refine lv_iload_n F.1 F.2.1 d_Mo_edge_128 rfl (lv_at hl27 5 rfl) ?_
                    refine q_imul F d_Mo_edge_129 (by rw [hv43]; omega) (fun v44 hv44 => ?_)
                    rw [hv43] at hv44
                    refine lv_iload_n F.1 F.2.1 d_Mo_edge_130 rfl (lv_at hl27 4 rfl) ?_
                    refine q_iadd F d_Mo_edge_131 (by omega) (fun v45 hv45 => ?_)
                    refine lv_iload_n F.1 F.2.1 d_Mo_edge_132 rfl (lv_at hl27 6 rfl) ?_
                    refine q_iast F hW42 hGW (by omega) ((40 * c) + a) (by omega) (by omega) d_Mo_edge_133 (fun H46 locs46 w46 hW46 hI46 hfr46 => ?_)
                    replace mo := (hfr46 _ (by omega)).trans mo
                    replace hGW := hI46
                    replace hGP := hGP.keep (hfr46 _ (by omega))
                    refine lv_iload F.1 F.2.1 d_Mo_edge_134 (lv_at hl27 2 rfl) ?_
                    refine q_if_lt (tgt := 142) F d_Mo_edge_136 (by decide) (fun c136 => ?_) (fun c136 => ?_)
                    · refine lv_aload_n F.1 F.2.1 d_Mo_edge_142 rfl (lv_at hl27 3 rfl) ?_
                      refine gf_Mo_17 F hW46 (by omega) mo d_Mo_edge_143 ?_
                      refine q_bipush F d_Mo_edge_146 (by decide) (fun v47 hv47 => ?_)
                      refine lv_iload_n F.1 F.2.1 d_Mo_edge_148 rfl (lv_at hl27 4 rfl) ?_
                      refine q_imul F d_Mo_edge_149 (by rw [hv47]; omega) (fun v48 hv48 => ?_)
                      rw [hv47] at hv48
                      refine lv_iload F.1 F.2.1 d_Mo_edge_150 (lv_at hl27 1 rfl) ?_
                      refine q_iadd F d_Mo_edge_152 (by omega) (fun v49 hv49 => ?_)
                      refine lv_iload_n F.1 F.2.1 d_Mo_edge_153 rfl (lv_at hl27 5 rfl) ?_
                      refine q_iast F hW46 hGP (by omega) ((16 * a) + qa) (by omega) (by omega) d_Mo_edge_154 (fun H50 locs50 w50 hW50 hI50 hfr50 => ?_)
                      replace mo := (hfr50 _ (by omega)).trans mo
                      replace hGW := hGW.keep (hfr50 _ (by omega))
                      replace hGP := hI50
                      refine lv_aload_n F.1 F.2.1 d_Mo_edge_155 rfl (lv_at hl27 3 rfl) ?_
                      refine gf_Mo_17 F hW50 (by omega) mo d_Mo_edge_156 ?_
                      refine q_bipush F d_Mo_edge_159 (by decide) (fun v51 hv51 => ?_)
                      refine lv_iload_n F.1 F.2.1 d_Mo_edge_161 rfl (lv_at hl27 5 rfl) ?_
                      refine q_imul F d_Mo_edge_162 (by rw [hv51]; omega) (fun v52 hv52 => ?_)
                      rw [hv51] at hv52
                      refine lv_iload F.1 F.2.1 d_Mo_edge_163 (lv_at hl27 0 rfl) ?_
                      refine q_iadd F d_Mo_edge_165 (by omega) (fun v53 hv53 => ?_)
                      refine lv_iload_n F.1 F.2.1 d_Mo_edge_166 rfl (lv_at hl27 4 rfl) ?_
                      refine q_iast F hW50 hGP (by omega) ((16 * c) + qc) (by omega) (by omega) d_Mo_edge_167 (fun H54 locs54 w54 hW54 hI54 hfr54 => ?_)
                      replace mo := (hfr54 _ (by omega)).trans mo
                      replace hGW := hGW.keep (hfr54 _ (by omega))
                      replace hGP := hI54
                      refine lv_iload F.1 F.2.1 d_Mo_edge_168 (lv_at hl27 1 rfl) ?_
                      have hfz : ∀ q, (q ≠ 469 ∧ q ≠ 470 ∧ q ≠ 471) → w54 q = w q := fun q hq => by rw [hfr54 q hq.2.2, hfr50 q hq.2.2, hfr46 q hq.2.1, hfr42 q hq.2.1, hfr18 q hq.1]
                      rw [hxa, hxc] at hGP
                      exact q_iret F hr hlk hW54 ⟨0, zs_join X a c qa qc z.toInt, by rw [hxa, hxc, hp23, ea]; exact zR_edge_join han hcn hac (by omega) (by omega) (by omega) ea ec, ⟨⟨_, n32, b32, s32, p32, mo, hv17, hn, hbb, hs, hpp⟩, ⟨_, hGW, zfl_up (m := X.n) hm40 han (zfl_up (m := X.n) hm40 hcn hGWf)⟩, ⟨_, hGP, zfp_up hqc (zfp_up hqa hGPf)⟩, hMs.keep (fun q _ _ => hfz q (by omega)), fun b => (hMb b).keep (fun q _ _ _ => hfz q (by omega)), hPl.keep (hfz _ (by omega)), hGo.keep (hfz _ (by omega)), hPd.keep (hfz _ (by omega))⟩, fun q hq => hfz q (by omega)⟩ d_Mo_edge_170
                    · exact absurd c136 (by omega)
                  · refine lv_aload_n F.1 F.2.1 d_Mo_edge_103 rfl (lv_at hl27 3 rfl) ?_
                    refine q_iconst F d_Mo_edge_104 (by decide) (fun v55 hv55 => ?_)
                    refine pf_Mo_57 F hW26 (by omega) mo d_Mo_edge_105 (fun H56 locs56 w56 hW56 hI56 hfr56 => ?_)
                    replace mo := hI56
                    replace hGW := hGW.keep (hfr56 _ (by omega))
                    replace hGP := hGP.keep (hfr56 _ (by omega))
                    refine q_iconst F d_Mo_edge_108 (by decide) (fun v57 hv57 => ?_)
                    exact q_iret F hr hlk hW56 ⟨3, X, by rw [hxa, hxc]; exact zR_edge_full han hcn hac (by omega) (by omega) (by omega) (by omega), ⟨⟨_, n32, b32, s32, p32, mo, hv55, hn, hbb, hs, hpp⟩, hR.keep (fun q _ _ => (hfr56 q (by omega)).trans (hfr18 q (by omega)))⟩, fun q hq => (hfr56 q (by omega)).trans (hfr18 q (by omega))⟩ d_Mo_edge_109
            · exact absurd c19 (by omega)
          · refine q_iconst F d_Mo_edge_38 (by decide) (fun v58 hv58 => ?_)
            refine lv_goto (tgt := 43) F.1 F.2.1 d_Mo_edge_39 (by decide) ?_
            refine pf_Mo_57 F hW6 (by omega) mo d_Mo_edge_43 (fun H59 locs59 w59 hW59 hI59 hfr59 => ?_)
            replace mo := hI59
            refine lv_aload_n F.1 F.2.1 d_Mo_edge_46 rfl (lv_at hl 0 rfl) ?_
            refine gf_Mo_57 F hW59 (by omega) mo d_Mo_edge_47 ?_
            refine q_if_eq (tgt := 55) F d_Mo_edge_50 (by decide) (fun c60 => ?_) (fun c60 => ?_)
            · exact absurd c60 (by omega)
            · refine q_iconst F d_Mo_edge_53 (by decide) (fun v61 hv61 => ?_)
              exact q_iret F hr hlk hW59 ⟨2, X, Or.inr ⟨⟨hx1, hy1⟩, Or.inl ⟨rfl, rfl, by omega⟩⟩, ⟨⟨_, n32, b32, s32, p32, mo, hv58, hn, hbb, hs, hpp⟩, hR.keep (fun q _ _ => hfr59 q (by omega))⟩, fun q hq => hfr59 q (by omega)⟩ d_Mo_edge_54
    · refine q_iconst F d_Mo_edge_17 (by decide) (fun v62 hv62 => ?_)
      refine lv_goto (tgt := 43) F.1 F.2.1 d_Mo_edge_18 (by decide) ?_
      refine pf_Mo_57 F hW6 (by omega) mo d_Mo_edge_43 (fun H63 locs63 w63 hW63 hI63 hfr63 => ?_)
      replace mo := hI63
      refine lv_aload_n F.1 F.2.1 d_Mo_edge_46 rfl (lv_at hl 0 rfl) ?_
      refine gf_Mo_57 F hW63 (by omega) mo d_Mo_edge_47 ?_
      refine q_if_eq (tgt := 55) F d_Mo_edge_50 (by decide) (fun c64 => ?_) (fun c64 => ?_)
      · exact absurd c64 (by omega)
      · refine q_iconst F d_Mo_edge_53 (by decide) (fun v65 hv65 => ?_)
        exact q_iret F hr hlk hW63 ⟨1, X, Or.inl ⟨rfl, rfl, fun q => qb_f hp6 (by omega) q.2⟩, ⟨⟨_, n32, b32, s32, p32, mo, hv62, hn, hbb, hs, hpp⟩, hR.keep (fun q _ _ => hfr63 q (by omega))⟩, fun q hq => hfr63 q (by omega)⟩ d_Mo_edge_54
set_option maxHeartbeats 4000000 in
set_option maxRecDepth 100000 in
/-- cut -/
theorem k_Mo_cut (l : Launch) (D : va_G) (τ : Nat → ClassId) (A : Nat → Prop) (ad : Nat → Nat) (N : Nat) (w : Nat → va_E) (hb : 484 ≤ N) (X : zSt) (Bd : Nat) (t0 : Int) (hX : qMo τ ad w X t0) (hO : zOK X Bd) (hB9 : Bd ≤ 1000) (x y : Int32) : Met l y_Mo_cut (qws y_Mo_cut c_Mo_cut 4 (some .int)) ({ frames := 8, cells := 0, slots := 0, locals := 180 }) (qPc D τ A ad N w [.ref (ad 469), .int x, .int y]) (va_Qi (fun r1 w1 => ∃ k X9, zR_cut X x.toInt y.toInt k r1.toInt X9 ∧ qMo τ ad w1 X9 k ∧ (∀ q, (q < 469 ∨ 484 ≤ q) → w1 q = w q)) (qB D τ A ad N) A) 0 0 A := by
  refine q_of (by decide) (Nat.le_of_ble_eq_true rfl) rfl ?_
  intro PP EE s MM below meth CC ls F hr hlk hnm hex hl hW
  have hl : lv_has ls 4 [(0, .ref (ad 469)), (1, .int x), (2, .int y)] := hl
  obtain ⟨⟨th, n32, b32, s32, p32, mo, ht, hn, hbb, hs, hpp⟩, hR⟩ := id hX
  obtain ⟨⟨GW, hGW, hGWf⟩, ⟨GP, hGP, hGPf⟩, hMs, hMb, hPl, hGo, hPd⟩ := id hR
  obtain ⟨hm1, hm40, hZ, hBt, hpk16, hpkb, hpk9, hsn⟩ := id hO
  refine lv_aload_n F.1 F.2.1 d_Mo_cut_0 rfl (lv_at hl 0 rfl) ?_
  refine lv_aload_n F.1 F.2.1 d_Mo_cut_1 rfl (lv_at hl 0 rfl) ?_
  refine lv_iload_n F.1 F.2.1 d_Mo_cut_2 rfl (lv_at hl 1 rfl) ?_
  refine q_calli hW (q_cV (As := [.int x]) (rest := [.ref (ad 469)]) F hW cs_Mo_70 hd_Mo_isNode rfl (by omega) mo (k_Mo_isNode l D τ A ad N w hb th n32 b32 s32 p32 mo X.n hn hm40 x) rfl rfl ⟨by decide, by decide⟩ rfl hl.1 rfl (Nat.le_of_ble_eq_true rfl) d_Mo_cut_3 ⟨Nat.le_refl _, Nat.le_refl _⟩) (fun v1 w1 H1 locs1 hp1 hW1 => ?_)
  obtain ⟨hq1, hp1⟩ := hp1
  replace hq1 := hq1.symm
  subst hq1
  refine q_if_eq (tgt := 17) F d_Mo_cut_6 (by decide) (fun c6 => ?_) (fun c6 => ?_)
  · refine q_iconst F d_Mo_cut_17 (by decide) (fun v2 hv2 => ?_)
    refine lv_goto (tgt := 40) F.1 F.2.1 d_Mo_cut_18 (by decide) ?_
    refine pf_Mo_57 F hW1 (by omega) mo d_Mo_cut_40 (fun H3 locs3 w3 hW3 hI3 hfr3 => ?_)
    replace mo := hI3
    refine lv_aload_n F.1 F.2.1 d_Mo_cut_43 rfl (lv_at hl 0 rfl) ?_
    refine gf_Mo_57 F hW3 (by omega) mo d_Mo_cut_44 ?_
    refine q_if_eq (tgt := 52) F d_Mo_cut_47 (by decide) (fun c4 => ?_) (fun c4 => ?_)
    · exact absurd c4 (by omega)
    · refine q_iconst F d_Mo_cut_50 (by decide) (fun v5 hv5 => ?_)
      exact q_iret F hr hlk hW3 ⟨1, X, Or.inl ⟨rfl, rfl, fun q => qb_f hp1 (by omega) q.1⟩, ⟨⟨_, n32, b32, s32, p32, mo, hv2, hn, hbb, hs, hpp⟩, hR.keep (fun q _ _ => hfr3 q (by omega))⟩, fun q hq => hfr3 q (by omega)⟩ d_Mo_cut_51
  · have hx1 := qb_t hp1 (by omega)
    refine lv_aload_n F.1 F.2.1 d_Mo_cut_9 rfl (lv_at hl 0 rfl) ?_
    refine lv_iload_n F.1 F.2.1 d_Mo_cut_10 rfl (lv_at hl 2 rfl) ?_
    refine q_calli hW1 (q_cV (As := [.int y]) (rest := [.ref (ad 469)]) F hW1 cs_Mo_70 hd_Mo_isNode rfl (by omega) mo (k_Mo_isNode l D τ A ad N w hb th n32 b32 s32 p32 mo X.n hn hm40 y) rfl rfl ⟨by decide, by decide⟩ rfl hl.1 rfl (Nat.le_of_ble_eq_true rfl) d_Mo_cut_11 ⟨Nat.le_refl _, Nat.le_refl _⟩) (fun v6 w6 H6 locs6 hp6 hW6 => ?_)
    obtain ⟨hq6, hp6⟩ := hp6
    replace hq6 := hq6.symm
    subst hq6
    refine q_if_ne (tgt := 21) F d_Mo_cut_14 (by decide) (fun c14 => ?_) (fun c14 => ?_)
    · have hy1 := qb_t hp6 (by omega)
      obtain ⟨a, hxa⟩ : ∃ a : Nat, x.toInt = (a : Int) := ⟨x.toInt.toNat, by omega⟩
      obtain ⟨c, hxc⟩ : ∃ c : Nat, y.toInt = (c : Int) := ⟨y.toInt.toNat, by omega⟩
      have hed := zp_edge hZ (show a < X.n by omega) (show c < X.n by omega)
      have hwb := hZ.1.1 a c (by omega) (by omega)
      refine lv_aload_n F.1 F.2.1 d_Mo_cut_21 rfl (lv_at hl 0 rfl) ?_
      refine gf_Mo_13 F hW6 (by omega) mo d_Mo_cut_22 ?_
      refine q_bipush F d_Mo_cut_25 (by decide) (fun v7 hv7 => ?_)
      refine lv_iload_n F.1 F.2.1 d_Mo_cut_27 rfl (lv_at hl 1 rfl) ?_
      refine q_imul F d_Mo_cut_28 (by rw [hv7]; omega) (fun v8 hv8 => ?_)
      rw [hv7] at hv8
      refine lv_iload_n F.1 F.2.1 d_Mo_cut_29 rfl (lv_at hl 2 rfl) ?_
      refine q_iadd F d_Mo_cut_30 (by omega) (fun v9 hv9 => ?_)
      refine q_iald F hW6 hGW (by omega) ((40 * a) + c) (by omega) (by omega) d_Mo_cut_31 (fun v10 hv10 => ?_)
      rw [hGWf a c (by omega) (by omega)] at hv10
      refine q_if_ne (tgt := 39) F d_Mo_cut_32 (by decide) (fun c32 => ?_) (fun c32 => ?_)
      · refine q_iconst F d_Mo_cut_39 (by decide) (fun v11 hv11 => ?_)
        refine pf_Mo_57 F hW6 (by omega) mo d_Mo_cut_40 (fun H12 locs12 w12 hW12 hI12 hfr12 => ?_)
        replace mo := hI12
        refine lv_aload_n F.1 F.2.1 d_Mo_cut_43 rfl (lv_at hl 0 rfl) ?_
        refine gf_Mo_57 F hW12 (by omega) mo d_Mo_cut_44 ?_
        refine q_if_eq (tgt := 52) F d_Mo_cut_47 (by decide) (fun c13 => ?_) (fun c13 => ?_)
        · replace hGW := hGW.keep (hfr12 _ (by omega))
          replace hGP := hGP.keep (hfr12 _ (by omega))
          have hsy := hO.sym (show a < X.n by omega) (show c < X.n by omega)
          have hz9 : zp X.bh a (c : Int) ≠ -1 := hed.mpr (by omega)
          have hac : a ≠ c := fun z => by have h9 : X.Wt a c = 0 := (z ▸ hZ.1.2 a (by omega) : X.Wt a c = 0); omega
          have han : a < X.n := by omega
          have hcn : c < X.n := by omega
          obtain ⟨qa, hqa, ea, -⟩ := zp_at hz9
          obtain ⟨qc, hqc, ec, -⟩ := zp_at (hsy.mp hz9)
          refine lv_aload_n F.1 F.2.1 d_Mo_cut_52 rfl (lv_at hl 0 rfl) ?_
          refine gf_Mo_13 F hW12 (by omega) mo d_Mo_cut_53 ?_
          refine q_bipush F d_Mo_cut_56 (by decide) (fun v14 hv14 => ?_)
          refine lv_iload_n F.1 F.2.1 d_Mo_cut_58 rfl (lv_at hl 1 rfl) ?_
          refine q_imul F d_Mo_cut_59 (by rw [hv14]; omega) (fun v15 hv15 => ?_)
          rw [hv14] at hv15
          refine lv_iload_n F.1 F.2.1 d_Mo_cut_60 rfl (lv_at hl 2 rfl) ?_
          refine q_iadd F d_Mo_cut_61 (by omega) (fun v16 hv16 => ?_)
          refine q_iald F hW12 hGW (by omega) ((40 * a) + c) (by omega) (by omega) d_Mo_cut_62 (fun v17 hv17 => ?_)
          rw [hGWf a c (by omega) (by omega)] at hv17
          refine lv_istore_n (lv' := [(3, .int v17), (0, .ref (ad 469)), (1, .int x), (2, .int y)]) F.1 F.2.1 d_Mo_cut_63 rfl hl (by decide) rfl (fun ls18 hl18 => ?_)
          clear hl
          refine lv_aload_n F.1 F.2.1 d_Mo_cut_64 rfl (lv_at hl18 1 rfl) ?_
          refine gf_Mo_13 F hW12 (by omega) mo d_Mo_cut_65 ?_
          refine q_bipush F d_Mo_cut_68 (by decide) (fun v19 hv19 => ?_)
          refine lv_iload_n F.1 F.2.1 d_Mo_cut_70 rfl (lv_at hl18 2 rfl) ?_
          refine q_imul F d_Mo_cut_71 (by rw [hv19]; omega) (fun v20 hv20 => ?_)
          rw [hv19] at hv20
          refine lv_iload_n F.1 F.2.1 d_Mo_cut_72 rfl (lv_at hl18 3 rfl) ?_
          refine q_iadd F d_Mo_cut_73 (by omega) (fun v21 hv21 => ?_)
          refine q_iconst F d_Mo_cut_74 (by decide) (fun v22 hv22 => ?_)
          refine q_iast F hW12 hGW (by omega) ((40 * a) + c) (by omega) (by omega) d_Mo_cut_75 (fun H23 locs23 w23 hW23 hI23 hfr23 => ?_)
          replace mo := (hfr23 _ (by omega)).trans mo
          replace hGW := hI23
          replace hGP := hGP.keep (hfr23 _ (by omega))
          rw [hv22] at hGW
          refine lv_aload_n F.1 F.2.1 d_Mo_cut_76 rfl (lv_at hl18 1 rfl) ?_
          refine gf_Mo_13 F hW23 (by omega) mo d_Mo_cut_77 ?_
          refine q_bipush F d_Mo_cut_80 (by decide) (fun v24 hv24 => ?_)
          refine lv_iload_n F.1 F.2.1 d_Mo_cut_82 rfl (lv_at hl18 3 rfl) ?_
          refine q_imul F d_Mo_cut_83 (by rw [hv24]; omega) (fun v25 hv25 => ?_)
          rw [hv24] at hv25
          refine lv_iload_n F.1 F.2.1 d_Mo_cut_84 rfl (lv_at hl18 2 rfl) ?_
          refine q_iadd F d_Mo_cut_85 (by omega) (fun v26 hv26 => ?_)
          refine q_iconst F d_Mo_cut_86 (by decide) (fun v27 hv27 => ?_)
          refine q_iast F hW23 hGW (by omega) ((40 * c) + a) (by omega) (by omega) d_Mo_cut_87 (fun H28 locs28 w28 hW28 hI28 hfr28 => ?_)
          replace mo := (hfr28 _ (by omega)).trans mo
          replace hGW := hI28
          replace hGP := hGP.keep (hfr28 _ (by omega))
          rw [hv27] at hGW
          refine lv_aload_n F.1 F.2.1 d_Mo_cut_88 rfl (lv_at hl18 1 rfl) ?_
          refine gf_Mo_17 F hW28 (by omega) mo d_Mo_cut_89 ?_
          refine q_bipush F d_Mo_cut_92 (by decide) (fun v29 hv29 => ?_)
          refine lv_iload_n F.1 F.2.1 d_Mo_cut_94 rfl (lv_at hl18 2 rfl) ?_
          refine q_imul F d_Mo_cut_95 (by rw [hv29]; omega) (fun v30 hv30 => ?_)
          rw [hv29] at hv30
          refine lv_aload_n F.1 F.2.1 d_Mo_cut_96 rfl (lv_at hl18 1 rfl) ?_
          refine gf_Mo_17 F hW28 (by omega) mo d_Mo_cut_97 ?_
          refine lv_iload_n F.1 F.2.1 d_Mo_cut_100 rfl (lv_at hl18 2 rfl) ?_
          refine lv_iload_n F.1 F.2.1 d_Mo_cut_101 rfl (lv_at hl18 3 rfl) ?_
          refine q_calli hW28 (q_cS (As := [.ref (ad 471), .int x, .int y]) (rest := [.int v30, .ref (ad 471)]) F hW28 cs_Mo_74 hs_Mo_portOf (k_Mo_portOf l D τ A ad N w28 471 (by omega) X.n hm40 GP hGP X.bh hGPf x y a hxa (by omega)) rfl rfl ⟨by decide, by decide⟩ rfl hl18.1 rfl (Nat.le_of_ble_eq_true rfl) d_Mo_cut_102 ⟨Nat.le_refl _, Nat.le_refl _⟩) (fun v31 w31 H31 locs31 hp31 hW31 => ?_)
          obtain ⟨hq31, hp31⟩ := hp31
          replace hq31 := hq31.symm
          subst hq31
          rw [hxc, ea] at hp31
          refine q_iadd F d_Mo_cut_105 (by omega) (fun v32 hv32 => ?_)
          refine q_iconst F d_Mo_cut_106 (by decide) (fun v33 hv33 => ?_)
          refine q_iast F hW31 hGP (by omega) ((16 * a) + qa) (by omega) (by omega) d_Mo_cut_107 (fun H34 locs34 w34 hW34 hI34 hfr34 => ?_)
          replace mo := (hfr34 _ (by omega)).trans mo
          replace hGW := hGW.keep (hfr34 _ (by omega))
          replace hGP := hI34
          rw [hv33] at hGP
          refine lv_aload_n F.1 F.2.1 d_Mo_cut_108 rfl (lv_at hl18 1 rfl) ?_
          refine gf_Mo_17 F hW34 (by omega) mo d_Mo_cut_109 ?_
          refine q_bipush F d_Mo_cut_112 (by decide) (fun v35 hv35 => ?_)
          refine lv_iload_n F.1 F.2.1 d_Mo_cut_114 rfl (lv_at hl18 3 rfl) ?_
          refine q_imul F d_Mo_cut_115 (by rw [hv35]; omega) (fun v36 hv36 => ?_)
          rw [hv35] at hv36
          refine lv_aload_n F.1 F.2.1 d_Mo_cut_116 rfl (lv_at hl18 1 rfl) ?_
          refine gf_Mo_17 F hW34 (by omega) mo d_Mo_cut_117 ?_
          refine lv_iload_n F.1 F.2.1 d_Mo_cut_120 rfl (lv_at hl18 3 rfl) ?_
          refine lv_iload_n F.1 F.2.1 d_Mo_cut_121 rfl (lv_at hl18 2 rfl) ?_
          refine q_calli hW34 (q_cS (As := [.ref (ad 471), .int y, .int x]) (rest := [.int v36, .ref (ad 471)]) F hW34 cs_Mo_74 hs_Mo_portOf (k_Mo_portOf l D τ A ad N w34 471 (by omega) X.n hm40 _ hGP (q_up2 X.bh a qa (-1)) (zfp_up hqa hGPf) y x c hxc (by omega)) rfl rfl ⟨by decide, by decide⟩ rfl hl18.1 rfl (Nat.le_of_ble_eq_true rfl) d_Mo_cut_122 ⟨Nat.le_refl _, Nat.le_refl _⟩) (fun v37 w37 H37 locs37 hp37 hW37 => ?_)
          obtain ⟨hq37, hp37⟩ := hp37
          replace hq37 := hq37.symm
          subst hq37
          rw [hxa, zp_ne hac.symm, ec] at hp37
          refine q_iadd F d_Mo_cut_125 (by omega) (fun v38 hv38 => ?_)
          refine q_iconst F d_Mo_cut_126 (by decide) (fun v39 hv39 => ?_)
          refine q_iast F hW37 hGP (by omega) ((16 * c) + qc) (by omega) (by omega) d_Mo_cut_127 (fun H40 locs40 w40 hW40 hI40 hfr40 => ?_)
          replace mo := (hfr40 _ (by omega)).trans mo
          replace hGW := hGW.keep (hfr40 _ (by omega))
          replace hGP := hI40
          rw [hv39] at hGP
          refine lv_iload_n F.1 F.2.1 d_Mo_cut_128 rfl (lv_at hl18 0 rfl) ?_
          have hfz : ∀ q, (q ≠ 469 ∧ q ≠ 470 ∧ q ≠ 471) → w40 q = w q := fun q hq => by rw [hfr40 q hq.2.2, hfr34 q hq.2.2, hfr28 q hq.2.1, hfr23 q hq.2.1, hfr12 q hq.1]
          exact q_iret F hr hlk hW40 ⟨0, zs_cut X a c qa qc, by rw [hxa, hxc, hv17]; exact zR_cut_yes han hcn ea ec, ⟨⟨_, n32, b32, s32, p32, mo, hv11, hn, hbb, hs, hpp⟩, ⟨_, hGW, zfl_up (m := X.n) hm40 han (zfl_up (m := X.n) hm40 hcn hGWf)⟩, ⟨_, hGP, zfp_up hqc (zfp_up hqa hGPf)⟩, hMs.keep (fun q _ _ => hfz q (by omega)), fun b => (hMb b).keep (fun q _ _ _ => hfz q (by omega)), hPl.keep (hfz _ (by omega)), hGo.keep (hfz _ (by omega)), hPd.keep (hfz _ (by omega))⟩, fun q hq => hfz q (by omega)⟩ d_Mo_cut_129
        · exact absurd c13 (by omega)
      · refine q_iconst F d_Mo_cut_35 (by decide) (fun v41 hv41 => ?_)
        refine lv_goto (tgt := 40) F.1 F.2.1 d_Mo_cut_36 (by decide) ?_
        refine pf_Mo_57 F hW6 (by omega) mo d_Mo_cut_40 (fun H42 locs42 w42 hW42 hI42 hfr42 => ?_)
        replace mo := hI42
        refine lv_aload_n F.1 F.2.1 d_Mo_cut_43 rfl (lv_at hl 0 rfl) ?_
        refine gf_Mo_57 F hW42 (by omega) mo d_Mo_cut_44 ?_
        refine q_if_eq (tgt := 52) F d_Mo_cut_47 (by decide) (fun c43 => ?_) (fun c43 => ?_)
        · exact absurd c43 (by omega)
        · refine q_iconst F d_Mo_cut_50 (by decide) (fun v44 hv44 => ?_)
          exact q_iret F hr hlk hW42 ⟨2, X, by rw [hxa, hxc]; exact Or.inr ⟨⟨⟨by omega, by omega⟩, by omega, by omega⟩, Or.inl ⟨rfl, rfl, by simp only [Int.toNat_natCast]; by_cases z : zp X.bh a (c : Int) = -1; exact z; exact absurd (hed.mp z) (by omega)⟩⟩, ⟨⟨_, n32, b32, s32, p32, mo, hv41, hn, hbb, hs, hpp⟩, hR.keep (fun q _ _ => hfr42 q (by omega))⟩, fun q hq => hfr42 q (by omega)⟩ d_Mo_cut_51
    · refine q_iconst F d_Mo_cut_17 (by decide) (fun v45 hv45 => ?_)
      refine lv_goto (tgt := 40) F.1 F.2.1 d_Mo_cut_18 (by decide) ?_
      refine pf_Mo_57 F hW6 (by omega) mo d_Mo_cut_40 (fun H46 locs46 w46 hW46 hI46 hfr46 => ?_)
      replace mo := hI46
      refine lv_aload_n F.1 F.2.1 d_Mo_cut_43 rfl (lv_at hl 0 rfl) ?_
      refine gf_Mo_57 F hW46 (by omega) mo d_Mo_cut_44 ?_
      refine q_if_eq (tgt := 52) F d_Mo_cut_47 (by decide) (fun c47 => ?_) (fun c47 => ?_)
      · exact absurd c47 (by omega)
      · refine q_iconst F d_Mo_cut_50 (by decide) (fun v48 hv48 => ?_)
        exact q_iret F hr hlk hW46 ⟨1, X, Or.inl ⟨rfl, rfl, fun q => qb_f hp6 (by omega) q.2⟩, ⟨⟨_, n32, b32, s32, p32, mo, hv45, hn, hbb, hs, hpp⟩, hR.keep (fun q _ _ => hfr46 q (by omega))⟩, fun q hq => hfr46 q (by omega)⟩ d_Mo_cut_51
