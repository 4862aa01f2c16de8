set_option maxHeartbeats 4000000 in
set_option maxRecDepth 100000 in
/-- send -/
theorem k_Mo_send (l : Launch) (D : va_G) (τ : Nat → ClassId) (A : Nat → Prop) (ad : Nat → Nat) (N : Nat) (w : Nat → va_E) (hb : 484 ≤ N) (X : zSt) (Bd : Nat) (t0 : Int) (hX : qMo τ ad w X t0) (hO : zOK X Bd) (hB9 : Bd ≤ 1000) (x y : Int32) : Met l y_Mo_send (qws y_Mo_send c_Mo_send 4 (some .int)) ({ frames := 8, cells := 0, slots := 0, locals := 180 }) (qPc D τ A ad N w [.ref (ad 469), .int x, .int y]) (va_Qi (fun r1 w1 => ∃ k X9, zR_send X x.toInt y.toInt k r1.toInt X9 ∧ qMo τ ad w1 X9 k ∧ (∀ q, (q < 469 ∨ 484 ≤ q) → w1 q = w q)) (qB D τ A ad N) A) 0 0 A := by
  refine q_of (by decide) (Nat.le_of_ble_eq_true rfl) rfl ?_
  intro PP EE s MM below meth CC ls F hr hlk hnm hex hl hW
  have hl : lv_has ls 4 [(0, .ref (ad 469)), (1, .int x), (2, .int y)] := hl
  obtain ⟨⟨th, n32, b32, s32, p32, mo, ht, hn, hbb, hs, hpp⟩, hR⟩ := id hX
  obtain ⟨⟨GW, hGW, hGWf⟩, ⟨GP, hGP, hGPf⟩, hMs, hMb, hPl, hGo, hPd⟩ := id hR
  obtain ⟨hm1, hm40, hZ, hBt, hpk16, hpkb, hpk9, hsn⟩ := id hO
  refine lv_aload_n F.1 F.2.1 d_Mo_send_0 rfl (lv_at hl 0 rfl) ?_
  refine q_calli hW (q_cV (As := []) (rest := []) F hW cs_Mo_113 hd_Mo_isBuilt rfl (by omega) mo (k_Mo_isBuilt l D τ A ad N w hb th n32 b32 s32 p32 mo X.bt hbb) rfl rfl ⟨by decide, by decide⟩ rfl hl.1 rfl (Nat.le_of_ble_eq_true rfl) d_Mo_send_1 ⟨Nat.le_refl _, Nat.le_refl _⟩) (fun v1 w1 H1 locs1 hp1 hW1 => ?_)
  obtain ⟨hqb, ⟨t1, mo1, ht1⟩, hfr1⟩ := hp1
  refine q_if_ne (tgt := 9) F d_Mo_send_4 (by decide) (fun c4 => ?_) (fun c4 => ?_)
  · have hbt := qb_t hqb (by omega)
    have hB := hBt hbt
    have hf0 := hfr1
    replace hR := hR.keep (fun q _ _ => hfr1 q (by omega))
    replace hMb := (hMb hbt).keep (fun q _ _ _ => hfr1 q (by omega))
    replace hPl := hPl.keep (hfr1 _ (by omega))
    replace hGo := hGo.keep (hfr1 _ (by omega))
    replace hPd := hPd.keep (hfr1 _ (by omega))
    refine lv_aload_n F.1 F.2.1 d_Mo_send_9 rfl (lv_at hl 0 rfl) ?_
    refine lv_aload_n F.1 F.2.1 d_Mo_send_10 rfl (lv_at hl 0 rfl) ?_
    refine lv_iload_n F.1 F.2.1 d_Mo_send_11 rfl (lv_at hl 1 rfl) ?_
    refine q_calli hW1 (q_cV (As := [.int x]) (rest := [.ref (ad 469)]) F hW1 cs_Mo_70 hd_Mo_isNode rfl (by omega) mo1 (k_Mo_isNode l D τ A ad N w1 hb t1 n32 b32 s32 p32 mo1 X.n hn hm40 x) rfl rfl ⟨by decide, by decide⟩ rfl hl.1 rfl (Nat.le_of_ble_eq_true rfl) d_Mo_send_12 ⟨Nat.le_refl _, Nat.le_refl _⟩) (fun v2 w2 H2 locs2 hp2 hW2 => ?_)
    obtain ⟨hq2, hp2⟩ := hp2
    replace hq2 := hq2.symm
    subst hq2
    refine q_if_eq (tgt := 26) F d_Mo_send_15 (by decide) (fun c15 => ?_) (fun c15 => ?_)
    · refine q_iconst F d_Mo_send_26 (by decide) (fun v3 hv3 => ?_)
      refine lv_goto (tgt := 31) F.1 F.2.1 d_Mo_send_27 (by decide) ?_
      refine pf_Mo_57 F hW2 (by omega) mo1 d_Mo_send_31 (fun H4 locs4 w4 hW4 hI4 hfr4 => ?_)
      replace mo1 := hI4
      refine lv_aload_n F.1 F.2.1 d_Mo_send_34 rfl (lv_at hl 0 rfl) ?_
      refine gf_Mo_57 F hW4 (by omega) mo1 d_Mo_send_35 ?_
      refine q_if_eq (tgt := 43) F d_Mo_send_38 (by decide) (fun c5 => ?_) (fun c5 => ?_)
      · exact absurd c5 (by omega)
      · refine q_iconst F d_Mo_send_41 (by decide) (fun v6 hv6 => ?_)
        exact q_iret F hr hlk hW4 ⟨2, X, Or.inr ⟨hbt, Or.inl ⟨rfl, rfl, fun q => qb_f hp2 (by omega) q.1⟩⟩, ⟨⟨_, n32, b32, s32, p32, mo1, hv3, hn, hbb, hs, hpp⟩, hR.keep (fun q _ _ => hfr4 q (by omega))⟩, fun q hq => (hfr4 q (by omega)).trans (hf0 q (by omega))⟩ d_Mo_send_42
    · have hx1 := qb_t hp2 (by omega)
      refine lv_aload_n F.1 F.2.1 d_Mo_send_18 rfl (lv_at hl 0 rfl) ?_
      refine lv_iload_n F.1 F.2.1 d_Mo_send_19 rfl (lv_at hl 2 rfl) ?_
      refine q_calli hW2 (q_cV (As := [.int y]) (rest := [.ref (ad 469)]) F hW2 cs_Mo_70 hd_Mo_isNode rfl (by omega) mo1 (k_Mo_isNode l D τ A ad N w1 hb t1 n32 b32 s32 p32 mo1 X.n hn hm40 y) rfl rfl ⟨by decide, by decide⟩ rfl hl.1 rfl (Nat.le_of_ble_eq_true rfl) d_Mo_send_20 ⟨Nat.le_refl _, Nat.le_refl _⟩) (fun v7 w7 H7 locs7 hp7 hW7 => ?_)
      obtain ⟨hq7, hp7⟩ := hp7
      replace hq7 := hq7.symm
      subst hq7
      refine q_if_ne (tgt := 30) F d_Mo_send_23 (by decide) (fun c23 => ?_) (fun c23 => ?_)
      · have hy1 := qb_t hp7 (by omega)
        refine q_iconst F d_Mo_send_30 (by decide) (fun v8 hv8 => ?_)
        refine pf_Mo_57 F hW7 (by omega) mo1 d_Mo_send_31 (fun H9 locs9 w9 hW9 hI9 hfr9 => ?_)
        replace mo1 := hI9
        refine lv_aload_n F.1 F.2.1 d_Mo_send_34 rfl (lv_at hl 0 rfl) ?_
        refine gf_Mo_57 F hW9 (by omega) mo1 d_Mo_send_35 ?_
        refine q_if_eq (tgt := 43) F d_Mo_send_38 (by decide) (fun c10 => ?_) (fun c10 => ?_)
        · replace hR := hR.keep (fun q _ _ => hfr9 q (by omega))
          replace hMb := hMb.keep (fun q _ _ _ => hfr9 q (by omega))
          replace hf0 : ∀ q, q ≠ 469 → w9 q = w q := fun q hq => (hfr9 q hq).trans (hf0 q hq)
          replace hPl := hPl.keep (hfr9 _ (by omega))
          replace hGo := hGo.keep (hfr9 _ (by omega))
          replace hPd := hPd.keep (hfr9 _ (by omega))
          refine lv_aload_n F.1 F.2.1 d_Mo_send_43 rfl (lv_at hl 0 rfl) ?_
          refine gf_Mo_64 F hW9 (by omega) mo1 d_Mo_send_44 ?_
          refine q_bipush F d_Mo_send_47 (by decide) (fun v11 hv11 => ?_)
          refine q_irem F (by omega) (by omega) d_Mo_send_49 (fun v12 hv12 => ?_)
          rw [hv11, hs] at hv12
          obtain ⟨i9, hi9⟩ : ∃ i9 : Nat, i9 = X.sn % 16 := ⟨_, rfl⟩
          have hi16 : i9 < 16 := by omega
          have hvi : v12.toInt = (i9 : Int) := by omega
          have hpk17 : X.pk ≤ 16 := by rw [hpk16]; split <;> omega
          refine lv_istore_n (lv' := [(3, .int v12), (0, .ref (ad 469)), (1, .int x), (2, .int y)]) F.1 F.2.1 d_Mo_send_50 rfl hl (by decide) rfl (fun ls13 hl13 => ?_)
          clear hl
          refine lv_aload_n F.1 F.2.1 d_Mo_send_51 rfl (lv_at hl13 1 rfl) ?_
          refine lv_dup F.1 F.2.1 d_Mo_send_52 rfl ?_
          refine gf_Mo_64 F hW9 (by omega) mo1 d_Mo_send_53 ?_
          refine q_iconst F d_Mo_send_56 (by decide) (fun v14 hv14 => ?_)
          refine q_iadd F d_Mo_send_57 (by omega) (fun v15 hv15 => ?_)
          refine pf_Mo_64 F hW9 (by omega) mo1 d_Mo_send_58 (fun H16 locs16 w16 hW16 hI16 hfr16 => ?_)
          replace mo1 := hI16
          replace hPl := hPl.keep (hfr16 _ (by omega))
          replace hGo := hGo.keep (hfr16 _ (by omega))
          replace hPd := hPd.keep (hfr16 _ (by omega))
          refine lv_aload_n F.1 F.2.1 d_Mo_send_61 rfl (lv_at hl13 1 rfl) ?_
          refine lv_aload_n F.1 F.2.1 d_Mo_send_62 rfl (lv_at hl13 1 rfl) ?_
          refine gf_Mo_67 F hW16 (by omega) mo1 d_Mo_send_63 ?_
          refine q_bipush F d_Mo_send_66 (by decide) (fun v17 hv17 => ?_)
          refine q_icmp_ge (tgt := 80) F d_Mo_send_68 (by decide) (fun c68 => ?_) (fun c68 => ?_)
          · refine q_bipush F d_Mo_send_80 (by decide) (fun v18 hv18 => ?_)
            refine pf_Mo_67 F hW16 (by omega) mo1 d_Mo_send_82 (fun H19 locs19 w19 hW19 hI19 hfr19 => ?_)
            replace mo1 := hI19
            replace hPl := hPl.keep (hfr19 _ (by omega))
            replace hGo := hGo.keep (hfr19 _ (by omega))
            replace hPd := hPd.keep (hfr19 _ (by omega))
            refine lv_aload_n F.1 F.2.1 d_Mo_send_85 rfl (lv_at hl13 1 rfl) ?_
            refine gf_Mo_48 F hW19 (by omega) mo1 d_Mo_send_86 ?_
            refine lv_iload_n F.1 F.2.1 d_Mo_send_89 rfl (lv_at hl13 0 rfl) ?_
            refine lv_iload_n F.1 F.2.1 d_Mo_send_90 rfl (lv_at hl13 2 rfl) ?_
            refine q_iast F hW19 hPl (by omega) i9 (by omega) (by omega) d_Mo_send_91 (fun H20 locs20 w20 hW20 hI20 hfr20 => ?_)
            replace mo1 := (hfr20 _ (by omega)).trans mo1
            replace hPl := hI20
            replace hGo := hGo.keep (hfr20 _ (by omega))
            replace hPd := hPd.keep (hfr20 _ (by omega))
            refine lv_aload_n F.1 F.2.1 d_Mo_send_92 rfl (lv_at hl13 1 rfl) ?_
            refine gf_Mo_51 F hW20 (by omega) mo1 d_Mo_send_93 ?_
            refine lv_iload_n F.1 F.2.1 d_Mo_send_96 rfl (lv_at hl13 0 rfl) ?_
            refine lv_iload_n F.1 F.2.1 d_Mo_send_97 rfl (lv_at hl13 3 rfl) ?_
            refine q_iast F hW20 hGo (by omega) i9 (by omega) (by omega) d_Mo_send_98 (fun H21 locs21 w21 hW21 hI21 hfr21 => ?_)
            replace mo1 := (hfr21 _ (by omega)).trans mo1
            replace hPl := hPl.keep (hfr21 _ (by omega))
            replace hGo := hI21
            replace hPd := hPd.keep (hfr21 _ (by omega))
            refine lv_aload_n F.1 F.2.1 d_Mo_send_99 rfl (lv_at hl13 1 rfl) ?_
            refine gf_Mo_54 F hW21 (by omega) mo1 d_Mo_send_100 ?_
            refine lv_iload_n F.1 F.2.1 d_Mo_send_103 rfl (lv_at hl13 0 rfl) ?_
            refine q_iconst F d_Mo_send_104 (by decide) (fun v22 hv22 => ?_)
            refine q_iast F hW21 hPd (by omega) i9 (by omega) (by omega) d_Mo_send_105 (fun H23 locs23 w23 hW23 hI23 hfr23 => ?_)
            replace mo1 := (hfr23 _ (by omega)).trans mo1
            replace hPl := hPl.keep (hfr23 _ (by omega))
            replace hGo := hGo.keep (hfr23 _ (by omega))
            replace hPd := hI23
            rw [hv22] at hPd
            refine lv_iload_n F.1 F.2.1 d_Mo_send_106 rfl (lv_at hl13 0 rfl) ?_
            have hfz : ∀ q, (q ≠ 469 ∧ q ≠ 481 ∧ q ≠ 482 ∧ q ≠ 483) → w23 q = w9 q := fun q hq => by rw [hfr23 q hq.2.2.2, hfr21 q hq.2.2.1, hfr20 q hq.2.1, hfr19 q hq.1, hfr16 q hq.1]
            obtain ⟨⟨G1, hG1, hG1f⟩, ⟨G2, hG2, hG2f⟩, hMs9, hMb9, -, -, -⟩ := id hR
            rw [hi9] at hPl hGo hPd
            exact q_iret F hr hlk hW23 ⟨0, zs_send X x.toInt y.toInt, Or.inr ⟨hbt, Or.inr ⟨rfl, ⟨hx1, hy1⟩, by rw [hvi, hi9], rfl⟩⟩, ⟨⟨_, _, _, _, _, mo1, hv8, hn, hbb, (show v15.toInt = ((X.sn + 1 : Nat) : Int) by omega), (show v18.toInt = ((if X.pk < 16 then X.pk + 1 else 16 : Nat) : Int) by rw [if_neg (by omega)]; omega)⟩, ⟨_, hG1.keep (hfz _ (by omega)), hG1f⟩, ⟨_, hG2.keep (hfz _ (by omega)), hG2f⟩, hMs9.keep (fun q _ _ => hfz q (by omega)), fun b => (hMb9 b).keep (fun q _ _ _ => hfz q (by omega)), hPl, hGo, hPd⟩, fun q hq => (hfz q (by omega)).trans (hf0 q (by omega))⟩ d_Mo_send_107
          · refine lv_aload_n F.1 F.2.1 d_Mo_send_71 rfl (lv_at hl13 1 rfl) ?_
            refine gf_Mo_67 F hW16 (by omega) mo1 d_Mo_send_72 ?_
            refine q_iconst F d_Mo_send_75 (by decide) (fun v24 hv24 => ?_)
            refine q_iadd F d_Mo_send_76 (by omega) (fun v25 hv25 => ?_)
            refine lv_goto (tgt := 82) F.1 F.2.1 d_Mo_send_77 (by decide) ?_
            refine pf_Mo_67 F hW16 (by omega) mo1 d_Mo_send_82 (fun H26 locs26 w26 hW26 hI26 hfr26 => ?_)
            replace mo1 := hI26
            replace hPl := hPl.keep (hfr26 _ (by omega))
            replace hGo := hGo.keep (hfr26 _ (by omega))
            replace hPd := hPd.keep (hfr26 _ (by omega))
            refine lv_aload_n F.1 F.2.1 d_Mo_send_85 rfl (lv_at hl13 1 rfl) ?_
            refine gf_Mo_48 F hW26 (by omega) mo1 d_Mo_send_86 ?_
            refine lv_iload_n F.1 F.2.1 d_Mo_send_89 rfl (lv_at hl13 0 rfl) ?_
            refine lv_iload_n F.1 F.2.1 d_Mo_send_90 rfl (lv_at hl13 2 rfl) ?_
            refine q_iast F hW26 hPl (by omega) i9 (by omega) (by omega) d_Mo_send_91 (fun H27 locs27 w27 hW27 hI27 hfr27 => ?_)
            replace mo1 := (hfr27 _ (by omega)).trans mo1
            replace hPl := hI27
            replace hGo := hGo.keep (hfr27 _ (by omega))
            replace hPd := hPd.keep (hfr27 _ (by omega))
            refine lv_aload_n F.1 F.2.1 d_Mo_send_92 rfl (lv_at hl13 1 rfl) ?_
            refine gf_Mo_51 F hW27 (by omega) mo1 d_Mo_send_93 ?_
            refine lv_iload_n F.1 F.2.1 d_Mo_send_96 rfl (lv_at hl13 0 rfl) ?_
            refine lv_iload_n F.1 F.2.1 d_Mo_send_97 rfl (lv_at hl13 3 rfl) ?_
            refine q_iast F hW27 hGo (by omega) i9 (by omega) (by omega) d_Mo_send_98 (fun H28 locs28 w28 hW28 hI28 hfr28 => ?_)
            replace mo1 := (hfr28 _ (by omega)).trans mo1
            replace hPl := hPl.keep (hfr28 _ (by omega))
            replace hGo := hI28
            replace hPd := hPd.keep (hfr28 _ (by omega))
            refine lv_aload_n F.1 F.2.1 d_Mo_send_99 rfl (lv_at hl13 1 rfl) ?_
            refine gf_Mo_54 F hW28 (by omega) mo1 d_Mo_send_100 ?_
            refine lv_iload_n F.1 F.2.1 d_Mo_send_103 rfl (lv_at hl13 0 rfl) ?_
            refine q_iconst F d_Mo_send_104 (by decide) (fun v29 hv29 => ?_)
            refine q_iast F hW28 hPd (by omega) i9 (by omega) (by omega) d_Mo_send_105 (fun H30 locs30 w30 hW30 hI30 hfr30 => ?_)
            replace mo1 := (hfr30 _ (by omega)).trans mo1
            replace hPl := hPl.keep (hfr30 _ (by omega))
            replace hGo := hGo.keep (hfr30 _ (by omega))
            replace hPd := hI30
            rw [hv29] at hPd
            refine lv_iload_n F.1 F.2.1 d_Mo_send_106 rfl (lv_at hl13 0 rfl) ?_
            have hfz : ∀ q, (q ≠ 469 ∧ q ≠ 481 ∧ q ≠ 482 ∧ q ≠ 483) → w30 q = w9 q := fun q hq => by rw [hfr30 q hq.2.2.2, hfr28 q hq.2.2.1, hfr27 q hq.2.1, hfr26 q hq.1, hfr16 q hq.1]
            obtain ⟨⟨G1, hG1, hG1f⟩, ⟨G2, hG2, hG2f⟩, hMs9, hMb9, -, -, -⟩ := id hR
            rw [hi9] at hPl hGo hPd
            exact q_iret F hr hlk hW30 ⟨0, zs_send X x.toInt y.toInt, Or.inr ⟨hbt, Or.inr ⟨rfl, ⟨hx1, hy1⟩, by rw [hvi, hi9], rfl⟩⟩, ⟨⟨_, _, _, _, _, mo1, hv8, hn, hbb, (show v15.toInt = ((X.sn + 1 : Nat) : Int) by omega), (show v25.toInt = ((if X.pk < 16 then X.pk + 1 else 16 : Nat) : Int) by rw [if_pos (by omega)]; omega)⟩, ⟨_, hG1.keep (hfz _ (by omega)), hG1f⟩, ⟨_, hG2.keep (hfz _ (by omega)), hG2f⟩, hMs9.keep (fun q _ _ => hfz q (by omega)), fun b => (hMb9 b).keep (fun q _ _ _ => hfz q (by omega)), hPl, hGo, hPd⟩, fun q hq => (hfz q (by omega)).trans (hf0 q (by omega))⟩ d_Mo_send_107
        · exact absurd c10 (by omega)
      · refine q_iconst F d_Mo_send_26 (by decide) (fun v31 hv31 => ?_)
        refine lv_goto (tgt := 31) F.1 F.2.1 d_Mo_send_27 (by decide) ?_
        refine pf_Mo_57 F hW7 (by omega) mo1 d_Mo_send_31 (fun H32 locs32 w32 hW32 hI32 hfr32 => ?_)
        replace mo1 := hI32
        refine lv_aload_n F.1 F.2.1 d_Mo_send_34 rfl (lv_at hl 0 rfl) ?_
        refine gf_Mo_57 F hW32 (by omega) mo1 d_Mo_send_35 ?_
        refine q_if_eq (tgt := 43) F d_Mo_send_38 (by decide) (fun c33 => ?_) (fun c33 => ?_)
        · exact absurd c33 (by omega)
        · refine q_iconst F d_Mo_send_41 (by decide) (fun v34 hv34 => ?_)
          exact q_iret F hr hlk hW32 ⟨2, X, Or.inr ⟨hbt, Or.inl ⟨rfl, rfl, fun q => qb_f hp7 (by omega) q.2⟩⟩, ⟨⟨_, n32, b32, s32, p32, mo1, hv31, hn, hbb, hs, hpp⟩, hR.keep (fun q _ _ => hfr32 q (by omega))⟩, fun q hq => (hfr32 q (by omega)).trans (hf0 q (by omega))⟩ d_Mo_send_42
  · have hnb := qb_f hqb (by omega)
    have ht2 : t1.toInt = 1 := by rcases ht1 with z | z; exact absurd z.1 hnb; exact z.2
    refine q_iconst F d_Mo_send_7 (by decide) (fun v35 hv35 => ?_)
    exact q_iret F hr hlk hW1 ⟨1, X, Or.inl ⟨rfl, rfl, hnb⟩, ⟨⟨_, n32, b32, s32, p32, mo1, by omega, hn, hbb, hs, hpp⟩, hR.keep (fun q _ _ => hfr1 q (by omega))⟩, fun q hq => hfr1 q (by omega)⟩ d_Mo_send_8
set_option maxHeartbeats 4000000 in
set_option maxRecDepth 100000 in
/-- weight -/
theorem k_Mo_weight (l : Launch) (D : va_G) (τ : Nat → ClassId) (A : Nat → Prop) (ad : Nat → Nat) (N : Nat) (w : Nat → va_E) (hb : 484 ≤ N) (X : zSt) (Bd : Nat) (t0 : Int) (hX : qMo τ ad w X t0) (hO : zOK X Bd) (hB9 : Bd ≤ 1000) (x : Int32) : Met l y_Mo_weight (qws y_Mo_weight c_Mo_weight 2 (some .int)) ({ frames := 8, cells := 0, slots := 0, locals := 180 }) (qPc D τ A ad N w [.ref (ad 469), .int x]) (va_Qi (fun r1 w1 => ∃ k X9, zR_weight X x.toInt k r1.toInt X9 ∧ qMo τ ad w1 X9 k ∧ (∀ q, (q < 469 ∨ 484 ≤ q) → w1 q = w q)) (qB D τ A ad N) A) 0 0 A := by
  refine q_of (by decide) (Nat.le_of_ble_eq_true rfl) rfl ?_
  intro PP EE s MM below meth CC ls F hr hlk hnm hex hl hW
  have hl : lv_has ls 2 [(0, .ref (ad 469)), (1, .int x)] := hl
  obtain ⟨⟨th, n32, b32, s32, p32, mo, ht, hn, hbb, hs, hpp⟩, hR⟩ := id hX
  obtain ⟨⟨GW, hGW, hGWf⟩, ⟨GP, hGP, hGPf⟩, hMs, hMb, hPl, hGo, hPd⟩ := id hR
  obtain ⟨hm1, hm40, hZ, hBt, hpk16, hpkb, hpk9, hsn⟩ := id hO
  refine lv_aload_n F.1 F.2.1 d_Mo_weight_0 rfl (lv_at hl 0 rfl) ?_
  refine lv_iload_n F.1 F.2.1 d_Mo_weight_1 rfl (lv_at hl 1 rfl) ?_
  refine q_calli hW (q_cV (As := [.int x]) (rest := []) F hW cs_Mo_145 hd_Mo_isPacket rfl (by omega) mo (k_Mo_isPacket l D τ A ad N w hb th n32 b32 s32 p32 mo X.pk hpp x) rfl rfl ⟨by decide, by decide⟩ rfl hl.1 rfl (Nat.le_of_ble_eq_true rfl) d_Mo_weight_2 ⟨Nat.le_refl _, Nat.le_refl _⟩) (fun v1 w1 H1 locs1 hp1 hW1 => ?_)
  obtain ⟨hqb, ⟨t1, mo1, ht1⟩, hfr1⟩ := hp1
  refine q_if_eq (tgt := 17) F d_Mo_weight_5 (by decide) (fun c5 => ?_) (fun c5 => ?_)
  · have hnx := qb_f hqb (by omega)
    have ht2 : t1.toInt = 1 := by rcases ht1 with z | z; exact absurd z.1 hnx; exact z.2
    refine q_iconst F d_Mo_weight_17 (by decide) (fun v2 hv2 => ?_)
    exact q_iret F hr hlk hW1 ⟨1, X, ⟨rfl, Or.inl ⟨rfl, hnx⟩⟩, ⟨⟨_, n32, b32, s32, p32, mo1, by omega, hn, hbb, hs, hpp⟩, hR.keep (fun q _ _ => hfr1 q (by omega))⟩, fun q hq => hfr1 q (by omega)⟩ d_Mo_weight_18
  · have hx1 := qb_t hqb (by omega)
    have ht0 : t1.toInt = 0 := by rcases ht1 with z | z; exact z.2; exact absurd hx1 z.1
    obtain ⟨a, hxa⟩ : ∃ a : Nat, x.toInt = (a : Int) := ⟨x.toInt.toNat, by omega⟩
    have hpk17 : X.pk ≤ 16 := by rw [hpk16]; split <;> omega
    have hf0 := hfr1
    replace hR := hR.keep (fun q _ _ => hfr1 q (by omega))
    replace hPl := hPl.keep (hfr1 _ (by omega))
    replace hGo := hGo.keep (hfr1 _ (by omega))
    replace hPd := hPd.keep (hfr1 _ (by omega))
    refine lv_aload_n F.1 F.2.1 d_Mo_weight_8 rfl (lv_at hl 0 rfl) ?_
    refine gf_Mo_54 F hW1 (by omega) mo1 d_Mo_weight_9 ?_
    refine lv_iload_n F.1 F.2.1 d_Mo_weight_12 rfl (lv_at hl 1 rfl) ?_
    refine q_iald F hW1 hPd (by omega) a (by omega) (by omega) d_Mo_weight_13 (fun v3 hv3 => ?_)
    refine lv_goto (tgt := 18) F.1 F.2.1 d_Mo_weight_14 (by decide) ?_
    exact q_iret F hr hlk hW1 ⟨0, X, by rw [hxa]; exact ⟨rfl, Or.inr ⟨rfl, by omega, by simp only [Int.toNat_natCast]; exact hv3⟩⟩, ⟨⟨_, n32, b32, s32, p32, mo1, ht0, hn, hbb, hs, hpp⟩, hR⟩, fun q hq => hf0 q (by omega)⟩ d_Mo_weight_18
set_option maxHeartbeats 4000000 in
set_option maxRecDepth 100000 in
/-- hop -/
theorem k_Mo_hop (l : Launch) (D : va_G) (τ : Nat → ClassId) (A : Nat → Prop) (ad : Nat → Nat) (N : Nat) (w : Nat → va_E) (hb : 484 ≤ N) (X : zSt) (Bd : Nat) (t0 : Int) (hX : qMo τ ad w X t0) (hO : zOK X Bd) (hB9 : Bd ≤ 1000) (x : Int32) : Met l y_Mo_hop (qws y_Mo_hop c_Mo_hop 3 (some .int)) ({ frames := 8, cells := 0, slots := 0, locals := 180 }) (qPc D τ A ad N w [.ref (ad 469), .int x]) (va_Qi (fun r1 w1 => ∃ k X9, zR_hop X x.toInt k r1.toInt X9 ∧ qMo τ ad w1 X9 k ∧ (∀ q, (q < 469 ∨ 484 ≤ q) → w1 q = w q)) (qB D τ A ad N) A) 0 0 A := by
  refine q_of (by decide) (Nat.le_of_ble_eq_true rfl) rfl ?_
  intro PP EE s MM below meth CC ls F hr hlk hnm hex hl hW
  have hl : lv_has ls 3 [(0, .ref (ad 469)), (1, .int x)] := hl
  obtain ⟨⟨th, n32, b32, s32, p32, mo, ht, hn, hbb, hs, hpp⟩, hR⟩ := id hX
  obtain ⟨⟨GW, hGW, hGWf⟩, ⟨GP, hGP, hGPf⟩, hMs, hMb, hPl, hGo, hPd⟩ := id hR
  obtain ⟨hm1, hm40, hZ, hBt, hpk16, hpkb, hpk9, hsn⟩ := id hO
  refine lv_aload_n F.1 F.2.1 d_Mo_hop_0 rfl (lv_at hl 0 rfl) ?_
  refine lv_iload_n F.1 F.2.1 d_Mo_hop_1 rfl (lv_at hl 1 rfl) ?_
  refine q_calli hW (q_cV (As := [.int x]) (rest := []) F hW cs_Mo_145 hd_Mo_isPacket rfl (by omega) mo (k_Mo_isPacket l D τ A ad N w hb th n32 b32 s32 p32 mo X.pk hpp x) rfl rfl ⟨by decide, by decide⟩ rfl hl.1 rfl (Nat.le_of_ble_eq_true rfl) d_Mo_hop_2 ⟨Nat.le_refl _, Nat.le_refl _⟩) (fun v1 w1 H1 locs1 hp1 hW1 => ?_)
  obtain ⟨hqb, ⟨t1, mo1, ht1⟩, hfr1⟩ := hp1
  refine q_if_ne (tgt := 10) F d_Mo_hop_5 (by decide) (fun c5 => ?_) (fun c5 => ?_)
  · have hx1 := qb_t hqb (by omega)
    have ht0 : t1.toInt = 0 := by rcases ht1 with z | z; exact z.2; exact absurd hx1 z.1
    obtain ⟨a, hxa⟩ : ∃ a : Nat, x.toInt = (a : Int) := ⟨x.toInt.toNat, by omega⟩
    have hpk17 : X.pk ≤ 16 := by rw [hpk16]; split <;> omega
    have hf0 := hfr1
    replace hR := hR.keep (fun q _ _ => hfr1 q (by omega))
    replace hPl := hPl.keep (hfr1 _ (by omega))
    replace hGo := hGo.keep (hfr1 _ (by omega))
    replace hPd := hPd.keep (hfr1 _ (by omega))
    have hbt : X.bt := hpkb (by omega)
    have hB := hBt hbt
    replace hMb := (hMb hbt).keep (fun q _ _ _ => hfr1 q (by omega))
    have hpa := hpk9 a (by omega)
    obtain ⟨c, c1, c2, c3, c4⟩ := hO.hop (show a < X.pk by omega)
    obtain ⟨f, hf9⟩ : ∃ f : Nat, X.P a = (f : Int) := ⟨(X.P a).toNat, by omega⟩
    obtain ⟨g, hg9⟩ : ∃ g : Nat, X.G a = (g : Int) := ⟨(X.G a).toNat, by omega⟩
    rw [hf9, hg9] at c2
    rw [hf9] at c3 c4
    simp only [Int.toNat_natCast] at c2 c3 c4
    obtain ⟨⟨V, hV, hVf⟩, -⟩ := id hMb
    obtain ⟨-, -, hZo, -⟩ := id hB
    refine lv_aload_n F.1 F.2.1 d_Mo_hop_10 rfl (lv_at hl 0 rfl) ?_
    refine lv_aload_n F.1 F.2.1 d_Mo_hop_11 rfl (lv_at hl 0 rfl) ?_
    refine gf_Mo_48 F hW1 (by omega) mo1 d_Mo_hop_12 ?_
    refine lv_iload_n F.1 F.2.1 d_Mo_hop_15 rfl (lv_at hl 1 rfl) ?_
    refine q_iald F hW1 hPl (by omega) a (by omega) (by omega) d_Mo_hop_16 (fun v2 hv2 => ?_)
    refine lv_aload_n F.1 F.2.1 d_Mo_hop_17 rfl (lv_at hl 0 rfl) ?_
    refine gf_Mo_51 F hW1 (by omega) mo1 d_Mo_hop_18 ?_
    refine lv_iload_n F.1 F.2.1 d_Mo_hop_21 rfl (lv_at hl 1 rfl) ?_
    refine q_iald F hW1 hGo (by omega) a (by omega) (by omega) d_Mo_hop_22 (fun v3 hv3 => ?_)
    have hvf : v2.toInt = (f : Int) := by omega
    have hvg : v3.toInt = (g : Int) := by omega
    refine q_calli hW1 (q_cV (As := [.int v2, .int v3]) (rest := []) F hW1 cs_Mo_148 hd_Mo_hops rfl (by omega) mo1 (k_Mo_hops l D τ A ad N w1 hb t1 n32 b32 s32 p32 mo1 X hn hB hMb v2 v3 f g hvf hvg (by omega) (by omega)) rfl rfl ⟨by decide, by decide⟩ rfl hl.1 rfl (Nat.le_of_ble_eq_true rfl) d_Mo_hop_23 ⟨Nat.le_refl _, Nat.le_refl _⟩) (fun v4 w4 H4 locs4 hp4 hW4 => ?_)
    obtain ⟨hq4, hp4⟩ := hp4
    replace hq4 := hq4.symm
    subst hq4
    rw [c2] at hp4
    refine lv_istore_n (lv' := [(2, .int v4), (0, .ref (ad 469)), (1, .int x)]) F.1 F.2.1 d_Mo_hop_26 rfl hl (by decide) rfl (fun ls5 hl5 => ?_)
    clear hl
    refine lv_aload_n F.1 F.2.1 d_Mo_hop_27 rfl (lv_at hl5 1 rfl) ?_
    refine gf_Mo_54 F hW4 (by omega) mo1 d_Mo_hop_28 ?_
    refine lv_iload_n F.1 F.2.1 d_Mo_hop_31 rfl (lv_at hl5 2 rfl) ?_
    refine lv_dup2_11 F.1 F.2.1 d_Mo_hop_32 rfl rfl ?_
    refine q_iald F hW4 hPd (by omega) a (by omega) (by omega) d_Mo_hop_33 (fun v6 hv6 => ?_)
    refine lv_iload_n F.1 F.2.1 d_Mo_hop_34 rfl (lv_at hl5 0 rfl) ?_
    refine lv_aload_n F.1 F.2.1 d_Mo_hop_35 rfl (lv_at hl5 1 rfl) ?_
    refine gf_Mo_48 F hW4 (by omega) mo1 d_Mo_hop_36 ?_
    refine lv_iload_n F.1 F.2.1 d_Mo_hop_39 rfl (lv_at hl5 2 rfl) ?_
    refine q_iald F hW4 hPl (by omega) a (by omega) (by omega) d_Mo_hop_40 (fun v7 hv7 => ?_)
    refine q_icmp_ne (tgt := 48) F d_Mo_hop_41 (by decide) (fun c41 => ?_) (fun c41 => ?_)
    · refine lv_aload_n F.1 F.2.1 d_Mo_hop_48 rfl (lv_at hl5 1 rfl) ?_
      refine gf_Mo_20 F hW4 (by omega) mo1 d_Mo_hop_49 ?_
      refine q_bipush F d_Mo_hop_52 (by decide) (fun v8 hv8 => ?_)
      refine lv_aload_n F.1 F.2.1 d_Mo_hop_54 rfl (lv_at hl5 1 rfl) ?_
      refine gf_Mo_48 F hW4 (by omega) mo1 d_Mo_hop_55 ?_
      refine lv_iload_n F.1 F.2.1 d_Mo_hop_58 rfl (lv_at hl5 2 rfl) ?_
      refine q_iald F hW4 hPl (by omega) a (by omega) (by omega) d_Mo_hop_59 (fun v9 hv9 => ?_)
      have hvp : v9.toInt = (f : Int) := by omega
      refine q_imul F d_Mo_hop_60 (by rw [hv8]; omega) (fun v10 hv10 => ?_)
      rw [hv8] at hv10
      refine lv_iload_n F.1 F.2.1 d_Mo_hop_61 rfl (lv_at hl5 0 rfl) ?_
      refine q_iadd F d_Mo_hop_62 (by omega) (fun v11 hv11 => ?_)
      refine q_iald F hW4 hV (by omega) ((40 * f) + c) (by omega) (by omega) d_Mo_hop_63 (fun v12 hv12 => ?_)
      rw [hVf f c (by omega) (by omega)] at hv12
      refine q_iadd F d_Mo_hop_64 (by omega) (fun v13 hv13 => ?_)
      have hvv : v13.toInt = X.U a + X.Wo f c := by omega
      refine q_iast F hW4 hPd (by omega) a (by omega) (by omega) d_Mo_hop_65 (fun H14 locs14 w14 hW14 hI14 hfr14 => ?_)
      replace mo1 := (hfr14 _ (by omega)).trans mo1
      replace hPl := hPl.keep (hfr14 _ (by omega))
      replace hPd := hI14
      rw [hvv] at hPd
      refine lv_aload_n F.1 F.2.1 d_Mo_hop_66 rfl (lv_at hl5 1 rfl) ?_
      refine gf_Mo_48 F hW14 (by omega) mo1 d_Mo_hop_67 ?_
      refine lv_iload_n F.1 F.2.1 d_Mo_hop_70 rfl (lv_at hl5 2 rfl) ?_
      refine lv_iload_n F.1 F.2.1 d_Mo_hop_71 rfl (lv_at hl5 0 rfl) ?_
      refine q_iast F hW14 hPl (by omega) a (by omega) (by omega) d_Mo_hop_72 (fun H15 locs15 w15 hW15 hI15 hfr15 => ?_)
      replace mo1 := (hfr15 _ (by omega)).trans mo1
      replace hPl := hI15
      replace hPd := hPd.keep (hfr15 _ (by omega))
      refine lv_iload_n F.1 F.2.1 d_Mo_hop_73 rfl (lv_at hl5 0 rfl) ?_
      have hfz : ∀ q, (q ≠ 481 ∧ q ≠ 483) → w15 q = w1 q := fun q hq => by rw [hfr15 q hq.1, hfr14 q hq.2]
      obtain ⟨⟨G1, hG1, hG1f⟩, ⟨G2, hG2, hG2f⟩, hMs9, hMb9, -, hGo9, -⟩ := id hR
      rw [hp4] at hPl
      exact q_iret F hr hlk hW15 ⟨0, zs_hop X a (c : Int) (X.Wo f c), by rw [hxa, hp4]; exact Or.inr ⟨rfl, by omega, by simp only [Int.toNat_natCast]; rw [hf9, hg9]; exact c2.symm, by simp only [Int.toNat_natCast]; rw [hf9]; simp only [Int.toNat_natCast]⟩, ⟨⟨_, n32, b32, s32, p32, mo1, ht0, hn, hbb, hs, hpp⟩, ⟨_, hG1.keep (hfz _ (by omega)), hG1f⟩, ⟨_, hG2.keep (hfz _ (by omega)), hG2f⟩, hMs9.keep (fun q _ _ => hfz q (by omega)), fun b => (hMb9 b).keep (fun q _ _ _ => hfz q (by omega)), hPl, hGo9.keep (hfz _ (by omega)), hPd⟩, fun q hq => (hfz q (by omega)).trans (hf0 q (by omega))⟩ d_Mo_hop_74
    · have hcf : c = f := by omega
      have h00 : X.Wo f c = 0 := by rw [hcf]; exact hZo.1.2 f (by omega)
      refine q_iconst F d_Mo_hop_44 (by decide) (fun v16 hv16 => ?_)
      refine lv_goto (tgt := 64) F.1 F.2.1 d_Mo_hop_45 (by decide) ?_
      refine q_iadd F d_Mo_hop_64 (by omega) (fun v17 hv17 => ?_)
      have hvv : v17.toInt = X.U a + X.Wo f c := by omega
      refine q_iast F hW4 hPd (by omega) a (by omega) (by omega) d_Mo_hop_65 (fun H18 locs18 w18 hW18 hI18 hfr18 => ?_)
      replace mo1 := (hfr18 _ (by omega)).trans mo1
      replace hPl := hPl.keep (hfr18 _ (by omega))
      replace hPd := hI18
      rw [hvv] at hPd
      refine lv_aload_n F.1 F.2.1 d_Mo_hop_66 rfl (lv_at hl5 1 rfl) ?_
      refine gf_Mo_48 F hW18 (by omega) mo1 d_Mo_hop_67 ?_
      refine lv_iload_n F.1 F.2.1 d_Mo_hop_70 rfl (lv_at hl5 2 rfl) ?_
      refine lv_iload_n F.1 F.2.1 d_Mo_hop_71 rfl (lv_at hl5 0 rfl) ?_
      refine q_iast F hW18 hPl (by omega) a (by omega) (by omega) d_Mo_hop_72 (fun H19 locs19 w19 hW19 hI19 hfr19 => ?_)
      replace mo1 := (hfr19 _ (by omega)).trans mo1
      replace hPl := hI19
      replace hPd := hPd.keep (hfr19 _ (by omega))
      refine lv_iload_n F.1 F.2.1 d_Mo_hop_73 rfl (lv_at hl5 0 rfl) ?_
      have hfz : ∀ q, (q ≠ 481 ∧ q ≠ 483) → w19 q = w1 q := fun q hq => by rw [hfr19 q hq.1, hfr18 q hq.2]
      obtain ⟨⟨G1, hG1, hG1f⟩, ⟨G2, hG2, hG2f⟩, hMs9, hMb9, -, hGo9, -⟩ := id hR
      rw [hp4] at hPl
      exact q_iret F hr hlk hW19 ⟨0, zs_hop X a (c : Int) (X.Wo f c), by rw [hxa, hp4]; exact Or.inr ⟨rfl, by omega, by simp only [Int.toNat_natCast]; rw [hf9, hg9]; exact c2.symm, by simp only [Int.toNat_natCast]; rw [hf9]; simp only [Int.toNat_natCast]⟩, ⟨⟨_, n32, b32, s32, p32, mo1, ht0, hn, hbb, hs, hpp⟩, ⟨_, hG1.keep (hfz _ (by omega)), hG1f⟩, ⟨_, hG2.keep (hfz _ (by omega)), hG2f⟩, hMs9.keep (fun q _ _ => hfz q (by omega)), fun b => (hMb9 b).keep (fun q _ _ _ => hfz q (by omega)), hPl, hGo9.keep (hfz _ (by omega)), hPd⟩, fun q hq => (hfz q (by omega)).trans (hf0 q (by omega))⟩ d_Mo_hop_74
  · have hnx := qb_f hqb (by omega)
    have ht2 : t1.toInt = 1 := by rcases ht1 with z | z; exact absurd z.1 hnx; exact z.2
    refine q_iconst F d_Mo_hop_8 (by decide) (fun v20 hv20 => ?_)
    exact q_iret F hr hlk hW1 ⟨1, X, Or.inl ⟨rfl, rfl, hnx⟩, ⟨⟨_, n32, b32, s32, p32, mo1, by omega, hn, hbb, hs, hpp⟩, hR.keep (fun q _ _ => hfr1 q (by omega))⟩, fun q hq => hfr1 q (by omega)⟩ d_Mo_hop_9
set_option maxHeartbeats 4000000 in
set_option maxRecDepth 100000 in
/-- walk -/
theorem k_Mo_walk (l : Launch) (D : va_G) (τ : Nat → ClassId) (A : Nat → Prop) (ad : Nat → Nat) (N : Nat) (w : Nat → va_E) (hb : 484 ≤ N) (X : zSt) (Bd : Nat) (t0 : Int) (hX : qMo τ ad w X t0) (hO : zOK X Bd) (hB9 : Bd ≤ 1000) (x y z : Int32) : Met l y_Mo_walk (qws y_Mo_walk c_Mo_walk 8 (some .int)) ({ frames := 8, cells := 0, slots := 0, locals := 180 }) (qPc D τ A ad N w [.ref (ad 469), .int x, .int y, .int z]) (va_Qi (fun r1 w1 => ∃ k X9, zR_walk X x.toInt y.toInt z.toInt k r1.toInt X9 ∧ qMo τ ad w1 X9 k ∧ (∀ q, (q < 469 ∨ 484 ≤ q) → w1 q = w q)) (qB D τ A ad N) A) 0 0 A := by
  refine q_of (by decide) (Nat.le_of_ble_eq_true rfl) rfl ?_
  intro PP EE s MM below meth CC ls F hr hlk hnm hex hl hW
  have hl : lv_has ls 8 [(0, .ref (ad 469)), (1, .int x), (2, .int y), (3, .int z)] := hl
  obtain ⟨⟨th, n32, b32, s32, p32, mo, ht, hn, hbb, hs, hpp⟩, hR⟩ := id hX
  obtain ⟨⟨GW, hGW, hGWf⟩, ⟨GP, hGP, hGPf⟩, hMs, hMb, hPl, hGo, hPd⟩ := id hR
  obtain ⟨hm1, hm40, hZ, hBt, hpk16, hpkb, hpk9, hsn⟩ := id hO
  refine lv_aload_n F.1 F.2.1 d_Mo_walk_0 rfl (lv_at hl 0 rfl) ?_
  refine q_calli hW (q_cV (As := []) (rest := []) F hW cs_Mo_113 hd_Mo_isBuilt rfl (by omega) mo (k_Mo_isBuilt l D τ A ad N w hb th n32 b32 s32 p32 mo X.bt hbb) rfl rfl ⟨by decide, by decide⟩ rfl hl.1 rfl (Nat.le_of_ble_eq_true rfl) d_Mo_walk_1 ⟨Nat.le_refl _, Nat.le_refl _⟩) (fun v1 w1 H1 locs1 hp1 hW1 => ?_)
  obtain ⟨hqb, ⟨t1, mo1, ht1⟩, hfr1⟩ := hp1
  refine q_if_ne (tgt := 9) F d_Mo_walk_4 (by decide) (fun c4 => ?_) (fun c4 => ?_)
  · have hbt := qb_t hqb (by omega)
    have hB := hBt hbt
    have hf0 := hfr1
    replace hR := hR.keep (fun q _ _ => hfr1 q (by omega))
    replace hMb := (hMb hbt).keep (fun q _ _ _ => hfr1 q (by omega))
    replace hPl := hPl.keep (hfr1 _ (by omega))
    replace hGo := hGo.keep (hfr1 _ (by omega))
    replace hPd := hPd.keep (hfr1 _ (by omega))
    refine lv_aload_n F.1 F.2.1 d_Mo_walk_9 rfl (lv_at hl 0 rfl) ?_
    refine lv_aload_n F.1 F.2.1 d_Mo_walk_10 rfl (lv_at hl 0 rfl) ?_
    refine lv_iload_n F.1 F.2.1 d_Mo_walk_11 rfl (lv_at hl 1 rfl) ?_
    refine q_calli hW1 (q_cV (As := [.int x]) (rest := [.ref (ad 469)]) F hW1 cs_Mo_70 hd_Mo_isNode rfl (by omega) mo1 (k_Mo_isNode l D τ A ad N w1 hb t1 n32 b32 s32 p32 mo1 X.n hn hm40 x) rfl rfl ⟨by decide, by decide⟩ rfl hl.1 rfl (Nat.le_of_ble_eq_true rfl) d_Mo_walk_12 ⟨Nat.le_refl _, Nat.le_refl _⟩) (fun v2 w2 H2 locs2 hp2 hW2 => ?_)
    obtain ⟨hq2, hp2⟩ := hp2
    replace hq2 := hq2.symm
    subst hq2
    refine q_if_eq (tgt := 35) F d_Mo_walk_15 (by decide) (fun c15 => ?_) (fun c15 => ?_)
    · refine q_iconst F d_Mo_walk_35 (by decide) (fun v3 hv3 => ?_)
      refine lv_goto (tgt := 40) F.1 F.2.1 d_Mo_walk_36 (by decide) ?_
      refine pf_Mo_57 F hW2 (by omega) mo1 d_Mo_walk_40 (fun H4 locs4 w4 hW4 hI4 hfr4 => ?_)
      replace mo1 := hI4
      refine lv_aload_n F.1 F.2.1 d_Mo_walk_43 rfl (lv_at hl 0 rfl) ?_
      refine gf_Mo_57 F hW4 (by omega) mo1 d_Mo_walk_44 ?_
      refine q_if_eq (tgt := 52) F d_Mo_walk_47 (by decide) (fun c5 => ?_) (fun c5 => ?_)
      · exact absurd c5 (by omega)
      · refine q_iconst F d_Mo_walk_50 (by decide) (fun v6 hv6 => ?_)
        exact q_iret F hr hlk hW4 ⟨2, X, ⟨rfl, Or.inr ⟨hbt, Or.inl ⟨rfl, fun q => qb_f hp2 (by omega) q.1⟩⟩⟩, ⟨⟨_, n32, b32, s32, p32, mo1, hv3, hn, hbb, hs, hpp⟩, hR.keep (fun q _ _ => hfr4 q (by omega))⟩, fun q hq => (hfr4 q (by omega)).trans (hf0 q (by omega))⟩ d_Mo_walk_51
    · have hx1 := qb_t hp2 (by omega)
      refine lv_aload_n F.1 F.2.1 d_Mo_walk_18 rfl (lv_at hl 0 rfl) ?_
      refine lv_iload_n F.1 F.2.1 d_Mo_walk_19 rfl (lv_at hl 2 rfl) ?_
      refine q_calli hW2 (q_cV (As := [.int y]) (rest := [.ref (ad 469)]) F hW2 cs_Mo_70 hd_Mo_isNode rfl (by omega) mo1 (k_Mo_isNode l D τ A ad N w1 hb t1 n32 b32 s32 p32 mo1 X.n hn hm40 y) rfl rfl ⟨by decide, by decide⟩ rfl hl.1 rfl (Nat.le_of_ble_eq_true rfl) d_Mo_walk_20 ⟨Nat.le_refl _, Nat.le_refl _⟩) (fun v7 w7 H7 locs7 hp7 hW7 => ?_)
      obtain ⟨hq7, hp7⟩ := hp7
      replace hq7 := hq7.symm
      subst hq7
      refine q_if_eq (tgt := 35) F d_Mo_walk_23 (by decide) (fun c23 => ?_) (fun c23 => ?_)
      · refine q_iconst F d_Mo_walk_35 (by decide) (fun v8 hv8 => ?_)
        refine lv_goto (tgt := 40) F.1 F.2.1 d_Mo_walk_36 (by decide) ?_
        refine pf_Mo_57 F hW7 (by omega) mo1 d_Mo_walk_40 (fun H9 locs9 w9 hW9 hI9 hfr9 => ?_)
        replace mo1 := hI9
        refine lv_aload_n F.1 F.2.1 d_Mo_walk_43 rfl (lv_at hl 0 rfl) ?_
        refine gf_Mo_57 F hW9 (by omega) mo1 d_Mo_walk_44 ?_
        refine q_if_eq (tgt := 52) F d_Mo_walk_47 (by decide) (fun c10 => ?_) (fun c10 => ?_)
        · exact absurd c10 (by omega)
        · refine q_iconst F d_Mo_walk_50 (by decide) (fun v11 hv11 => ?_)
          exact q_iret F hr hlk hW9 ⟨2, X, ⟨rfl, Or.inr ⟨hbt, Or.inl ⟨rfl, fun q => qb_f hp7 (by omega) q.2.1⟩⟩⟩, ⟨⟨_, n32, b32, s32, p32, mo1, hv8, hn, hbb, hs, hpp⟩, hR.keep (fun q _ _ => hfr9 q (by omega))⟩, fun q hq => (hfr9 q (by omega)).trans (hf0 q (by omega))⟩ d_Mo_walk_51
      · have hy1 := qb_t hp7 (by omega)
        refine lv_iload_n F.1 F.2.1 d_Mo_walk_26 rfl (lv_at hl 3 rfl) ?_
        refine q_if_lt (tgt := 35) F d_Mo_walk_27 (by decide) (fun c27 => ?_) (fun c27 => ?_)
        · refine q_iconst F d_Mo_walk_35 (by decide) (fun v12 hv12 => ?_)
          refine lv_goto (tgt := 40) F.1 F.2.1 d_Mo_walk_36 (by decide) ?_
          refine pf_Mo_57 F hW7 (by omega) mo1 d_Mo_walk_40 (fun H13 locs13 w13 hW13 hI13 hfr13 => ?_)
          replace mo1 := hI13
          refine lv_aload_n F.1 F.2.1 d_Mo_walk_43 rfl (lv_at hl 0 rfl) ?_
          refine gf_Mo_57 F hW13 (by omega) mo1 d_Mo_walk_44 ?_
          refine q_if_eq (tgt := 52) F d_Mo_walk_47 (by decide) (fun c14 => ?_) (fun c14 => ?_)
          · exact absurd c14 (by omega)
          · refine q_iconst F d_Mo_walk_50 (by decide) (fun v15 hv15 => ?_)
            exact q_iret F hr hlk hW13 ⟨2, X, ⟨rfl, Or.inr ⟨hbt, Or.inl ⟨rfl, fun q => by have q1 := q.2.2.1; have q2 := q.2.2.2; omega⟩⟩⟩, ⟨⟨_, n32, b32, s32, p32, mo1, hv12, hn, hbb, hs, hpp⟩, hR.keep (fun q _ _ => hfr13 q (by omega))⟩, fun q hq => (hfr13 q (by omega)).trans (hf0 q (by omega))⟩ d_Mo_walk_51
        · refine lv_iload_n F.1 F.2.1 d_Mo_walk_30 rfl (lv_at hl 3 rfl) ?_
          refine q_iconst F d_Mo_walk_31 (by decide) (fun v16 hv16 => ?_)
          refine q_icmp_le (tgt := 39) F d_Mo_walk_32 (by decide) (fun c32 => ?_) (fun c32 => ?_)
          · have hok : zn X x.toInt ∧ zn X y.toInt ∧ 0 ≤ z.toInt ∧ z.toInt < 3 := ⟨hx1, hy1, by omega, by omega⟩
            refine q_iconst F d_Mo_walk_39 (by decide) (fun v17 hv17 => ?_)
            refine pf_Mo_57 F hW7 (by omega) mo1 d_Mo_walk_40 (fun H18 locs18 w18 hW18 hI18 hfr18 => ?_)
            replace mo1 := hI18
            refine lv_aload_n F.1 F.2.1 d_Mo_walk_43 rfl (lv_at hl 0 rfl) ?_
            refine gf_Mo_57 F hW18 (by omega) mo1 d_Mo_walk_44 ?_
            refine q_if_eq (tgt := 52) F d_Mo_walk_47 (by decide) (fun c19 => ?_) (fun c19 => ?_)
            · replace hR := hR.keep (fun q _ _ => hfr18 q (by omega))
              replace hMb := hMb.keep (fun q _ _ _ => hfr18 q (by omega))
              replace hf0 : ∀ q, q ≠ 469 → w18 q = w q := fun q hq => (hfr18 q hq).trans (hf0 q hq)
              replace hPl := hPl.keep (hfr18 _ (by omega))
              replace hGo := hGo.keep (hfr18 _ (by omega))
              replace hPd := hPd.keep (hfr18 _ (by omega))
              obtain ⟨a, hxa⟩ : ∃ a : Nat, x.toInt = (a : Int) := ⟨x.toInt.toNat, by omega⟩
              obtain ⟨g, hxg⟩ : ∃ g : Nat, y.toInt = (g : Int) := ⟨y.toInt.toNat, by omega⟩
              clear hm1 hm40 hZ
              obtain ⟨hm1, hm40, hZ, hall, hmk1, hmk2⟩ := id hB
              obtain ⟨⟨V, hV, hVf⟩, ⟨GO, hGO, hGOf⟩, ⟨T, hT, hTf⟩, ⟨B1, hM, hMi⟩, ⟨O, hO, hOf⟩, PA, hPA, hPAf⟩ := id hMb
              have hdb : ∀ a b, a < X.n → b < X.n → 0 ≤ zd X.n X.Wo a b ∧ zd X.n X.Wo a b ≤ 1000000 := fun a b ha hb9 => zd_bd hZ.1 ha hb9
              have hWb : ∀ a b, a < X.n → b < X.n → 0 ≤ X.Wo a b ∧ X.Wo a b ≤ 1000 := fun a b ha hb9 => ⟨(hZ.1.1 a b ha hb9).1, (hZ.1.1 a b ha hb9).2.1⟩
              have hmk3 : ∃ v, v < X.n ∧ X.mk v := hmk2.imp (fun v h => ⟨hmk1 v h, h⟩)
              obtain ⟨r, hrm, hrow, hrk⟩ := hB.own g
              have hp0 := zphi_bd (n := X.n) (Wt := X.Wo) (mk := X.mk) hm40 (m := r) (show a < X.n by omega) (show g < X.n by omega)
              have hgm : g < X.n := by omega
              have ham : a < X.n := by omega
              refine q_iconst F d_Mo_walk_52 (by decide) (fun v20 hv20 => ?_)
              refine lv_istore (lv' := [(4, .int v20), (0, .ref (ad 469)), (1, .int x), (2, .int y), (3, .int z)]) F.1 F.2.1 d_Mo_walk_53 hl (by decide) rfl (fun ls21 hl21 => ?_)
              clear hl
              refine q_iconst F d_Mo_walk_55 (by decide) (fun v22 hv22 => ?_)
              refine lv_istore (lv' := [(5, .int v22), (4, .int v20), (0, .ref (ad 469)), (1, .int x), (2, .int y), (3, .int z)]) F.1 F.2.1 d_Mo_walk_56 hl21 (by decide) rfl (fun ls23 hl23 => ?_)
              clear hl21
              refine lv_iload_n F.1 F.2.1 d_Mo_walk_58 rfl (lv_at hl23 3 rfl) ?_
              refine lv_istore (lv' := [(6, .int x), (5, .int v22), (4, .int v20), (0, .ref (ad 469)), (1, .int x), (2, .int y), (3, .int z)]) F.1 F.2.1 d_Mo_walk_59 hl23 (by decide) rfl (fun ls24 hl24 => ?_)
              clear hl23
              obtain ⟨ch, hch⟩ : ∃ z : Int32, z = x := ⟨_, rfl⟩
              replace hl24 : lv_has ls24 8 [(6, .int ch), (5, .int v22), (4, .int v20), (0, .ref (ad 469)), (1, .int x), (2, .int y), (3, .int z)] := by rw [hch]; exact hl24
              obtain ⟨c, hc0⟩ : ∃ c : Nat, c = a := ⟨_, rfl⟩
              have hl25 : lv_has ls24 8 [(5, .int v22), (6, .int ch), (4, .int v20), (0, .ref (ad 469)), (1, .int x), (2, .int y), (3, .int z)] := (lv_sub hl24 [1, 0, 2, 3, 4, 5, 6] rfl)
              clear hl24
              obtain ⟨i, hi0⟩ : ∃ i : Nat, i = 0 := ⟨_, rfl⟩
              have hiv : v22.toInt = (i : Int) := by omega
              have hib : i ≤ 120 := by omega
              have hWp := hW18
              have hcv : ch.toInt = (c : Int) := by rw [hch, hc0]; exact hxa
              have hcm : c < X.n := by omega
              have hph : zphi X.n X.Wo X.mk r c g + i < 120 := by rw [hc0, hi0]; exact hp0
              have htb : 0 ≤ v20.toInt ∧ v20.toInt ≤ 1000 * i := by omega
              have hsum : v20.toInt + (zwk X.n X.bo X.Wo X.mk g 120 c).1 = (zwk X.n X.bo X.Wo X.mk g 120 a).1 := by rw [hc0]; omega
              have hcnt : (i : Int) + (zwk X.n X.bo X.Wo X.mk g 120 c).2 = (zwk X.n X.bo X.Wo X.mk g 120 a).2 := by rw [hc0, hi0]; omega
              clear hi0 hv22 hch hc0 hv20
              generalize H18 = Hp at hWp ⊢
              generalize locs18 = locsp at hWp ⊢
              obtain ⟨f, hf⟩ : ∃ f : Nat, 120 + 1 ≤ i + f := ⟨120 + 1, by omega⟩
              induction f generalizing i v22 ls24 Hp locsp ch c v20 with
              | zero => exact absurd hf (by omega)
              | succ f ihi =>
                refine lv_iload F.1 F.2.1 d_Mo_walk_61 (lv_at hl25 1 rfl) ?_
                refine lv_iload_n F.1 F.2.1 d_Mo_walk_63 rfl (lv_at hl25 5 rfl) ?_
                refine q_icmp_eq (tgt := 112) F d_Mo_walk_64 (by decide) (fun c64 => ?_) (fun c64 => ?_)
                · have hcg : c = g := by omega
                  rw [hcg, zwk_there] at hsum hcnt
                  simp only at hsum hcnt
                  refine lv_iload_n F.1 F.2.1 d_Mo_walk_112 rfl (lv_at hl25 6 rfl) ?_
                  refine q_iconst F d_Mo_walk_113 (by decide) (fun v26 hv26 => ?_)
                  refine q_icmp_ge (tgt := 129) F d_Mo_walk_114 (by decide) (fun c114 => ?_) (fun c114 => ?_)
                  · refine lv_iload_n F.1 F.2.1 d_Mo_walk_129 rfl (lv_at hl25 4 rfl) ?_
                    refine lv_iload_n F.1 F.2.1 d_Mo_walk_130 rfl (lv_at hl25 5 rfl) ?_
                    refine q_icmp_ne (tgt := 140) F d_Mo_walk_131 (by decide) (fun c131 => ?_) (fun c131 => ?_)
                    · have hag : a ≠ g := by omega
                      have hdp := zd_pos hZ.1 ham hgm hag
                      have hdb9 := hdb a g ham hgm
                      have hwb := (zwk_bd hB hgm 120 a ham).1
                      refine q_sipush F d_Mo_walk_140 (by decide) (fun v27 hv27 => ?_)
                      refine lv_iload F.1 F.2.1 d_Mo_walk_143 (lv_at hl25 2 rfl) ?_
                      refine q_imul F d_Mo_walk_145 (by rw [hv27]; omega) (fun v28 hv28 => ?_)
                      rw [hv27] at hv28
                      refine lv_aload_n F.1 F.2.1 d_Mo_walk_146 rfl (lv_at hl25 3 rfl) ?_
                      refine lv_iload_n F.1 F.2.1 d_Mo_walk_147 rfl (lv_at hl25 4 rfl) ?_
                      refine lv_iload_n F.1 F.2.1 d_Mo_walk_148 rfl (lv_at hl25 5 rfl) ?_
                      refine q_calli hWp (q_cV (As := [.int x, .int y]) (rest := [.int v28]) F hWp cs_Mo_82 hd_Mo_d rfl (by omega) mo1 (k_Mo_d l D τ A ad N w18 hb v17 n32 b32 s32 p32 mo1 X.n hn hm40 T hT (zd X.n X.Wo) hTf x y a g hxa hxg ham hgm) rfl rfl ⟨by decide, by decide⟩ rfl hl25.1 rfl (Nat.le_of_ble_eq_true rfl) d_Mo_walk_149 ⟨Nat.le_refl _, Nat.le_refl _⟩) (fun v29 w29 H29 locs29 hp29 hW29 => ?_)
                      obtain ⟨hq29, hp29⟩ := hp29
                      replace hq29 := hq29.symm
                      subst hq29
                      refine q_iadd F d_Mo_walk_152 (by omega) (fun v30 hv30 => ?_)
                      refine q_iconst F d_Mo_walk_153 (by decide) (fun v31 hv31 => ?_)
                      refine q_isub F d_Mo_walk_154 (by omega) (fun v32 hv32 => ?_)
                      refine lv_aload_n F.1 F.2.1 d_Mo_walk_155 rfl (lv_at hl25 3 rfl) ?_
                      refine lv_iload_n F.1 F.2.1 d_Mo_walk_156 rfl (lv_at hl25 4 rfl) ?_
                      refine lv_iload_n F.1 F.2.1 d_Mo_walk_157 rfl (lv_at hl25 5 rfl) ?_
                      refine q_calli hW29 (q_cV (As := [.int x, .int y]) (rest := [.int v32]) F hW29 cs_Mo_82 hd_Mo_d rfl (by omega) mo1 (k_Mo_d l D τ A ad N w18 hb v17 n32 b32 s32 p32 mo1 X.n hn hm40 T hT (zd X.n X.Wo) hTf x y a g hxa hxg ham hgm) rfl rfl ⟨by decide, by decide⟩ rfl hl25.1 rfl (Nat.le_of_ble_eq_true rfl) d_Mo_walk_158 ⟨Nat.le_refl _, Nat.le_refl _⟩) (fun v33 w33 H33 locs33 hp33 hW33 => ?_)
                      obtain ⟨hq33, hp33⟩ := hp33
                      replace hq33 := hq33.symm
                      subst hq33
                      refine q_idiv F (by omega) (by omega) d_Mo_walk_161 (fun v34 hv34 => ?_)
                      have h9 : zst X.n X.bo X.Wo X.mk a g = v34.toInt := by
                        unfold zst
                        rw [zz_dec_f (show ¬ zd X.n X.Wo a g ≤ 0 by omega), hv34, hp33]
                        simp only [Bool.false_eq_true, if_false]
                        congr 1
                        omega
                      exact q_iret F hr hlk hW33 ⟨0, X, ⟨rfl, Or.inr ⟨hbt, Or.inr ⟨rfl, hok, by rw [hxa, hxg]; simp only [Int.toNat_natCast]; exact Or.inr (Or.inr ⟨by omega, h9.symm⟩)⟩⟩⟩, ⟨⟨_, n32, b32, s32, p32, mo1, hv17, hn, hbb, hs, hpp⟩, hR⟩, fun q hq => hf0 q (by omega)⟩ d_Mo_walk_162
                    · have hag : a = g := by omega
                      have h9 : zst X.n X.bo X.Wo X.mk a g = 1000 := by unfold zst; rw [zz_dec_t (show zd X.n X.Wo a g ≤ 0 by rw [← hag, zd_aa hZ.1 ham]; omega)]; simp
                      refine q_sipush F d_Mo_walk_134 (by decide) (fun v35 hv35 => ?_)
                      refine lv_goto (tgt := 162) F.1 F.2.1 d_Mo_walk_137 (by decide) ?_
                      exact q_iret F hr hlk hWp ⟨0, X, ⟨rfl, Or.inr ⟨hbt, Or.inr ⟨rfl, hok, by rw [hxa, hxg]; simp only [Int.toNat_natCast]; exact Or.inr (Or.inr ⟨by omega, by omega⟩)⟩⟩⟩, ⟨⟨_, n32, b32, s32, p32, mo1, hv17, hn, hbb, hs, hpp⟩, hR⟩, fun q hq => hf0 q (by omega)⟩ d_Mo_walk_162
                  · refine lv_iload_n F.1 F.2.1 d_Mo_walk_117 rfl (lv_at hl25 6 rfl) ?_
                    refine q_if_ne (tgt := 126) F d_Mo_walk_118 (by decide) (fun c118 => ?_) (fun c118 => ?_)
                    · refine lv_iload F.1 F.2.1 d_Mo_walk_126 (lv_at hl25 0 rfl) ?_
                      exact q_iret F hr hlk hWp ⟨0, X, ⟨rfl, Or.inr ⟨hbt, Or.inr ⟨rfl, hok, by rw [hxa, hxg]; simp only [Int.toNat_natCast]; exact Or.inr (Or.inl ⟨by omega, by omega⟩)⟩⟩⟩, ⟨⟨_, n32, b32, s32, p32, mo1, hv17, hn, hbb, hs, hpp⟩, hR⟩, fun q hq => hf0 q (by omega)⟩ d_Mo_walk_128
                    · refine lv_iload F.1 F.2.1 d_Mo_walk_121 (lv_at hl25 2 rfl) ?_
                      refine lv_goto (tgt := 128) F.1 F.2.1 d_Mo_walk_123 (by decide) ?_
                      exact q_iret F hr hlk hWp ⟨0, X, ⟨rfl, Or.inr ⟨hbt, Or.inr ⟨rfl, hok, by rw [hxa, hxg]; simp only [Int.toNat_natCast]; exact Or.inl ⟨by omega, by omega⟩⟩⟩⟩, ⟨⟨_, n32, b32, s32, p32, mo1, hv17, hn, hbb, hs, hpp⟩, hR⟩, fun q hq => hf0 q (by omega)⟩ d_Mo_walk_128
                · have hne : c ≠ g := by omega
                  obtain ⟨d, d1, d2, d3, d4, d5, -⟩ := hB.hop hcm hgm hne hrow hrm
                  have hwy := hB.way hcm hgm hne d2
                  refine lv_iload F.1 F.2.1 d_Mo_walk_67 (lv_at hl25 0 rfl) ?_
                  refine q_sipush F d_Mo_walk_69 (by decide) (fun v36 hv36 => ?_)
                  refine q_icmp_ge (tgt := 112) F d_Mo_walk_72 (by decide) (fun c72 => ?_) (fun c72 => ?_)
                  · exact absurd hph (by omega)
                  · refine lv_aload_n F.1 F.2.1 d_Mo_walk_75 rfl (lv_at hl25 3 rfl) ?_
                    refine lv_iload F.1 F.2.1 d_Mo_walk_76 (lv_at hl25 1 rfl) ?_
                    refine lv_iload_n F.1 F.2.1 d_Mo_walk_78 rfl (lv_at hl25 5 rfl) ?_
                    refine q_calli hWp (q_cV (As := [.int ch, .int y]) (rest := []) F hWp cs_Mo_148 hd_Mo_hops rfl (by omega) mo1 (k_Mo_hops l D τ A ad N w18 hb v17 n32 b32 s32 p32 mo1 X hn hB hMb ch y c g hcv hxg hcm hgm) rfl rfl ⟨by decide, by decide⟩ rfl hl25.1 rfl (Nat.le_of_ble_eq_true rfl) d_Mo_walk_79 ⟨Nat.le_refl _, Nat.le_refl _⟩) (fun v37 w37 H37 locs37 hp37 hW37 => ?_)
                    obtain ⟨hq37, hp37⟩ := hp37
                    replace hq37 := hq37.symm
                    subst hq37
                    rw [d2] at hp37
                    refine lv_istore (lv' := [(7, .int v37), (5, .int v22), (6, .int ch), (4, .int v20), (0, .ref (ad 469)), (1, .int x), (2, .int y), (3, .int z)]) F.1 F.2.1 d_Mo_walk_82 hl25 (by decide) rfl (fun ls38 hl38 => ?_)
                    clear hl25
                    refine lv_iload F.1 F.2.1 d_Mo_walk_84 (lv_at hl38 3 rfl) ?_
                    refine lv_aload_n F.1 F.2.1 d_Mo_walk_86 rfl (lv_at hl38 4 rfl) ?_
                    refine gf_Mo_20 F hW37 (by omega) mo1 d_Mo_walk_87 ?_
                    refine q_bipush F d_Mo_walk_90 (by decide) (fun v39 hv39 => ?_)
                    refine lv_iload F.1 F.2.1 d_Mo_walk_92 (lv_at hl38 2 rfl) ?_
                    refine q_imul F d_Mo_walk_94 (by rw [hv39]; omega) (fun v40 hv40 => ?_)
                    rw [hv39] at hv40
                    refine lv_iload F.1 F.2.1 d_Mo_walk_95 (lv_at hl38 0 rfl) ?_
                    refine q_iadd F d_Mo_walk_97 (by omega) (fun v41 hv41 => ?_)
                    refine q_iald F hW37 hV (by omega) ((40 * c) + d) (by omega) (by omega) d_Mo_walk_98 (fun v42 hv42 => ?_)
                    rw [hVf c d (by omega) (by omega)] at hv42
                    refine q_iadd F d_Mo_walk_99 (by omega) (fun v43 hv43 => ?_)
                    refine lv_istore (lv' := [(4, .int v43), (7, .int v37), (5, .int v22), (6, .int ch), (0, .ref (ad 469)), (1, .int x), (2, .int y), (3, .int z)]) F.1 F.2.1 d_Mo_walk_100 hl38 (by decide) rfl (fun ls44 hl44 => ?_)
                    clear hl38
                    refine lv_iload F.1 F.2.1 d_Mo_walk_102 (lv_at hl44 1 rfl) ?_
                    refine lv_istore (lv' := [(6, .int v37), (4, .int v43), (7, .int v37), (5, .int v22), (0, .ref (ad 469)), (1, .int x), (2, .int y), (3, .int z)]) F.1 F.2.1 d_Mo_walk_104 hl44 (by decide) rfl (fun ls45 hl45 => ?_)
                    clear hl44
                    refine q_iinc (lv' := fun v46 => [(5, .int v46), (6, .int v37), (4, .int v43), (7, .int v37), (0, .ref (ad 469)), (1, .int x), (2, .int y), (3, .int z)]) F d_Mo_walk_106 hl45 (k := 3) rfl (by decide) (by omega) (by decide) (fun _ => rfl) (fun v46 lsv46 hv46 hlv46 => ?_)
                    clear hl45
                    refine lv_goto (tgt := 61) F.1 F.2.1 d_Mo_walk_109 (by decide) ?_
                    exact ihi (i := i + 1) (v22 := v46) (ls24 := lsv46) (Hp := H37) (locsp := locs37) (ch := v37) (c := d) (v20 := v43) (hiv := by omega) (hib := by omega) (hWp := hW37) (hcv := hp37) (hcm := d1) (hph := by omega) (htb := by omega) (hsum := by rw [hwy] at hsum; simp only at hsum; omega) (hcnt := by rw [hwy] at hcnt; simp only at hcnt; omega) (hf := by omega) (hl25 := (lv_sub hlv46 [0, 1, 2, 4, 5, 6, 7] rfl))
            · exact absurd c19 (by omega)
          · refine q_iconst F d_Mo_walk_35 (by decide) (fun v47 hv47 => ?_)
            refine lv_goto (tgt := 40) F.1 F.2.1 d_Mo_walk_36 (by decide) ?_
            refine pf_Mo_57 F hW7 (by omega) mo1 d_Mo_walk_40 (fun H48 locs48 w48 hW48 hI48 hfr48 => ?_)
            replace mo1 := hI48
            refine lv_aload_n F.1 F.2.1 d_Mo_walk_43 rfl (lv_at hl 0 rfl) ?_
            refine gf_Mo_57 F hW48 (by omega) mo1 d_Mo_walk_44 ?_
            refine q_if_eq (tgt := 52) F d_Mo_walk_47 (by decide) (fun c49 => ?_) (fun c49 => ?_)
            · exact absurd c49 (by omega)
            · refine q_iconst F d_Mo_walk_50 (by decide) (fun v50 hv50 => ?_)
              exact q_iret F hr hlk hW48 ⟨2, X, ⟨rfl, Or.inr ⟨hbt, Or.inl ⟨rfl, fun q => by have q1 := q.2.2.1; have q2 := q.2.2.2; omega⟩⟩⟩, ⟨⟨_, n32, b32, s32, p32, mo1, hv47, hn, hbb, hs, hpp⟩, hR.keep (fun q _ _ => hfr48 q (by omega))⟩, fun q hq => (hfr48 q (by omega)).trans (hf0 q (by omega))⟩ d_Mo_walk_51
  · have hnb := qb_f hqb (by omega)
    have ht2 : t1.toInt = 1 := by rcases ht1 with z | z; exact absurd z.1 hnb; exact z.2
    refine q_iconst F d_Mo_walk_7 (by decide) (fun v51 hv51 => ?_)
    exact q_iret F hr hlk hW1 ⟨1, X, ⟨rfl, Or.inl ⟨rfl, hnb⟩⟩, ⟨⟨_, n32, b32, s32, p32, mo1, by omega, hn, hbb, hs, hpp⟩, hR.keep (fun q _ _ => hfr1 q (by omega))⟩, fun q hq => hfr1 q (by omega)⟩ d_Mo_walk_8
