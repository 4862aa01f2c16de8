/-! the first state -/
def zX0 : zSt := (1, fun _ _ => -1, fun _ _ => 0, fun _ _ => 0, False, fun _ _ => 0, fun _ _ => 0, fun _ _ => 0, fun _ => False, 0, 0, fun _ => 0, fun _ => 0, fun _ => 0)
theorem zOK_0 : zOK zX0 0 := ⟨Nat.le_refl 1, (by decide : 1 ≤ 40), zn_new 1, fun q => absurd q id, rfl, fun q => absurd q (by show ¬ 0 < 0; omega), fun k hk => absurd hk (by show ¬ k < 0; omega), Nat.zero_le _⟩
set_option maxHeartbeats 4000000 in
set_option maxRecDepth 100000 in
theorem k_Sc_init (l : Launch) (D : va_G) (τ : Nat → ClassId) (A : Nat → Prop) (ad : Nat → Nat) (w : Nat → va_E) (a : Nat) (ha : ad (84) = a) (hw : w (84) = .inr (4, [.null, .null, .null, .null, .null])) : Met l y_Sc_init (qws y_Sc_init c_Sc_init 1 none) ({ frames := 3, cells := 378, slots := 11660, locals := 65 }) (qPn D τ A ad (85) w [.ref a]) (va_Qv (fun x => (∀ q, q ≤ 84 → x.1 q = ad q) ∧ (∀ q, q < 84 → x.2 q = w q) ∧ qRb (84) (463) (fun ad w => qSh τ ad w) x) (qBn D τ A (463)) A) 378 11660 A := by
  refine qn_of (by decide) (Nat.le_of_ble_eq_true rfl) rfl ?_
  intro PP EE s MM below meth CC ls F hr hlk hnm hl hW hst hao
  have hl : lv_has ls 1 [(0, .ref a)] := hl
  have hA0 := ha
  have ho := hw
  have hfr : ∀ q, q < 84 → ad q = ad q ∧ w q = w q := fun _ _ => ⟨rfl, rfl⟩
  refine lv_aload_n F.1 F.2.1 d_Sc_init_0 rfl (lv_at hl 0 rfl) ?_
  refine q_obj F tw_58 hl.1 d_Sc_init_1 (Nat.le_of_ble_eq_true rfl) (Nat.le_of_ble_eq_true rfl) ?_
  refine lv_aload_n F.1 F.2.1 d_Sc_init_4 rfl (lv_at hl 0 rfl) ?_
  refine q_new F hW (C := R_Ne) (T := F_Ne) (n := 3) (ci := 2) (fs := [.null, .null, .int 0]) rfl uw_Ne t_Ne t_Ne_ok tw_59 tw_28 tw_2 df_Ne (Nat.le_of_ble_eq_true rfl) (Nat.le_of_ble_eq_true rfl) d_Sc_init_5 (fun q1 ad1 w1 H1 he1 ha1 hI1 hW1 => ?_)
  replace hW1 : qW D τ A s H1 ([] : List Loc) ad1 (86) w1 := hW1
  replace ho := (he1 84 (by omega)).2.trans ho
  replace hA0 := (he1 (84) (by omega)).1.trans hA0
  replace hfr := fun q (hq : q < 84) => And.intro ((he1 q (by omega)).1.trans (hfr q hq).1) ((he1 q (by omega)).2.trans (hfr q hq).2)
  refine lv_dup F.1 F.2.1 d_Sc_init_8 rfl ?_
  refine q_callN hW1 (qn_cI (As := []) (rest := [.ref q1, .ref a]) F hW1 hst hao tw_60 tw_30 tw_2 tw_31 rfl hs_Ne_init (k_Ne_init l D τ A ad1 w1 85 q1 ha1 hI1 ) rfl rfl ⟨by decide, by decide⟩ rfl hl.1 rfl (Nat.le_of_ble_eq_true rfl) d_Sc_init_9 ⟨Nat.le_of_ble_eq_true rfl, Nat.le_of_ble_eq_true rfl⟩) (fun ad2 w2 H2 locs2 hp2 hW2 => ?_)
  obtain ⟨g12, g22, hNet⟩ := hp2
  replace g12 : ∀ q, q ≤ 85 → ad2 q = ad1 q := g12
  have he2 : ∀ q, q < 85 → ad2 q = ad1 q ∧ w2 q = w1 q := fun q hq => ⟨g12 q (by omega), g22 q hq⟩
  replace ha1 := (g12 (85) (by omega)).trans ha1
  replace ho := (he2 84 (by omega)).2.trans ho
  replace hA0 := (he2 (84) (by omega)).1.trans hA0
  replace hfr := fun q (hq : q < 84) => And.intro ((he2 q (by omega)).1.trans (hfr q hq).1) ((he2 q (by omega)).2.trans (hfr q hq).2)
  refine q_ad1 hA0 (pf_Sc_12 F hW2 hnm (by omega) ho d_Sc_init_12 (fun H3 locs3 w3 hW3 hI3 hq3 => ?_))
  replace ho := hI3
  replace hNet := hNet.move (fun q hq => ⟨rfl, fun _ => hq3 q (by omega)⟩)
  replace hfr := fun q (hq : q < 84) => And.intro (hfr q hq).1 ((hq3 q (by omega)).trans (hfr q hq).2)
  refine lv_aload_n F.1 F.2.1 d_Sc_init_15 rfl (lv_at hl 0 rfl) ?_
  refine q_new F hW3 (C := R_Wa) (T := F_Wa) (n := 3) (ci := 5) (fs := [.null, .null, .null]) rfl uw_Wa t_Wa t_Wa_ok tw_61 tw_62 tw_5 df_Wa (Nat.le_of_ble_eq_true rfl) (Nat.le_of_ble_eq_true rfl) d_Sc_init_16 (fun q4 ad4 w4 H4 he4 ha4 hI4 hW4 => ?_)
  replace hW4 : qW D τ A s H4 locs3 ad4 (169) w4 := hW4
  replace ho := (he4 84 (by omega)).2.trans ho
  replace hA0 := (he4 (84) (by omega)).1.trans hA0
  replace ha1 := (he4 (85) (by omega)).1.trans ha1
  replace hNet := hNet.move (fun q hq => ⟨(he4 q (by omega)).1, fun _ => (he4 q (by omega)).2⟩)
  replace hfr := fun q (hq : q < 84) => And.intro ((he4 q (by omega)).1.trans (hfr q hq).1) ((he4 q (by omega)).2.trans (hfr q hq).2)
  refine lv_dup F.1 F.2.1 d_Sc_init_19 rfl ?_
  refine lv_aload_n F.1 F.2.1 d_Sc_init_20 rfl (lv_at hl 0 rfl) ?_
  refine q_ad0 hA0 (gf_Sc_12 F hW4 (by omega) ho d_Sc_init_21 ?_)
  refine q_callN hW4 (qn_cI (As := [.ref q1]) (rest := [.ref q4, .ref a]) F hW4 hst hao tw_63 tw_64 tw_5 tw_65 rfl hs_Wa_init (k_Wa_init l D τ A ad4 w4 q4 ha4 hI4 q1) rfl rfl ⟨by decide, by decide⟩ rfl hl.1 rfl (Nat.le_of_ble_eq_true rfl) d_Sc_init_24 ⟨Nat.le_of_ble_eq_true rfl, Nat.le_of_ble_eq_true rfl⟩) (fun ad5 w5 H5 locs5 hp5 hW5 => ?_)
  obtain ⟨g15, g25, hWay⟩ := hp5
  replace g15 : ∀ q, q ≤ 168 → ad5 q = ad4 q := g15
  have he5 : ∀ q, q < 168 → ad5 q = ad4 q ∧ w5 q = w4 q := fun q hq => ⟨g15 q (by omega), g25 q hq⟩
  replace ha4 := (g15 (168) (by omega)).trans ha4
  replace ho := (he5 84 (by omega)).2.trans ho
  replace hA0 := (he5 (84) (by omega)).1.trans hA0
  replace ha1 := (he5 (85) (by omega)).1.trans ha1
  replace hNet := hNet.move (fun q hq => ⟨(he5 q (by omega)).1, fun _ => (he5 q (by omega)).2⟩)
  replace hfr := fun q (hq : q < 84) => And.intro ((he5 q (by omega)).1.trans (hfr q hq).1) ((he5 q (by omega)).2.trans (hfr q hq).2)
  refine q_ad1 hA0 (pf_Sc_23 F hW5 hnm (by omega) ho d_Sc_init_27 (fun H6 locs6 w6 hW6 hI6 hq6 => ?_))
  replace ho := hI6
  replace hNet := hNet.move (fun q hq => ⟨rfl, fun _ => hq6 q (by omega)⟩)
  replace hWay := hWay.move (fun q hq => ⟨rfl, fun _ => hq6 q (by omega)⟩)
  replace hfr := fun q (hq : q < 84) => And.intro (hfr q hq).1 ((hq6 q (by omega)).trans (hfr q hq).2)
  refine lv_aload_n F.1 F.2.1 d_Sc_init_30 rfl (lv_at hl 0 rfl) ?_
  refine q_new F hW6 (C := R_La) (T := F_La) (n := 7) (ci := 1) (fs := [.null, .null, .null, .null, .null, .null, .long 0]) rfl uw_La t_La t_La_ok tw_78 tw_79 tw_6 df_La (Nat.le_of_ble_eq_true rfl) (Nat.le_of_ble_eq_true rfl) d_Sc_init_31 (fun q7 ad7 w7 H7 he7 ha7 hI7 hW7 => ?_)
  replace hW7 : qW D τ A s H7 locs6 ad7 (252) w7 := hW7
  replace ho := (he7 84 (by omega)).2.trans ho
  replace hA0 := (he7 (84) (by omega)).1.trans hA0
  replace ha1 := (he7 (85) (by omega)).1.trans ha1
  replace ha4 := (he7 (168) (by omega)).1.trans ha4
  replace hNet := hNet.move (fun q hq => ⟨(he7 q (by omega)).1, fun _ => (he7 q (by omega)).2⟩)
  replace hWay := hWay.move (fun q hq => ⟨(he7 q (by omega)).1, fun _ => (he7 q (by omega)).2⟩)
  replace hfr := fun q (hq : q < 84) => And.intro ((he7 q (by omega)).1.trans (hfr q hq).1) ((he7 q (by omega)).2.trans (hfr q hq).2)
  refine lv_dup F.1 F.2.1 d_Sc_init_34 rfl ?_
  refine lv_aload_n F.1 F.2.1 d_Sc_init_35 rfl (lv_at hl 0 rfl) ?_
  refine q_ad0 hA0 (gf_Sc_12 F hW7 (by omega) ho d_Sc_init_36 ?_)
  refine lv_aload_n F.1 F.2.1 d_Sc_init_39 rfl (lv_at hl 0 rfl) ?_
  refine q_ad0 hA0 (gf_Sc_23 F hW7 (by omega) ho d_Sc_init_40 ?_)
  refine q_callN hW7 (qn_cI (As := [.ref q1, .ref q4]) (rest := [.ref q7, .ref a]) F hW7 hst hao tw_80 tw_81 tw_6 tw_82 rfl hs_La_init (k_La_init l D τ A ad7 w7 q7 ha7 hI7 q1 q4) rfl rfl ⟨by decide, by decide⟩ rfl hl.1 rfl (Nat.le_of_ble_eq_true rfl) d_Sc_init_43 ⟨Nat.le_of_ble_eq_true rfl, Nat.le_of_ble_eq_true rfl⟩) (fun ad8 w8 H8 locs8 hp8 hW8 => ?_)
  obtain ⟨g18, g28, hLan⟩ := hp8
  replace g18 : ∀ q, q ≤ 251 → ad8 q = ad7 q := g18
  have he8 : ∀ q, q < 251 → ad8 q = ad7 q ∧ w8 q = w7 q := fun q hq => ⟨g18 q (by omega), g28 q hq⟩
  replace ha7 := (g18 (251) (by omega)).trans ha7
  replace ho := (he8 84 (by omega)).2.trans ho
  replace hA0 := (he8 (84) (by omega)).1.trans hA0
  replace ha1 := (he8 (85) (by omega)).1.trans ha1
  replace ha4 := (he8 (168) (by omega)).1.trans ha4
  replace hNet := hNet.move (fun q hq => ⟨(he8 q (by omega)).1, fun _ => (he8 q (by omega)).2⟩)
  replace hWay := hWay.move (fun q hq => ⟨(he8 q (by omega)).1, fun _ => (he8 q (by omega)).2⟩)
  replace hfr := fun q (hq : q < 84) => And.intro ((he8 q (by omega)).1.trans (hfr q hq).1) ((he8 q (by omega)).2.trans (hfr q hq).2)
  refine q_ad1 hA0 (pf_Sc_32 F hW8 hnm (by omega) ho d_Sc_init_46 (fun H9 locs9 w9 hW9 hI9 hq9 => ?_))
  replace ho := hI9
  replace hNet := hNet.move (fun q hq => ⟨rfl, fun _ => hq9 q (by omega)⟩)
  replace hWay := hWay.move (fun q hq => ⟨rfl, fun _ => hq9 q (by omega)⟩)
  replace hLan := hLan.move (fun q hq => ⟨rfl, fun _ => hq9 q (by omega)⟩)
  replace hfr := fun q (hq : q < 84) => And.intro (hfr q hq).1 ((hq9 q (by omega)).trans (hfr q hq).2)
  refine lv_aload_n F.1 F.2.1 d_Sc_init_49 rfl (lv_at hl 0 rfl) ?_
  refine q_new F hW9 (C := R_Fo) (T := F_Fo) (n := 7) (ci := 0) (fs := [.null, .null, .null, .null, .null, .null, .null]) rfl uw_Fo t_Fo t_Fo_ok tw_107 tw_108 tw_7 df_Fo (Nat.le_of_ble_eq_true rfl) (Nat.le_of_ble_eq_true rfl) d_Sc_init_50 (fun q10 ad10 w10 H10 he10 ha10 hI10 hW10 => ?_)
  replace hW10 : qW D τ A s H10 locs9 ad10 (257) w10 := hW10
  replace ho := (he10 84 (by omega)).2.trans ho
  replace hA0 := (he10 (84) (by omega)).1.trans hA0
  replace ha1 := (he10 (85) (by omega)).1.trans ha1
  replace ha4 := (he10 (168) (by omega)).1.trans ha4
  replace ha7 := (he10 (251) (by omega)).1.trans ha7
  replace hNet := hNet.move (fun q hq => ⟨(he10 q (by omega)).1, fun _ => (he10 q (by omega)).2⟩)
  replace hWay := hWay.move (fun q hq => ⟨(he10 q (by omega)).1, fun _ => (he10 q (by omega)).2⟩)
  replace hLan := hLan.move (fun q hq => ⟨(he10 q (by omega)).1, fun _ => (he10 q (by omega)).2⟩)
  replace hfr := fun q (hq : q < 84) => And.intro ((he10 q (by omega)).1.trans (hfr q hq).1) ((he10 q (by omega)).2.trans (hfr q hq).2)
  refine lv_dup F.1 F.2.1 d_Sc_init_53 rfl ?_
  refine lv_aload_n F.1 F.2.1 d_Sc_init_54 rfl (lv_at hl 0 rfl) ?_
  refine q_ad0 hA0 (gf_Sc_12 F hW10 (by omega) ho d_Sc_init_55 ?_)
  refine lv_aload_n F.1 F.2.1 d_Sc_init_58 rfl (lv_at hl 0 rfl) ?_
  refine q_ad0 hA0 (gf_Sc_23 F hW10 (by omega) ho d_Sc_init_59 ?_)
  refine q_callN hW10 (qn_cI (As := [.ref q1, .ref q4]) (rest := [.ref q10, .ref a]) F hW10 hst hao tw_109 tw_110 tw_7 tw_111 rfl hs_Fo_init (k_Fo_init l D τ A ad10 w10 q10 ha10 hI10 q1 q4) rfl rfl ⟨by decide, by decide⟩ rfl hl.1 rfl (Nat.le_of_ble_eq_true rfl) d_Sc_init_62 ⟨Nat.le_of_ble_eq_true rfl, Nat.le_of_ble_eq_true rfl⟩) (fun ad11 w11 H11 locs11 hp11 hW11 => ?_)
  obtain ⟨g111, g211, hFor⟩ := hp11
  replace g111 : ∀ q, q ≤ 256 → ad11 q = ad10 q := g111
  have he11 : ∀ q, q < 256 → ad11 q = ad10 q ∧ w11 q = w10 q := fun q hq => ⟨g111 q (by omega), g211 q hq⟩
  replace ha10 := (g111 (256) (by omega)).trans ha10
  replace ho := (he11 84 (by omega)).2.trans ho
  replace hA0 := (he11 (84) (by omega)).1.trans hA0
  replace ha1 := (he11 (85) (by omega)).1.trans ha1
  replace ha4 := (he11 (168) (by omega)).1.trans ha4
  replace ha7 := (he11 (251) (by omega)).1.trans ha7
  replace hNet := hNet.move (fun q hq => ⟨(he11 q (by omega)).1, fun _ => (he11 q (by omega)).2⟩)
  replace hWay := hWay.move (fun q hq => ⟨(he11 q (by omega)).1, fun _ => (he11 q (by omega)).2⟩)
  replace hLan := hLan.move (fun q hq => ⟨(he11 q (by omega)).1, fun _ => (he11 q (by omega)).2⟩)
  replace hfr := fun q (hq : q < 84) => And.intro ((he11 q (by omega)).1.trans (hfr q hq).1) ((he11 q (by omega)).2.trans (hfr q hq).2)
  refine q_ad1 hA0 (pf_Sc_39 F hW11 hnm (by omega) ho d_Sc_init_65 (fun H12 locs12 w12 hW12 hI12 hq12 => ?_))
  replace ho := hI12
  replace hNet := hNet.move (fun q hq => ⟨rfl, fun _ => hq12 q (by omega)⟩)
  replace hWay := hWay.move (fun q hq => ⟨rfl, fun _ => hq12 q (by omega)⟩)
  replace hLan := hLan.move (fun q hq => ⟨rfl, fun _ => hq12 q (by omega)⟩)
  replace hFor := hFor.move (fun q hq => ⟨rfl, fun _ => hq12 q (by omega)⟩)
  replace hfr := fun q (hq : q < 84) => And.intro (hfr q hq).1 ((hq12 q (by omega)).trans (hfr q hq).2)
  refine lv_aload_n F.1 F.2.1 d_Sc_init_68 rfl (lv_at hl 0 rfl) ?_
  refine q_bipush F d_Sc_init_69 (by decide) (fun v13 hv13 => ?_)
  refine q_iconst F d_Sc_init_71 (by decide) (fun v14 hv14 => ?_)
  refine q_mna F hW12 hao tw_136 40 5 (by omega) (by omega) (by omega) (by omega) (Nat.le_of_ble_eq_true rfl) (Nat.le_of_ble_eq_true rfl) d_Sc_init_72 (fun q15 ad15 w15 H15 he15 ha15 hI15 hW15 => ?_)
  replace hW15 : qW D τ A s H15 locs12 ad15 (463) w15 := hW15
  replace ho := (he15 84 (by omega)).2.trans ho
  replace hA0 := (he15 (84) (by omega)).1.trans hA0
  replace ha1 := (he15 (85) (by omega)).1.trans ha1
  replace ha4 := (he15 (168) (by omega)).1.trans ha4
  replace ha7 := (he15 (251) (by omega)).1.trans ha7
  replace ha10 := (he15 (256) (by omega)).1.trans ha10
  replace hNet := hNet.move (fun q hq => ⟨(he15 q (by omega)).1, fun _ => (he15 q (by omega)).2⟩)
  replace hWay := hWay.move (fun q hq => ⟨(he15 q (by omega)).1, fun _ => (he15 q (by omega)).2⟩)
  replace hLan := hLan.move (fun q hq => ⟨(he15 q (by omega)).1, fun _ => (he15 q (by omega)).2⟩)
  replace hFor := hFor.move (fun q hq => ⟨(he15 q (by omega)).1, fun _ => (he15 q (by omega)).2⟩)
  replace hfr := fun q (hq : q < 84) => And.intro ((he15 q (by omega)).1.trans (hfr q hq).1) ((he15 q (by omega)).2.trans (hfr q hq).2)
  replace hI15 := qRb.G hI15
  refine q_ad1 hA0 (pf_Sc_45 F hW15 hnm (by omega) ho d_Sc_init_76 (fun H16 locs16 w16 hW16 hI16 hq16 => ?_))
  replace ho := hI16
  replace hNet := hNet.move (fun q hq => ⟨rfl, fun _ => hq16 q (by omega)⟩)
  replace hWay := hWay.move (fun q hq => ⟨rfl, fun _ => hq16 q (by omega)⟩)
  replace hLan := hLan.move (fun q hq => ⟨rfl, fun _ => hq16 q (by omega)⟩)
  replace hFor := hFor.move (fun q hq => ⟨rfl, fun _ => hq16 q (by omega)⟩)
  replace hI15 := hI15.move (fun q hq => ⟨rfl, fun _ => hq16 q (by omega)⟩)
  replace hfr := fun q (hq : q < 84) => And.intro (hfr q hq).1 ((hq16 q (by omega)).trans (hfr q hq).2)
  exact W.widen (Nat.le_of_ble_eq_true rfl) (Nat.le_of_ble_eq_true rfl) (q_vretN F hr hlk hW16 ⟨fun q hq => (Nat.lt_or_ge q (84)).elim (fun h => (hfr q h).1) (fun h => by rw [show q = 84 by omega]; exact hA0.trans ha.symm), fun q hq => (hfr q hq).2, (by
        intro ad' w' g
        replace g : ∀ q, q < 463 → ad' q = ad15 q ∧ (84 ≤ q → w' q = w16 q) := g
        have e85 : ad' 85 = _ := (g 85 (by omega)).1.trans ha1
        have e168 : ad' 168 = _ := (g 168 (by omega)).1.trans ha4
        have u0 := (hNet ad' w' (fun q hq => ⟨(g q (by omega)).1, fun hl => (g q (by omega)).2 (by omega)⟩))
        obtain ⟨u1, u2, u3⟩ := (hWay ad' w' (fun q hq => ⟨(g q (by omega)).1, fun hl => (g q (by omega)).2 (by omega)⟩))
        obtain ⟨u4, u5, u6, u7, u8⟩ := (hLan ad' w' (fun q hq => ⟨(g q (by omega)).1, fun hl => (g q (by omega)).2 (by omega)⟩))
        obtain ⟨v1, v2, v3, v4, v5, v6⟩ := (hFor ad' w' (fun q hq => ⟨(g q (by omega)).1, fun hl => (g q (by omega)).2 (by omega)⟩))
        rw [← e85] at u1 u4 v1
        rw [← e168] at u4 v1
        exact ⟨by rw [(g 84 (by omega)).2 (by omega), (g 85 (by omega)).1, (g 168 (by omega)).1, (g 251 (by omega)).1, (g 256 (by omega)).1, (g 422 (by omega)).1, ha1, ha4, ha7, ha10, ha15]; exact ho, ⟨_, _, _, u0⟩, u1, u2, u3, ⟨_, _, _, _, _, u4, u5, u6, u7, u8⟩, ⟨_, _, _, _, _, v1, v2, v3, v4, v5, v6⟩, ⟨_, (hI15 ad' w' (fun q hq => ⟨(g q (by omega)).1, fun hl => (g q (by omega)).2 (by omega)⟩))⟩⟩)⟩ d_Sc_init_79)
set_option maxHeartbeats 4000000 in
set_option maxRecDepth 100000 in
theorem k_LR_init (l : Launch) (D : va_G) (τ : Nat → ClassId) (A : Nat → Prop) (ad : Nat → Nat) (w : Nat → va_E) (a : Nat) (ha : ad (0) = a) (hw : w (0) = .inr (6, [.null, .null, .null, .null, .null, .int 0])) : Met l y_LR_init (qws y_LR_init c_LR_init 1 none) ({ frames := 4, cells := 468, slots := 13161, locals := 85 }) (qPn D τ A ad (1) w [.ref a]) (va_Qv (fun x => (∀ q, q ≤ 0 → x.1 q = ad q) ∧ (∀ q, q < 0 → x.2 q = w q) ∧ qRb (0) (469) (fun ad w => qLR τ ad w zX0) x) (qBn D τ A (469)) A) 468 13161 A := by
  refine qn_of (by decide) (Nat.le_of_ble_eq_true rfl) rfl ?_
  intro PP EE s MM below meth CC ls F hr hlk hnm hl hW hst hao
  have hl : lv_has ls 1 [(0, .ref a)] := hl
  have hA0 := ha
  have ho := hw
  have hfr : ∀ q, q < 0 → ad q = ad q ∧ w q = w q := fun _ _ => ⟨rfl, rfl⟩
  refine lv_aload_n F.1 F.2.1 d_LR_init_0 rfl (lv_at hl 0 rfl) ?_
  refine q_obj F tw_24 hl.1 d_LR_init_1 (Nat.le_of_ble_eq_true rfl) (Nat.le_of_ble_eq_true rfl) ?_
  refine lv_aload_n F.1 F.2.1 d_LR_init_4 rfl (lv_at hl 0 rfl) ?_
  refine q_new F hW (C := R_Ne) (T := F_Ne) (n := 3) (ci := 2) (fs := [.null, .null, .int 0]) rfl uw_Ne t_Ne t_Ne_ok tw_27 tw_28 tw_2 df_Ne (Nat.le_of_ble_eq_true rfl) (Nat.le_of_ble_eq_true rfl) d_LR_init_5 (fun q1 ad1 w1 H1 he1 ha1 hI1 hW1 => ?_)
  replace hW1 : qW D τ A s H1 ([] : List Loc) ad1 (2) w1 := hW1
  replace ho := (he1 0 (by omega)).2.trans ho
  replace hA0 := (he1 (0) (by omega)).1.trans hA0
  replace hfr := fun q (hq : q < 0) => And.intro ((he1 q (by omega)).1.trans (hfr q hq).1) ((he1 q (by omega)).2.trans (hfr q hq).2)
  refine lv_dup F.1 F.2.1 d_LR_init_8 rfl ?_
  refine q_callN hW1 (qn_cI (As := []) (rest := [.ref q1, .ref a]) F hW1 hst hao tw_29 tw_30 tw_2 tw_31 rfl hs_Ne_init (k_Ne_init l D τ A ad1 w1 1 q1 ha1 hI1) rfl rfl ⟨by decide, by decide⟩ rfl hl.1 rfl (Nat.le_of_ble_eq_true rfl) d_LR_init_9 ⟨Nat.le_of_ble_eq_true rfl, Nat.le_of_ble_eq_true rfl⟩) (fun ad2 w2 H2 locs2 hp2 hW2 => ?_)
  obtain ⟨g12, g22, hNet⟩ := hp2
  replace g12 : ∀ q, q ≤ 1 → ad2 q = ad1 q := g12
  have he2 : ∀ q, q < 1 → ad2 q = ad1 q ∧ w2 q = w1 q := fun q hq => ⟨g12 q (by omega), g22 q hq⟩
  replace ha1 := (g12 (1) (by omega)).trans ha1
  replace ho := (he2 0 (by omega)).2.trans ho
  replace hA0 := (he2 (0) (by omega)).1.trans hA0
  replace hfr := fun q (hq : q < 0) => And.intro ((he2 q (by omega)).1.trans (hfr q hq).1) ((he2 q (by omega)).2.trans (hfr q hq).2)
  refine q_ad1 hA0 (pf_LR_10 F hW2 hnm (by omega) ho d_LR_init_12 (fun H3 locs3 w3 hW3 hI3 hq3 => ?_))
  replace ho := hI3
  replace hNet := hNet.move (fun q hq => ⟨rfl, fun _ => hq3 q (by omega)⟩)
  replace hfr := fun q (hq : q < 0) => And.intro (hfr q hq).1 ((hq3 q (by omega)).trans (hfr q hq).2)
  refine lv_aload_n F.1 F.2.1 d_LR_init_15 rfl (lv_at hl 0 rfl) ?_
  refine q_new F hW3 (C := R_Sc) (T := F_Sc) (n := 5) (ci := 4) (fs := [.null, .null, .null, .null, .null]) rfl uw_Sc t_Sc t_Sc_ok tw_53 tw_54 tw_4 df_Sc (Nat.le_of_ble_eq_true rfl) (Nat.le_of_ble_eq_true rfl) d_LR_init_16 (fun q4 ad4 w4 H4 he4 ha4 hI4 hW4 => ?_)
  replace hW4 : qW D τ A s H4 locs3 ad4 (85) w4 := hW4
  replace ho := (he4 0 (by omega)).2.trans ho
  replace hA0 := (he4 (0) (by omega)).1.trans hA0
  replace ha1 := (he4 (1) (by omega)).1.trans ha1
  replace hNet := hNet.move (fun q hq => ⟨(he4 q (by omega)).1, fun _ => (he4 q (by omega)).2⟩)
  replace hfr := fun q (hq : q < 0) => And.intro ((he4 q (by omega)).1.trans (hfr q hq).1) ((he4 q (by omega)).2.trans (hfr q hq).2)
  refine lv_dup F.1 F.2.1 d_LR_init_19 rfl ?_
  refine q_callN hW4 (qn_cIN (host := "LabelRouter") (As := []) (rest := [.ref q4, .ref a]) F hW4 hst hao (hst.2.2.1 _ (by decide +kernel)) tw_56 tw_4 tw_57 rfl hs_Sc_init (k_Sc_init l D τ A ad4 w4 q4 ha4 hI4) rfl rfl ⟨by decide, by decide⟩ rfl hl.1 rfl (Nat.le_of_ble_eq_true rfl) d_LR_init_20 ⟨Nat.le_of_ble_eq_true rfl, Nat.le_of_ble_eq_true rfl⟩) (fun ad5 w5 H5 locs5 hp5 hW5 => ?_)
  obtain ⟨g15, g25, hSh⟩ := hp5
  replace g15 : ∀ q, q ≤ 84 → ad5 q = ad4 q := g15
  have he5 : ∀ q, q < 84 → ad5 q = ad4 q ∧ w5 q = w4 q := fun q hq => ⟨g15 q (by omega), g25 q hq⟩
  replace ha4 := (g15 (84) (by omega)).trans ha4
  replace ho := (he5 0 (by omega)).2.trans ho
  replace hA0 := (he5 (0) (by omega)).1.trans hA0
  replace ha1 := (he5 (1) (by omega)).1.trans ha1
  replace hNet := hNet.move (fun q hq => ⟨(he5 q (by omega)).1, fun _ => (he5 q (by omega)).2⟩)
  replace hfr := fun q (hq : q < 0) => And.intro ((he5 q (by omega)).1.trans (hfr q hq).1) ((he5 q (by omega)).2.trans (hfr q hq).2)
  refine q_ad1 hA0 (pf_LR_19 F hW5 hnm (by omega) ho d_LR_init_23 (fun H6 locs6 w6 hW6 hI6 hq6 => ?_))
  replace ho := hI6
  replace hNet := hNet.move (fun q hq => ⟨rfl, fun _ => hq6 q (by omega)⟩)
  replace hSh := hSh.move (fun q hq => ⟨rfl, fun _ => hq6 q (by omega)⟩)
  replace hfr := fun q (hq : q < 0) => And.intro (hfr q hq).1 ((hq6 q (by omega)).trans (hfr q hq).2)
  refine lv_aload_n F.1 F.2.1 d_LR_init_26 rfl (lv_at hl 0 rfl) ?_
  refine q_new F hW6 (C := R_Pa) (T := F_Pa) (n := 5) (ci := 3) (fs := [.null, .null, .null, .int 0, .int 0]) rfl uw_Pa t_Pa t_Pa_ok tw_155 tw_156 tw_8 df_Pa (Nat.le_of_ble_eq_true rfl) (Nat.le_of_ble_eq_true rfl) d_LR_init_27 (fun q7 ad7 w7 H7 he7 ha7 hI7 hW7 => ?_)
  replace hW7 : qW D τ A s H7 locs6 ad7 (464) w7 := hW7
  replace ho := (he7 0 (by omega)).2.trans ho
  replace hA0 := (he7 (0) (by omega)).1.trans hA0
  replace ha1 := (he7 (1) (by omega)).1.trans ha1
  replace ha4 := (he7 (84) (by omega)).1.trans ha4
  replace hNet := hNet.move (fun q hq => ⟨(he7 q (by omega)).1, fun _ => (he7 q (by omega)).2⟩)
  replace hSh := hSh.move (fun q hq => ⟨(he7 q (by omega)).1, fun _ => (he7 q (by omega)).2⟩)
  replace hfr := fun q (hq : q < 0) => And.intro ((he7 q (by omega)).1.trans (hfr q hq).1) ((he7 q (by omega)).2.trans (hfr q hq).2)
  refine lv_dup F.1 F.2.1 d_LR_init_30 rfl ?_
  refine q_callN hW7 (qn_cIN (host := "LabelRouter") (As := []) (rest := [.ref q7, .ref a]) F hW7 hst hao (hst.2.2.1 _ (by decide +kernel)) tw_158 tw_8 tw_159 rfl hs_Pa_init (k_Pa_init l D τ A ad7 w7 q7 ha7 hI7) rfl rfl ⟨by decide, by decide⟩ rfl hl.1 rfl (Nat.le_of_ble_eq_true rfl) d_LR_init_31 ⟨Nat.le_of_ble_eq_true rfl, Nat.le_of_ble_eq_true rfl⟩) (fun ad8 w8 H8 locs8 hp8 hW8 => ?_)
  obtain ⟨g18, g28, hPac⟩ := hp8
  replace g18 : ∀ q, q ≤ 463 → ad8 q = ad7 q := g18
  have he8 : ∀ q, q < 463 → ad8 q = ad7 q ∧ w8 q = w7 q := fun q hq => ⟨g18 q (by omega), g28 q hq⟩
  replace ha7 := (g18 (463) (by omega)).trans ha7
  replace ho := (he8 0 (by omega)).2.trans ho
  replace hA0 := (he8 (0) (by omega)).1.trans hA0
  replace ha1 := (he8 (1) (by omega)).1.trans ha1
  replace ha4 := (he8 (84) (by omega)).1.trans ha4
  replace hNet := hNet.move (fun q hq => ⟨(he8 q (by omega)).1, fun _ => (he8 q (by omega)).2⟩)
  replace hSh := hSh.move (fun q hq => ⟨(he8 q (by omega)).1, fun _ => (he8 q (by omega)).2⟩)
  replace hfr := fun q (hq : q < 0) => And.intro ((he8 q (by omega)).1.trans (hfr q hq).1) ((he8 q (by omega)).2.trans (hfr q hq).2)
  refine q_ad1 hA0 (pf_LR_26 F hW8 hnm (by omega) ho d_LR_init_34 (fun H9 locs9 w9 hW9 hI9 hq9 => ?_))
  replace ho := hI9
  replace hNet := hNet.move (fun q hq => ⟨rfl, fun _ => hq9 q (by omega)⟩)
  replace hSh := hSh.move (fun q hq => ⟨rfl, fun _ => hq9 q (by omega)⟩)
  replace hPac := hPac.move (fun q hq => ⟨rfl, fun _ => hq9 q (by omega)⟩)
  replace hfr := fun q (hq : q < 0) => And.intro (hfr q hq).1 ((hq9 q (by omega)).trans (hfr q hq).2)
  refine lv_aload_n F.1 F.2.1 d_LR_init_37 rfl (lv_at hl 0 rfl) ?_
  refine q_bipush F d_LR_init_38 (by decide) (fun v10 hv10 => ?_)
  refine q_newI F hW9 40 (by omega) (by omega) (Nat.le_of_ble_eq_true rfl) (Nat.le_of_ble_eq_true rfl) d_LR_init_40 (fun q11 ad11 w11 H11 he11 ha11 hI11 hW11 => ?_)
  replace hW11 : qW D τ A s H11 locs9 ad11 (468) w11 := hW11
  replace ho := (he11 0 (by omega)).2.trans ho
  replace hA0 := (he11 (0) (by omega)).1.trans hA0
  replace ha1 := (he11 (1) (by omega)).1.trans ha1
  replace ha4 := (he11 (84) (by omega)).1.trans ha4
  replace ha7 := (he11 (463) (by omega)).1.trans ha7
  replace hNet := hNet.move (fun q hq => ⟨(he11 q (by omega)).1, fun _ => (he11 q (by omega)).2⟩)
  replace hSh := hSh.move (fun q hq => ⟨(he11 q (by omega)).1, fun _ => (he11 q (by omega)).2⟩)
  replace hPac := hPac.move (fun q hq => ⟨(he11 q (by omega)).1, fun _ => (he11 q (by omega)).2⟩)
  replace hfr := fun q (hq : q < 0) => And.intro ((he11 q (by omega)).1.trans (hfr q hq).1) ((he11 q (by omega)).2.trans (hfr q hq).2)
  replace hI11 := qRb.I (ad := ad11) hI11
  refine q_ad1 hA0 (pf_LR_30 F hW11 hnm (by omega) ho d_LR_init_42 (fun H12 locs12 w12 hW12 hI12 hq12 => ?_))
  replace ho := hI12
  replace hNet := hNet.move (fun q hq => ⟨rfl, fun _ => hq12 q (by omega)⟩)
  replace hSh := hSh.move (fun q hq => ⟨rfl, fun _ => hq12 q (by omega)⟩)
  replace hPac := hPac.move (fun q hq => ⟨rfl, fun _ => hq12 q (by omega)⟩)
  replace hI11 := hI11.move (fun q hq => ⟨rfl, fun _ => hq12 q (by omega)⟩)
  replace hfr := fun q (hq : q < 0) => And.intro (hfr q hq).1 ((hq12 q (by omega)).trans (hfr q hq).2)
  refine lv_aload_n F.1 F.2.1 d_LR_init_45 rfl (lv_at hl 0 rfl) ?_
  refine q_bipush F d_LR_init_46 (by decide) (fun v13 hv13 => ?_)
  refine q_newI F hW12 40 (by omega) (by omega) (Nat.le_of_ble_eq_true rfl) (Nat.le_of_ble_eq_true rfl) d_LR_init_48 (fun q14 ad14 w14 H14 he14 ha14 hI14 hW14 => ?_)
  replace hW14 : qW D τ A s H14 locs12 ad14 (469) w14 := hW14
  replace ho := (he14 0 (by omega)).2.trans ho
  replace hA0 := (he14 (0) (by omega)).1.trans hA0
  replace ha1 := (he14 (1) (by omega)).1.trans ha1
  replace ha4 := (he14 (84) (by omega)).1.trans ha4
  replace ha7 := (he14 (463) (by omega)).1.trans ha7
  replace ha11 := (he14 (467) (by omega)).1.trans ha11
  replace hNet := hNet.move (fun q hq => ⟨(he14 q (by omega)).1, fun _ => (he14 q (by omega)).2⟩)
  replace hSh := hSh.move (fun q hq => ⟨(he14 q (by omega)).1, fun _ => (he14 q (by omega)).2⟩)
  replace hPac := hPac.move (fun q hq => ⟨(he14 q (by omega)).1, fun _ => (he14 q (by omega)).2⟩)
  replace hI11 := hI11.move (fun q hq => ⟨(he14 q (by omega)).1, fun _ => (he14 q (by omega)).2⟩)
  replace hfr := fun q (hq : q < 0) => And.intro ((he14 q (by omega)).1.trans (hfr q hq).1) ((he14 q (by omega)).2.trans (hfr q hq).2)
  replace hI14 := qRb.I (ad := ad14) hI14
  refine q_ad1 hA0 (pf_LR_34 F hW14 hnm (by omega) ho d_LR_init_50 (fun H15 locs15 w15 hW15 hI15 hq15 => ?_))
  replace ho := hI15
  replace hNet := hNet.move (fun q hq => ⟨rfl, fun _ => hq15 q (by omega)⟩)
  replace hSh := hSh.move (fun q hq => ⟨rfl, fun _ => hq15 q (by omega)⟩)
  replace hPac := hPac.move (fun q hq => ⟨rfl, fun _ => hq15 q (by omega)⟩)
  replace hI11 := hI11.move (fun q hq => ⟨rfl, fun _ => hq15 q (by omega)⟩)
  replace hI14 := hI14.move (fun q hq => ⟨rfl, fun _ => hq15 q (by omega)⟩)
  replace hfr := fun q (hq : q < 0) => And.intro (hfr q hq).1 ((hq15 q (by omega)).trans (hfr q hq).2)
  refine lv_aload_n F.1 F.2.1 d_LR_init_53 rfl (lv_at hl 0 rfl) ?_
  refine q_iconst F d_LR_init_54 (by decide) (fun v16 hv16 => ?_)
  have hx0 : v16 = 0 := q_eqI.mpr (by rw [hv16]; rfl)
  refine q_ad1 hA0 (pf_LR_37 F hW15 (Or.inl hx0)  (by omega) ho d_LR_init_55 (fun H17 locs17 w17 hW17 hI17 hq17 => ?_))
  replace ho := hI17
  replace hNet := hNet.move (fun q hq => ⟨rfl, fun _ => hq17 q (by omega)⟩)
  replace hSh := hSh.move (fun q hq => ⟨rfl, fun _ => hq17 q (by omega)⟩)
  replace hPac := hPac.move (fun q hq => ⟨rfl, fun _ => hq17 q (by omega)⟩)
  replace hI11 := hI11.move (fun q hq => ⟨rfl, fun _ => hq17 q (by omega)⟩)
  replace hI14 := hI14.move (fun q hq => ⟨rfl, fun _ => hq17 q (by omega)⟩)
  replace hfr := fun q (hq : q < 0) => And.intro (hfr q hq).1 ((hq17 q (by omega)).trans (hfr q hq).2)
  exact W.widen (Nat.le_of_ble_eq_true rfl) (Nat.le_of_ble_eq_true rfl) (q_vretN F hr hlk hW17 ⟨fun q hq => (Nat.lt_or_ge q (0)).elim (fun h => (hfr q h).1) (fun h => by rw [show q = 0 by omega]; exact hA0.trans ha.symm), fun q hq => (hfr q hq).2, (by
        intro ad' w' g
        replace g : ∀ q, q < 469 → ad' q = ad14 q ∧ (0 ≤ q → w' q = w17 q) := g
        exact ⟨⟨v16, by rw [(g 0 (by omega)).2 (by omega), (g 1 (by omega)).1, (g 84 (by omega)).1, (g 463 (by omega)).1, (g 467 (by omega)).1, (g 468 (by omega)).1, ha1, ha4, ha7, ha11, ha14]; exact ho, Or.inr ⟨id, hx0⟩⟩, (hNet ad' w' (fun q hq => ⟨(g q (by omega)).1, fun hl => (g q (by omega)).2 (by omega)⟩)), (hSh ad' w' (fun q hq => ⟨(g q (by omega)).1, fun hl => (g q (by omega)).2 (by omega)⟩)), fun q => absurd q id, (hPac ad' w' (fun q hq => ⟨(g q (by omega)).1, fun hl => (g q (by omega)).2 (by omega)⟩)), ⟨_, (hI11 ad' w' (fun q hq => ⟨(g q (by omega)).1, fun hl => (g q (by omega)).2 (by omega)⟩))⟩, ⟨_, (hI14 ad' w' (fun q hq => ⟨(g q (by omega)).1, fun hl => (g q (by omega)).2 (by omega)⟩))⟩⟩)⟩ d_LR_init_58)
set_option maxHeartbeats 4000000 in
set_option maxRecDepth 100000 in
theorem k_Mo_init (l : Launch) (D : va_G) (τ : Nat → ClassId) (A : Nat → Prop) (ad : Nat → Nat) (w : Nat → va_E) (a : Nat) (ha : ad (469) = a) (hw : w (469) = .inr (7, [.int 0, .int 0, .null, .null, .null, .null, .null, .null, .int 0, .null, .null, .null, .null, .null, .int 0, .int 0, .null, .null, .null])) : Met l y_Mo_init (qws y_Mo_init c_Mo_init 2 none) ({ frames := 1, cells := 14, slots := 11048, locals := 20 }) (qPn D τ A ad (470) w [.ref a]) (va_Qv (fun x => (∀ q, q ≤ 469 → x.1 q = ad q) ∧ (∀ q, q < 469 → x.2 q = w q) ∧ qRb (469) (484) (fun ad w => qMo τ ad w zX0 0) x) (qBn D τ A (484)) A) 14 11048 A := by
  refine qn_of (by decide) (Nat.le_of_ble_eq_true rfl) rfl ?_
  intro PP EE s MM below meth CC ls F hr hlk hnm hl hW hst hao
  have hl : lv_has ls 2 [(0, .ref a)] := hl
  have hA0 := ha
  have ho := hw
  have hfr : ∀ q, q < 469 → ad q = ad q ∧ w q = w q := fun _ _ => ⟨rfl, rfl⟩
  refine lv_aload_n F.1 F.2.1 d_Mo_init_0 rfl (lv_at hl 0 rfl) ?_
  refine q_obj F tw_738 hl.1 d_Mo_init_1 (Nat.le_of_ble_eq_true rfl) (Nat.le_of_ble_eq_true rfl) ?_
  refine lv_aload_n F.1 F.2.1 d_Mo_init_4 rfl (lv_at hl 0 rfl) ?_
  refine q_iconst F d_Mo_init_5 (by decide) (fun v1 hv1 => ?_)
  refine q_ad1 hA0 (pf_Mo_7 F hW  (by omega) ho d_Mo_init_6 (fun H2 locs2 w2 hW2 hI2 hq2 => ?_))
  replace ho := hI2
  replace hfr := fun q (hq : q < 469) => And.intro (hfr q hq).1 ((hq2 q (by omega)).trans (hfr q hq).2)
  refine lv_aload_n F.1 F.2.1 d_Mo_init_9 rfl (lv_at hl 0 rfl) ?_
  refine q_sipush F d_Mo_init_10 (by decide) (fun v3 hv3 => ?_)
  refine q_newI F hW2 1600 (by omega) (by omega) (Nat.le_of_ble_eq_true rfl) (Nat.le_of_ble_eq_true rfl) d_Mo_init_13 (fun q4 ad4 w4 H4 he4 ha4 hI4 hW4 => ?_)
  replace hW4 : qW D τ A s H4 locs2 ad4 (471) w4 := hW4
  replace ho := (he4 469 (by omega)).2.trans ho
  replace hA0 := (he4 (469) (by omega)).1.trans hA0
  replace hfr := fun q (hq : q < 469) => And.intro ((he4 q (by omega)).1.trans (hfr q hq).1) ((he4 q (by omega)).2.trans (hfr q hq).2)
  replace hI4 := qRb.I (ad := ad4) hI4
  refine q_ad1 hA0 (pf_Mo_13 F hW4 hnm (by omega) ho d_Mo_init_15 (fun H5 locs5 w5 hW5 hI5 hq5 => ?_))
  replace ho := hI5
  replace hI4 := hI4.move (fun q hq => ⟨rfl, fun _ => hq5 q (by omega)⟩)
  replace hfr := fun q (hq : q < 469) => And.intro (hfr q hq).1 ((hq5 q (by omega)).trans (hfr q hq).2)
  refine lv_aload_n F.1 F.2.1 d_Mo_init_18 rfl (lv_at hl 0 rfl) ?_
  refine q_sipush F d_Mo_init_19 (by decide) (fun v6 hv6 => ?_)
  refine q_newI F hW5 640 (by omega) (by omega) (Nat.le_of_ble_eq_true rfl) (Nat.le_of_ble_eq_true rfl) d_Mo_init_22 (fun q7 ad7 w7 H7 he7 ha7 hI7 hW7 => ?_)
  replace hW7 : qW D τ A s H7 locs5 ad7 (472) w7 := hW7
  replace ho := (he7 469 (by omega)).2.trans ho
  replace hA0 := (he7 (469) (by omega)).1.trans hA0
  replace ha4 := (he7 (470) (by omega)).1.trans ha4
  replace hI4 := hI4.move (fun q hq => ⟨(he7 q (by omega)).1, fun _ => (he7 q (by omega)).2⟩)
  replace hfr := fun q (hq : q < 469) => And.intro ((he7 q (by omega)).1.trans (hfr q hq).1) ((he7 q (by omega)).2.trans (hfr q hq).2)
  replace hI7 := qRb.I (ad := ad7) hI7
  refine q_ad1 hA0 (pf_Mo_17 F hW7 hnm (by omega) ho d_Mo_init_24 (fun H8 locs8 w8 hW8 hI8 hq8 => ?_))
  replace ho := hI8
  replace hI4 := hI4.move (fun q hq => ⟨rfl, fun _ => hq8 q (by omega)⟩)
  replace hI7 := hI7.move (fun q hq => ⟨rfl, fun _ => hq8 q (by omega)⟩)
  replace hfr := fun q (hq : q < 469) => And.intro (hfr q hq).1 ((hq8 q (by omega)).trans (hfr q hq).2)
  refine lv_aload_n F.1 F.2.1 d_Mo_init_27 rfl (lv_at hl 0 rfl) ?_
  refine q_sipush F d_Mo_init_28 (by decide) (fun v9 hv9 => ?_)
  refine q_newI F hW8 1600 (by omega) (by omega) (Nat.le_of_ble_eq_true rfl) (Nat.le_of_ble_eq_true rfl) d_Mo_init_31 (fun q10 ad10 w10 H10 he10 ha10 hI10 hW10 => ?_)
  replace hW10 : qW D τ A s H10 locs8 ad10 (473) w10 := hW10
  replace ho := (he10 469 (by omega)).2.trans ho
  replace hA0 := (he10 (469) (by omega)).1.trans hA0
  replace ha4 := (he10 (470) (by omega)).1.trans ha4
  replace ha7 := (he10 (471) (by omega)).1.trans ha7
  replace hI4 := hI4.move (fun q hq => ⟨(he10 q (by omega)).1, fun _ => (he10 q (by omega)).2⟩)
  replace hI7 := hI7.move (fun q hq => ⟨(he10 q (by omega)).1, fun _ => (he10 q (by omega)).2⟩)
  replace hfr := fun q (hq : q < 469) => And.intro ((he10 q (by omega)).1.trans (hfr q hq).1) ((he10 q (by omega)).2.trans (hfr q hq).2)
  replace hI10 := qRb.I (ad := ad10) hI10
  refine q_ad1 hA0 (pf_Mo_20 F hW10 hnm (by omega) ho d_Mo_init_33 (fun H11 locs11 w11 hW11 hI11 hq11 => ?_))
  replace ho := hI11
  replace hI4 := hI4.move (fun q hq => ⟨rfl, fun _ => hq11 q (by omega)⟩)
  replace hI7 := hI7.move (fun q hq => ⟨rfl, fun _ => hq11 q (by omega)⟩)
  replace hI10 := hI10.move (fun q hq => ⟨rfl, fun _ => hq11 q (by omega)⟩)
  replace hfr := fun q (hq : q < 469) => And.intro (hfr q hq).1 ((hq11 q (by omega)).trans (hfr q hq).2)
  refine lv_aload_n F.1 F.2.1 d_Mo_init_36 rfl (lv_at hl 0 rfl) ?_
  refine q_sipush F d_Mo_init_37 (by decide) (fun v12 hv12 => ?_)
  refine q_newI F hW11 640 (by omega) (by omega) (Nat.le_of_ble_eq_true rfl) (Nat.le_of_ble_eq_true rfl) d_Mo_init_40 (fun q13 ad13 w13 H13 he13 ha13 hI13 hW13 => ?_)
  replace hW13 : qW D τ A s H13 locs11 ad13 (474) w13 := hW13
  replace ho := (he13 469 (by omega)).2.trans ho
  replace hA0 := (he13 (469) (by omega)).1.trans hA0
  replace ha4 := (he13 (470) (by omega)).1.trans ha4
  replace ha7 := (he13 (471) (by omega)).1.trans ha7
  replace ha10 := (he13 (472) (by omega)).1.trans ha10
  replace hI4 := hI4.move (fun q hq => ⟨(he13 q (by omega)).1, fun _ => (he13 q (by omega)).2⟩)
  replace hI7 := hI7.move (fun q hq => ⟨(he13 q (by omega)).1, fun _ => (he13 q (by omega)).2⟩)
  replace hI10 := hI10.move (fun q hq => ⟨(he13 q (by omega)).1, fun _ => (he13 q (by omega)).2⟩)
  replace hfr := fun q (hq : q < 469) => And.intro ((he13 q (by omega)).1.trans (hfr q hq).1) ((he13 q (by omega)).2.trans (hfr q hq).2)
  replace hI13 := qRb.I (ad := ad13) hI13
  refine q_ad1 hA0 (pf_Mo_23 F hW13 hnm (by omega) ho d_Mo_init_42 (fun H14 locs14 w14 hW14 hI14 hq14 => ?_))
  replace ho := hI14
  replace hI4 := hI4.move (fun q hq => ⟨rfl, fun _ => hq14 q (by omega)⟩)
  replace hI7 := hI7.move (fun q hq => ⟨rfl, fun _ => hq14 q (by omega)⟩)
  replace hI10 := hI10.move (fun q hq => ⟨rfl, fun _ => hq14 q (by omega)⟩)
  replace hI13 := hI13.move (fun q hq => ⟨rfl, fun _ => hq14 q (by omega)⟩)
  replace hfr := fun q (hq : q < 469) => And.intro (hfr q hq).1 ((hq14 q (by omega)).trans (hfr q hq).2)
  refine lv_aload_n F.1 F.2.1 d_Mo_init_45 rfl (lv_at hl 0 rfl) ?_
  refine q_sipush F d_Mo_init_46 (by decide) (fun v15 hv15 => ?_)
  refine q_newI F hW14 1600 (by omega) (by omega) (Nat.le_of_ble_eq_true rfl) (Nat.le_of_ble_eq_true rfl) d_Mo_init_49 (fun q16 ad16 w16 H16 he16 ha16 hI16 hW16 => ?_)
  replace hW16 : qW D τ A s H16 locs14 ad16 (475) w16 := hW16
  replace ho := (he16 469 (by omega)).2.trans ho
  replace hA0 := (he16 (469) (by omega)).1.trans hA0
  replace ha4 := (he16 (470) (by omega)).1.trans ha4
  replace ha7 := (he16 (471) (by omega)).1.trans ha7
  replace ha10 := (he16 (472) (by omega)).1.trans ha10
  replace ha13 := (he16 (473) (by omega)).1.trans ha13
  replace hI4 := hI4.move (fun q hq => ⟨(he16 q (by omega)).1, fun _ => (he16 q (by omega)).2⟩)
  replace hI7 := hI7.move (fun q hq => ⟨(he16 q (by omega)).1, fun _ => (he16 q (by omega)).2⟩)
  replace hI10 := hI10.move (fun q hq => ⟨(he16 q (by omega)).1, fun _ => (he16 q (by omega)).2⟩)
  replace hI13 := hI13.move (fun q hq => ⟨(he16 q (by omega)).1, fun _ => (he16 q (by omega)).2⟩)
  replace hfr := fun q (hq : q < 469) => And.intro ((he16 q (by omega)).1.trans (hfr q hq).1) ((he16 q (by omega)).2.trans (hfr q hq).2)
  replace hI16 := qRb.I (ad := ad16) hI16
  refine q_ad1 hA0 (pf_Mo_26 F hW16 hnm (by omega) ho d_Mo_init_51 (fun H17 locs17 w17 hW17 hI17 hq17 => ?_))
  replace ho := hI17
  replace hI4 := hI4.move (fun q hq => ⟨rfl, fun _ => hq17 q (by omega)⟩)
  replace hI7 := hI7.move (fun q hq => ⟨rfl, fun _ => hq17 q (by omega)⟩)
  replace hI10 := hI10.move (fun q hq => ⟨rfl, fun _ => hq17 q (by omega)⟩)
  replace hI13 := hI13.move (fun q hq => ⟨rfl, fun _ => hq17 q (by omega)⟩)
  replace hI16 := hI16.move (fun q hq => ⟨rfl, fun _ => hq17 q (by omega)⟩)
  replace hfr := fun q (hq : q < 469) => And.intro (hfr q hq).1 ((hq17 q (by omega)).trans (hfr q hq).2)
  refine lv_aload_n F.1 F.2.1 d_Mo_init_54 rfl (lv_at hl 0 rfl) ?_
  refine q_sipush F d_Mo_init_55 (by decide) (fun v18 hv18 => ?_)
  refine q_newI F hW17 1600 (by omega) (by omega) (Nat.le_of_ble_eq_true rfl) (Nat.le_of_ble_eq_true rfl) d_Mo_init_58 (fun q19 ad19 w19 H19 he19 ha19 hI19 hW19 => ?_)
  replace hW19 : qW D τ A s H19 locs17 ad19 (476) w19 := hW19
  replace ho := (he19 469 (by omega)).2.trans ho
  replace hA0 := (he19 (469) (by omega)).1.trans hA0
  replace ha4 := (he19 (470) (by omega)).1.trans ha4
  replace ha7 := (he19 (471) (by omega)).1.trans ha7
  replace ha10 := (he19 (472) (by omega)).1.trans ha10
  replace ha13 := (he19 (473) (by omega)).1.trans ha13
  replace ha16 := (he19 (474) (by omega)).1.trans ha16
  replace hI4 := hI4.move (fun q hq => ⟨(he19 q (by omega)).1, fun _ => (he19 q (by omega)).2⟩)
  replace hI7 := hI7.move (fun q hq => ⟨(he19 q (by omega)).1, fun _ => (he19 q (by omega)).2⟩)
  replace hI10 := hI10.move (fun q hq => ⟨(he19 q (by omega)).1, fun _ => (he19 q (by omega)).2⟩)
  replace hI13 := hI13.move (fun q hq => ⟨(he19 q (by omega)).1, fun _ => (he19 q (by omega)).2⟩)
  replace hI16 := hI16.move (fun q hq => ⟨(he19 q (by omega)).1, fun _ => (he19 q (by omega)).2⟩)
  replace hfr := fun q (hq : q < 469) => And.intro ((he19 q (by omega)).1.trans (hfr q hq).1) ((he19 q (by omega)).2.trans (hfr q hq).2)
  replace hI19 := qRb.I (ad := ad19) hI19
  refine q_ad1 hA0 (pf_Mo_29 F hW19 hnm (by omega) ho d_Mo_init_60 (fun H20 locs20 w20 hW20 hI20 hq20 => ?_))
  replace ho := hI20
  replace hI4 := hI4.move (fun q hq => ⟨rfl, fun _ => hq20 q (by omega)⟩)
  replace hI7 := hI7.move (fun q hq => ⟨rfl, fun _ => hq20 q (by omega)⟩)
  replace hI10 := hI10.move (fun q hq => ⟨rfl, fun _ => hq20 q (by omega)⟩)
  replace hI13 := hI13.move (fun q hq => ⟨rfl, fun _ => hq20 q (by omega)⟩)
  replace hI16 := hI16.move (fun q hq => ⟨rfl, fun _ => hq20 q (by omega)⟩)
  replace hI19 := hI19.move (fun q hq => ⟨rfl, fun _ => hq20 q (by omega)⟩)
  replace hfr := fun q (hq : q < 469) => And.intro (hfr q hq).1 ((hq20 q (by omega)).trans (hfr q hq).2)
  refine lv_aload_n F.1 F.2.1 d_Mo_init_63 rfl (lv_at hl 0 rfl) ?_
  refine q_bipush F d_Mo_init_64 (by decide) (fun v21 hv21 => ?_)
  refine q_newZ F hW20 40 (by omega) (by omega) (Nat.le_of_ble_eq_true rfl) (Nat.le_of_ble_eq_true rfl) d_Mo_init_66 (fun q22 ad22 w22 H22 he22 ha22 hI22 hW22 => ?_)
  replace hW22 : qW D τ A s H22 locs20 ad22 (477) w22 := hW22
  replace ho := (he22 469 (by omega)).2.trans ho
  replace hA0 := (he22 (469) (by omega)).1.trans hA0
  replace ha4 := (he22 (470) (by omega)).1.trans ha4
  replace ha7 := (he22 (471) (by omega)).1.trans ha7
  replace ha10 := (he22 (472) (by omega)).1.trans ha10
  replace ha13 := (he22 (473) (by omega)).1.trans ha13
  replace ha16 := (he22 (474) (by omega)).1.trans ha16
  replace ha19 := (he22 (475) (by omega)).1.trans ha19
  replace hI4 := hI4.move (fun q hq => ⟨(he22 q (by omega)).1, fun _ => (he22 q (by omega)).2⟩)
  replace hI7 := hI7.move (fun q hq => ⟨(he22 q (by omega)).1, fun _ => (he22 q (by omega)).2⟩)
  replace hI10 := hI10.move (fun q hq => ⟨(he22 q (by omega)).1, fun _ => (he22 q (by omega)).2⟩)
  replace hI13 := hI13.move (fun q hq => ⟨(he22 q (by omega)).1, fun _ => (he22 q (by omega)).2⟩)
  replace hI16 := hI16.move (fun q hq => ⟨(he22 q (by omega)).1, fun _ => (he22 q (by omega)).2⟩)
  replace hI19 := hI19.move (fun q hq => ⟨(he22 q (by omega)).1, fun _ => (he22 q (by omega)).2⟩)
  replace hfr := fun q (hq : q < 469) => And.intro ((he22 q (by omega)).1.trans (hfr q hq).1) ((he22 q (by omega)).2.trans (hfr q hq).2)
  replace hI22 := qRb.Z (ad := ad22) hI22
  refine q_ad1 hA0 (pf_Mo_32 F hW22 hnm (by omega) ho d_Mo_init_68 (fun H23 locs23 w23 hW23 hI23 hq23 => ?_))
  replace ho := hI23
  replace hI4 := hI4.move (fun q hq => ⟨rfl, fun _ => hq23 q (by omega)⟩)
  replace hI7 := hI7.move (fun q hq => ⟨rfl, fun _ => hq23 q (by omega)⟩)
  replace hI10 := hI10.move (fun q hq => ⟨rfl, fun _ => hq23 q (by omega)⟩)
  replace hI13 := hI13.move (fun q hq => ⟨rfl, fun _ => hq23 q (by omega)⟩)
  replace hI16 := hI16.move (fun q hq => ⟨rfl, fun _ => hq23 q (by omega)⟩)
  replace hI19 := hI19.move (fun q hq => ⟨rfl, fun _ => hq23 q (by omega)⟩)
  replace hI22 := hI22.move (fun q hq => ⟨rfl, fun _ => hq23 q (by omega)⟩)
  replace hfr := fun q (hq : q < 469) => And.intro (hfr q hq).1 ((hq23 q (by omega)).trans (hfr q hq).2)
  refine lv_aload_n F.1 F.2.1 d_Mo_init_71 rfl (lv_at hl 0 rfl) ?_
  refine q_sipush F d_Mo_init_72 (by decide) (fun v24 hv24 => ?_)
  refine q_newZ F hW23 1600 (by omega) (by omega) (Nat.le_of_ble_eq_true rfl) (Nat.le_of_ble_eq_true rfl) d_Mo_init_75 (fun q25 ad25 w25 H25 he25 ha25 hI25 hW25 => ?_)
  replace hW25 : qW D τ A s H25 locs23 ad25 (478) w25 := hW25
  replace ho := (he25 469 (by omega)).2.trans ho
  replace hA0 := (he25 (469) (by omega)).1.trans hA0
  replace ha4 := (he25 (470) (by omega)).1.trans ha4
  replace ha7 := (he25 (471) (by omega)).1.trans ha7
  replace ha10 := (he25 (472) (by omega)).1.trans ha10
  replace ha13 := (he25 (473) (by omega)).1.trans ha13
  replace ha16 := (he25 (474) (by omega)).1.trans ha16
  replace ha19 := (he25 (475) (by omega)).1.trans ha19
  replace ha22 := (he25 (476) (by omega)).1.trans ha22
  replace hI4 := hI4.move (fun q hq => ⟨(he25 q (by omega)).1, fun _ => (he25 q (by omega)).2⟩)
  replace hI7 := hI7.move (fun q hq => ⟨(he25 q (by omega)).1, fun _ => (he25 q (by omega)).2⟩)
  replace hI10 := hI10.move (fun q hq => ⟨(he25 q (by omega)).1, fun _ => (he25 q (by omega)).2⟩)
  replace hI13 := hI13.move (fun q hq => ⟨(he25 q (by omega)).1, fun _ => (he25 q (by omega)).2⟩)
  replace hI16 := hI16.move (fun q hq => ⟨(he25 q (by omega)).1, fun _ => (he25 q (by omega)).2⟩)
  replace hI19 := hI19.move (fun q hq => ⟨(he25 q (by omega)).1, fun _ => (he25 q (by omega)).2⟩)
  replace hI22 := hI22.move (fun q hq => ⟨(he25 q (by omega)).1, fun _ => (he25 q (by omega)).2⟩)
  replace hfr := fun q (hq : q < 469) => And.intro ((he25 q (by omega)).1.trans (hfr q hq).1) ((he25 q (by omega)).2.trans (hfr q hq).2)
  replace hI25 := qRb.Z (ad := ad25) hI25
  refine q_ad1 hA0 (pf_Mo_36 F hW25 hnm (by omega) ho d_Mo_init_77 (fun H26 locs26 w26 hW26 hI26 hq26 => ?_))
  replace ho := hI26
  replace hI4 := hI4.move (fun q hq => ⟨rfl, fun _ => hq26 q (by omega)⟩)
  replace hI7 := hI7.move (fun q hq => ⟨rfl, fun _ => hq26 q (by omega)⟩)
  replace hI10 := hI10.move (fun q hq => ⟨rfl, fun _ => hq26 q (by omega)⟩)
  replace hI13 := hI13.move (fun q hq => ⟨rfl, fun _ => hq26 q (by omega)⟩)
  replace hI16 := hI16.move (fun q hq => ⟨rfl, fun _ => hq26 q (by omega)⟩)
  replace hI19 := hI19.move (fun q hq => ⟨rfl, fun _ => hq26 q (by omega)⟩)
  replace hI22 := hI22.move (fun q hq => ⟨rfl, fun _ => hq26 q (by omega)⟩)
  replace hI25 := hI25.move (fun q hq => ⟨rfl, fun _ => hq26 q (by omega)⟩)
  replace hfr := fun q (hq : q < 469) => And.intro (hfr q hq).1 ((hq26 q (by omega)).trans (hfr q hq).2)
  refine lv_aload_n F.1 F.2.1 d_Mo_init_80 rfl (lv_at hl 0 rfl) ?_
  refine q_bipush F d_Mo_init_81 (by decide) (fun v27 hv27 => ?_)
  refine q_newZ F hW26 40 (by omega) (by omega) (Nat.le_of_ble_eq_true rfl) (Nat.le_of_ble_eq_true rfl) d_Mo_init_83 (fun q28 ad28 w28 H28 he28 ha28 hI28 hW28 => ?_)
  replace hW28 : qW D τ A s H28 locs26 ad28 (479) w28 := hW28
  replace ho := (he28 469 (by omega)).2.trans ho
  replace hA0 := (he28 (469) (by omega)).1.trans hA0
  replace ha4 := (he28 (470) (by omega)).1.trans ha4
  replace ha7 := (he28 (471) (by omega)).1.trans ha7
  replace ha10 := (he28 (472) (by omega)).1.trans ha10
  replace ha13 := (he28 (473) (by omega)).1.trans ha13
  replace ha16 := (he28 (474) (by omega)).1.trans ha16
  replace ha19 := (he28 (475) (by omega)).1.trans ha19
  replace ha22 := (he28 (476) (by omega)).1.trans ha22
  replace ha25 := (he28 (477) (by omega)).1.trans ha25
  replace hI4 := hI4.move (fun q hq => ⟨(he28 q (by omega)).1, fun _ => (he28 q (by omega)).2⟩)
  replace hI7 := hI7.move (fun q hq => ⟨(he28 q (by omega)).1, fun _ => (he28 q (by omega)).2⟩)
  replace hI10 := hI10.move (fun q hq => ⟨(he28 q (by omega)).1, fun _ => (he28 q (by omega)).2⟩)
  replace hI13 := hI13.move (fun q hq => ⟨(he28 q (by omega)).1, fun _ => (he28 q (by omega)).2⟩)
  replace hI16 := hI16.move (fun q hq => ⟨(he28 q (by omega)).1, fun _ => (he28 q (by omega)).2⟩)
  replace hI19 := hI19.move (fun q hq => ⟨(he28 q (by omega)).1, fun _ => (he28 q (by omega)).2⟩)
  replace hI22 := hI22.move (fun q hq => ⟨(he28 q (by omega)).1, fun _ => (he28 q (by omega)).2⟩)
  replace hI25 := hI25.move (fun q hq => ⟨(he28 q (by omega)).1, fun _ => (he28 q (by omega)).2⟩)
  replace hfr := fun q (hq : q < 469) => And.intro ((he28 q (by omega)).1.trans (hfr q hq).1) ((he28 q (by omega)).2.trans (hfr q hq).2)
  replace hI28 := qRb.Z (ad := ad28) hI28
  refine q_ad1 hA0 (pf_Mo_39 F hW28 hnm (by omega) ho d_Mo_init_85 (fun H29 locs29 w29 hW29 hI29 hq29 => ?_))
  replace ho := hI29
  replace hI4 := hI4.move (fun q hq => ⟨rfl, fun _ => hq29 q (by omega)⟩)
  replace hI7 := hI7.move (fun q hq => ⟨rfl, fun _ => hq29 q (by omega)⟩)
  replace hI10 := hI10.move (fun q hq => ⟨rfl, fun _ => hq29 q (by omega)⟩)
  replace hI13 := hI13.move (fun q hq => ⟨rfl, fun _ => hq29 q (by omega)⟩)
  replace hI16 := hI16.move (fun q hq => ⟨rfl, fun _ => hq29 q (by omega)⟩)
  replace hI19 := hI19.move (fun q hq => ⟨rfl, fun _ => hq29 q (by omega)⟩)
  replace hI22 := hI22.move (fun q hq => ⟨rfl, fun _ => hq29 q (by omega)⟩)
  replace hI25 := hI25.move (fun q hq => ⟨rfl, fun _ => hq29 q (by omega)⟩)
  replace hI28 := hI28.move (fun q hq => ⟨rfl, fun _ => hq29 q (by omega)⟩)
  replace hfr := fun q (hq : q < 469) => And.intro (hfr q hq).1 ((hq29 q (by omega)).trans (hfr q hq).2)
  refine lv_aload_n F.1 F.2.1 d_Mo_init_88 rfl (lv_at hl 0 rfl) ?_
  refine q_bipush F d_Mo_init_89 (by decide) (fun v30 hv30 => ?_)
  refine q_newI F hW29 40 (by omega) (by omega) (Nat.le_of_ble_eq_true rfl) (Nat.le_of_ble_eq_true rfl) d_Mo_init_91 (fun q31 ad31 w31 H31 he31 ha31 hI31 hW31 => ?_)
  replace hW31 : qW D τ A s H31 locs29 ad31 (480) w31 := hW31
  replace ho := (he31 469 (by omega)).2.trans ho
  replace hA0 := (he31 (469) (by omega)).1.trans hA0
  replace ha4 := (he31 (470) (by omega)).1.trans ha4
  replace ha7 := (he31 (471) (by omega)).1.trans ha7
  replace ha10 := (he31 (472) (by omega)).1.trans ha10
  replace ha13 := (he31 (473) (by omega)).1.trans ha13
  replace ha16 := (he31 (474) (by omega)).1.trans ha16
  replace ha19 := (he31 (475) (by omega)).1.trans ha19
  replace ha22 := (he31 (476) (by omega)).1.trans ha22
  replace ha25 := (he31 (477) (by omega)).1.trans ha25
  replace ha28 := (he31 (478) (by omega)).1.trans ha28
  replace hI4 := hI4.move (fun q hq => ⟨(he31 q (by omega)).1, fun _ => (he31 q (by omega)).2⟩)
  replace hI7 := hI7.move (fun q hq => ⟨(he31 q (by omega)).1, fun _ => (he31 q (by omega)).2⟩)
  replace hI10 := hI10.move (fun q hq => ⟨(he31 q (by omega)).1, fun _ => (he31 q (by omega)).2⟩)
  replace hI13 := hI13.move (fun q hq => ⟨(he31 q (by omega)).1, fun _ => (he31 q (by omega)).2⟩)
  replace hI16 := hI16.move (fun q hq => ⟨(he31 q (by omega)).1, fun _ => (he31 q (by omega)).2⟩)
  replace hI19 := hI19.move (fun q hq => ⟨(he31 q (by omega)).1, fun _ => (he31 q (by omega)).2⟩)
  replace hI22 := hI22.move (fun q hq => ⟨(he31 q (by omega)).1, fun _ => (he31 q (by omega)).2⟩)
  replace hI25 := hI25.move (fun q hq => ⟨(he31 q (by omega)).1, fun _ => (he31 q (by omega)).2⟩)
  replace hI28 := hI28.move (fun q hq => ⟨(he31 q (by omega)).1, fun _ => (he31 q (by omega)).2⟩)
  replace hfr := fun q (hq : q < 469) => And.intro ((he31 q (by omega)).1.trans (hfr q hq).1) ((he31 q (by omega)).2.trans (hfr q hq).2)
  replace hI31 := qRb.I (ad := ad31) hI31
  refine q_ad1 hA0 (pf_Mo_42 F hW31 hnm (by omega) ho d_Mo_init_93 (fun H32 locs32 w32 hW32 hI32 hq32 => ?_))
  replace ho := hI32
  replace hI4 := hI4.move (fun q hq => ⟨rfl, fun _ => hq32 q (by omega)⟩)
  replace hI7 := hI7.move (fun q hq => ⟨rfl, fun _ => hq32 q (by omega)⟩)
  replace hI10 := hI10.move (fun q hq => ⟨rfl, fun _ => hq32 q (by omega)⟩)
  replace hI13 := hI13.move (fun q hq => ⟨rfl, fun _ => hq32 q (by omega)⟩)
  replace hI16 := hI16.move (fun q hq => ⟨rfl, fun _ => hq32 q (by omega)⟩)
  replace hI19 := hI19.move (fun q hq => ⟨rfl, fun _ => hq32 q (by omega)⟩)
  replace hI22 := hI22.move (fun q hq => ⟨rfl, fun _ => hq32 q (by omega)⟩)
  replace hI25 := hI25.move (fun q hq => ⟨rfl, fun _ => hq32 q (by omega)⟩)
  replace hI28 := hI28.move (fun q hq => ⟨rfl, fun _ => hq32 q (by omega)⟩)
  replace hI31 := hI31.move (fun q hq => ⟨rfl, fun _ => hq32 q (by omega)⟩)
  replace hfr := fun q (hq : q < 469) => And.intro (hfr q hq).1 ((hq32 q (by omega)).trans (hfr q hq).2)
  refine lv_aload_n F.1 F.2.1 d_Mo_init_96 rfl (lv_at hl 0 rfl) ?_
  refine q_sipush F d_Mo_init_97 (by decide) (fun v33 hv33 => ?_)
  refine q_newI F hW32 1600 (by omega) (by omega) (Nat.le_of_ble_eq_true rfl) (Nat.le_of_ble_eq_true rfl) d_Mo_init_100 (fun q34 ad34 w34 H34 he34 ha34 hI34 hW34 => ?_)
  replace hW34 : qW D τ A s H34 locs32 ad34 (481) w34 := hW34
  replace ho := (he34 469 (by omega)).2.trans ho
  replace hA0 := (he34 (469) (by omega)).1.trans hA0
  replace ha4 := (he34 (470) (by omega)).1.trans ha4
  replace ha7 := (he34 (471) (by omega)).1.trans ha7
  replace ha10 := (he34 (472) (by omega)).1.trans ha10
  replace ha13 := (he34 (473) (by omega)).1.trans ha13
  replace ha16 := (he34 (474) (by omega)).1.trans ha16
  replace ha19 := (he34 (475) (by omega)).1.trans ha19
  replace ha22 := (he34 (476) (by omega)).1.trans ha22
  replace ha25 := (he34 (477) (by omega)).1.trans ha25
  replace ha28 := (he34 (478) (by omega)).1.trans ha28
  replace ha31 := (he34 (479) (by omega)).1.trans ha31
  replace hI4 := hI4.move (fun q hq => ⟨(he34 q (by omega)).1, fun _ => (he34 q (by omega)).2⟩)
  replace hI7 := hI7.move (fun q hq => ⟨(he34 q (by omega)).1, fun _ => (he34 q (by omega)).2⟩)
  replace hI10 := hI10.move (fun q hq => ⟨(he34 q (by omega)).1, fun _ => (he34 q (by omega)).2⟩)
  replace hI13 := hI13.move (fun q hq => ⟨(he34 q (by omega)).1, fun _ => (he34 q (by omega)).2⟩)
  replace hI16 := hI16.move (fun q hq => ⟨(he34 q (by omega)).1, fun _ => (he34 q (by omega)).2⟩)
  replace hI19 := hI19.move (fun q hq => ⟨(he34 q (by omega)).1, fun _ => (he34 q (by omega)).2⟩)
  replace hI22 := hI22.move (fun q hq => ⟨(he34 q (by omega)).1, fun _ => (he34 q (by omega)).2⟩)
  replace hI25 := hI25.move (fun q hq => ⟨(he34 q (by omega)).1, fun _ => (he34 q (by omega)).2⟩)
  replace hI28 := hI28.move (fun q hq => ⟨(he34 q (by omega)).1, fun _ => (he34 q (by omega)).2⟩)
  replace hI31 := hI31.move (fun q hq => ⟨(he34 q (by omega)).1, fun _ => (he34 q (by omega)).2⟩)
  replace hfr := fun q (hq : q < 469) => And.intro ((he34 q (by omega)).1.trans (hfr q hq).1) ((he34 q (by omega)).2.trans (hfr q hq).2)
  replace hI34 := qRb.I (ad := ad34) hI34
  refine q_ad1 hA0 (pf_Mo_45 F hW34 hnm (by omega) ho d_Mo_init_102 (fun H35 locs35 w35 hW35 hI35 hq35 => ?_))
  replace ho := hI35
  replace hI4 := hI4.move (fun q hq => ⟨rfl, fun _ => hq35 q (by omega)⟩)
  replace hI7 := hI7.move (fun q hq => ⟨rfl, fun _ => hq35 q (by omega)⟩)
  replace hI10 := hI10.move (fun q hq => ⟨rfl, fun _ => hq35 q (by omega)⟩)
  replace hI13 := hI13.move (fun q hq => ⟨rfl, fun _ => hq35 q (by omega)⟩)
  replace hI16 := hI16.move (fun q hq => ⟨rfl, fun _ => hq35 q (by omega)⟩)
  replace hI19 := hI19.move (fun q hq => ⟨rfl, fun _ => hq35 q (by omega)⟩)
  replace hI22 := hI22.move (fun q hq => ⟨rfl, fun _ => hq35 q (by omega)⟩)
  replace hI25 := hI25.move (fun q hq => ⟨rfl, fun _ => hq35 q (by omega)⟩)
  replace hI28 := hI28.move (fun q hq => ⟨rfl, fun _ => hq35 q (by omega)⟩)
  replace hI31 := hI31.move (fun q hq => ⟨rfl, fun _ => hq35 q (by omega)⟩)
  replace hI34 := hI34.move (fun q hq => ⟨rfl, fun _ => hq35 q (by omega)⟩)
  replace hfr := fun q (hq : q < 469) => And.intro (hfr q hq).1 ((hq35 q (by omega)).trans (hfr q hq).2)
  refine lv_aload_n F.1 F.2.1 d_Mo_init_105 rfl (lv_at hl 0 rfl) ?_
  refine q_bipush F d_Mo_init_106 (by decide) (fun v36 hv36 => ?_)
  refine q_newI F hW35 16 (by omega) (by omega) (Nat.le_of_ble_eq_true rfl) (Nat.le_of_ble_eq_true rfl) d_Mo_init_108 (fun q37 ad37 w37 H37 he37 ha37 hI37 hW37 => ?_)
  replace hW37 : qW D τ A s H37 locs35 ad37 (482) w37 := hW37
  replace ho := (he37 469 (by omega)).2.trans ho
  replace hA0 := (he37 (469) (by omega)).1.trans hA0
  replace ha4 := (he37 (470) (by omega)).1.trans ha4
  replace ha7 := (he37 (471) (by omega)).1.trans ha7
  replace ha10 := (he37 (472) (by omega)).1.trans ha10
  replace ha13 := (he37 (473) (by omega)).1.trans ha13
  replace ha16 := (he37 (474) (by omega)).1.trans ha16
  replace ha19 := (he37 (475) (by omega)).1.trans ha19
  replace ha22 := (he37 (476) (by omega)).1.trans ha22
  replace ha25 := (he37 (477) (by omega)).1.trans ha25
  replace ha28 := (he37 (478) (by omega)).1.trans ha28
  replace ha31 := (he37 (479) (by omega)).1.trans ha31
  replace ha34 := (he37 (480) (by omega)).1.trans ha34
  replace hI4 := hI4.move (fun q hq => ⟨(he37 q (by omega)).1, fun _ => (he37 q (by omega)).2⟩)
  replace hI7 := hI7.move (fun q hq => ⟨(he37 q (by omega)).1, fun _ => (he37 q (by omega)).2⟩)
  replace hI10 := hI10.move (fun q hq => ⟨(he37 q (by omega)).1, fun _ => (he37 q (by omega)).2⟩)
  replace hI13 := hI13.move (fun q hq => ⟨(he37 q (by omega)).1, fun _ => (he37 q (by omega)).2⟩)
  replace hI16 := hI16.move (fun q hq => ⟨(he37 q (by omega)).1, fun _ => (he37 q (by omega)).2⟩)
  replace hI19 := hI19.move (fun q hq => ⟨(he37 q (by omega)).1, fun _ => (he37 q (by omega)).2⟩)
  replace hI22 := hI22.move (fun q hq => ⟨(he37 q (by omega)).1, fun _ => (he37 q (by omega)).2⟩)
  replace hI25 := hI25.move (fun q hq => ⟨(he37 q (by omega)).1, fun _ => (he37 q (by omega)).2⟩)
  replace hI28 := hI28.move (fun q hq => ⟨(he37 q (by omega)).1, fun _ => (he37 q (by omega)).2⟩)
  replace hI31 := hI31.move (fun q hq => ⟨(he37 q (by omega)).1, fun _ => (he37 q (by omega)).2⟩)
  replace hI34 := hI34.move (fun q hq => ⟨(he37 q (by omega)).1, fun _ => (he37 q (by omega)).2⟩)
  replace hfr := fun q (hq : q < 469) => And.intro ((he37 q (by omega)).1.trans (hfr q hq).1) ((he37 q (by omega)).2.trans (hfr q hq).2)
  replace hI37 := qRb.I (ad := ad37) hI37
  refine q_ad1 hA0 (pf_Mo_48 F hW37 hnm (by omega) ho d_Mo_init_110 (fun H38 locs38 w38 hW38 hI38 hq38 => ?_))
  replace ho := hI38
  replace hI4 := hI4.move (fun q hq => ⟨rfl, fun _ => hq38 q (by omega)⟩)
  replace hI7 := hI7.move (fun q hq => ⟨rfl, fun _ => hq38 q (by omega)⟩)
  replace hI10 := hI10.move (fun q hq => ⟨rfl, fun _ => hq38 q (by omega)⟩)
  replace hI13 := hI13.move (fun q hq => ⟨rfl, fun _ => hq38 q (by omega)⟩)
  replace hI16 := hI16.move (fun q hq => ⟨rfl, fun _ => hq38 q (by omega)⟩)
  replace hI19 := hI19.move (fun q hq => ⟨rfl, fun _ => hq38 q (by omega)⟩)
  replace hI22 := hI22.move (fun q hq => ⟨rfl, fun _ => hq38 q (by omega)⟩)
  replace hI25 := hI25.move (fun q hq => ⟨rfl, fun _ => hq38 q (by omega)⟩)
  replace hI28 := hI28.move (fun q hq => ⟨rfl, fun _ => hq38 q (by omega)⟩)
  replace hI31 := hI31.move (fun q hq => ⟨rfl, fun _ => hq38 q (by omega)⟩)
  replace hI34 := hI34.move (fun q hq => ⟨rfl, fun _ => hq38 q (by omega)⟩)
  replace hI37 := hI37.move (fun q hq => ⟨rfl, fun _ => hq38 q (by omega)⟩)
  replace hfr := fun q (hq : q < 469) => And.intro (hfr q hq).1 ((hq38 q (by omega)).trans (hfr q hq).2)
  refine lv_aload_n F.1 F.2.1 d_Mo_init_113 rfl (lv_at hl 0 rfl) ?_
  refine q_bipush F d_Mo_init_114 (by decide) (fun v39 hv39 => ?_)
  refine q_newI F hW38 16 (by omega) (by omega) (Nat.le_of_ble_eq_true rfl) (Nat.le_of_ble_eq_true rfl) d_Mo_init_116 (fun q40 ad40 w40 H40 he40 ha40 hI40 hW40 => ?_)
  replace hW40 : qW D τ A s H40 locs38 ad40 (483) w40 := hW40
  replace ho := (he40 469 (by omega)).2.trans ho
  replace hA0 := (he40 (469) (by omega)).1.trans hA0
  replace ha4 := (he40 (470) (by omega)).1.trans ha4
  replace ha7 := (he40 (471) (by omega)).1.trans ha7
  replace ha10 := (he40 (472) (by omega)).1.trans ha10
  replace ha13 := (he40 (473) (by omega)).1.trans ha13
  replace ha16 := (he40 (474) (by omega)).1.trans ha16
  replace ha19 := (he40 (475) (by omega)).1.trans ha19
  replace ha22 := (he40 (476) (by omega)).1.trans ha22
  replace ha25 := (he40 (477) (by omega)).1.trans ha25
  replace ha28 := (he40 (478) (by omega)).1.trans ha28
  replace ha31 := (he40 (479) (by omega)).1.trans ha31
  replace ha34 := (he40 (480) (by omega)).1.trans ha34
  replace ha37 := (he40 (481) (by omega)).1.trans ha37
  replace hI4 := hI4.move (fun q hq => ⟨(he40 q (by omega)).1, fun _ => (he40 q (by omega)).2⟩)
  replace hI7 := hI7.move (fun q hq => ⟨(he40 q (by omega)).1, fun _ => (he40 q (by omega)).2⟩)
  replace hI10 := hI10.move (fun q hq => ⟨(he40 q (by omega)).1, fun _ => (he40 q (by omega)).2⟩)
  replace hI13 := hI13.move (fun q hq => ⟨(he40 q (by omega)).1, fun _ => (he40 q (by omega)).2⟩)
  replace hI16 := hI16.move (fun q hq => ⟨(he40 q (by omega)).1, fun _ => (he40 q (by omega)).2⟩)
  replace hI19 := hI19.move (fun q hq => ⟨(he40 q (by omega)).1, fun _ => (he40 q (by omega)).2⟩)
  replace hI22 := hI22.move (fun q hq => ⟨(he40 q (by omega)).1, fun _ => (he40 q (by omega)).2⟩)
  replace hI25 := hI25.move (fun q hq => ⟨(he40 q (by omega)).1, fun _ => (he40 q (by omega)).2⟩)
  replace hI28 := hI28.move (fun q hq => ⟨(he40 q (by omega)).1, fun _ => (he40 q (by omega)).2⟩)
  replace hI31 := hI31.move (fun q hq => ⟨(he40 q (by omega)).1, fun _ => (he40 q (by omega)).2⟩)
  replace hI34 := hI34.move (fun q hq => ⟨(he40 q (by omega)).1, fun _ => (he40 q (by omega)).2⟩)
  replace hI37 := hI37.move (fun q hq => ⟨(he40 q (by omega)).1, fun _ => (he40 q (by omega)).2⟩)
  replace hfr := fun q (hq : q < 469) => And.intro ((he40 q (by omega)).1.trans (hfr q hq).1) ((he40 q (by omega)).2.trans (hfr q hq).2)
  replace hI40 := qRb.I (ad := ad40) hI40
  refine q_ad1 hA0 (pf_Mo_51 F hW40 hnm (by omega) ho d_Mo_init_118 (fun H41 locs41 w41 hW41 hI41 hq41 => ?_))
  replace ho := hI41
  replace hI4 := hI4.move (fun q hq => ⟨rfl, fun _ => hq41 q (by omega)⟩)
  replace hI7 := hI7.move (fun q hq => ⟨rfl, fun _ => hq41 q (by omega)⟩)
  replace hI10 := hI10.move (fun q hq => ⟨rfl, fun _ => hq41 q (by omega)⟩)
  replace hI13 := hI13.move (fun q hq => ⟨rfl, fun _ => hq41 q (by omega)⟩)
  replace hI16 := hI16.move (fun q hq => ⟨rfl, fun _ => hq41 q (by omega)⟩)
  replace hI19 := hI19.move (fun q hq => ⟨rfl, fun _ => hq41 q (by omega)⟩)
  replace hI22 := hI22.move (fun q hq => ⟨rfl, fun _ => hq41 q (by omega)⟩)
  replace hI25 := hI25.move (fun q hq => ⟨rfl, fun _ => hq41 q (by omega)⟩)
  replace hI28 := hI28.move (fun q hq => ⟨rfl, fun _ => hq41 q (by omega)⟩)
  replace hI31 := hI31.move (fun q hq => ⟨rfl, fun _ => hq41 q (by omega)⟩)
  replace hI34 := hI34.move (fun q hq => ⟨rfl, fun _ => hq41 q (by omega)⟩)
  replace hI37 := hI37.move (fun q hq => ⟨rfl, fun _ => hq41 q (by omega)⟩)
  replace hI40 := hI40.move (fun q hq => ⟨rfl, fun _ => hq41 q (by omega)⟩)
  replace hfr := fun q (hq : q < 469) => And.intro (hfr q hq).1 ((hq41 q (by omega)).trans (hfr q hq).2)
  refine lv_aload_n F.1 F.2.1 d_Mo_init_121 rfl (lv_at hl 0 rfl) ?_
  refine q_bipush F d_Mo_init_122 (by decide) (fun v42 hv42 => ?_)
  refine q_newI F hW41 16 (by omega) (by omega) (Nat.le_of_ble_eq_true rfl) (Nat.le_of_ble_eq_true rfl) d_Mo_init_124 (fun q43 ad43 w43 H43 he43 ha43 hI43 hW43 => ?_)
  replace hW43 : qW D τ A s H43 locs41 ad43 (484) w43 := hW43
  replace ho := (he43 469 (by omega)).2.trans ho
  replace hA0 := (he43 (469) (by omega)).1.trans hA0
  replace ha4 := (he43 (470) (by omega)).1.trans ha4
  replace ha7 := (he43 (471) (by omega)).1.trans ha7
  replace ha10 := (he43 (472) (by omega)).1.trans ha10
  replace ha13 := (he43 (473) (by omega)).1.trans ha13
  replace ha16 := (he43 (474) (by omega)).1.trans ha16
  replace ha19 := (he43 (475) (by omega)).1.trans ha19
  replace ha22 := (he43 (476) (by omega)).1.trans ha22
  replace ha25 := (he43 (477) (by omega)).1.trans ha25
  replace ha28 := (he43 (478) (by omega)).1.trans ha28
  replace ha31 := (he43 (479) (by omega)).1.trans ha31
  replace ha34 := (he43 (480) (by omega)).1.trans ha34
  replace ha37 := (he43 (481) (by omega)).1.trans ha37
  replace ha40 := (he43 (482) (by omega)).1.trans ha40
  replace hI4 := hI4.move (fun q hq => ⟨(he43 q (by omega)).1, fun _ => (he43 q (by omega)).2⟩)
  replace hI7 := hI7.move (fun q hq => ⟨(he43 q (by omega)).1, fun _ => (he43 q (by omega)).2⟩)
  replace hI10 := hI10.move (fun q hq => ⟨(he43 q (by omega)).1, fun _ => (he43 q (by omega)).2⟩)
  replace hI13 := hI13.move (fun q hq => ⟨(he43 q (by omega)).1, fun _ => (he43 q (by omega)).2⟩)
  replace hI16 := hI16.move (fun q hq => ⟨(he43 q (by omega)).1, fun _ => (he43 q (by omega)).2⟩)
  replace hI19 := hI19.move (fun q hq => ⟨(he43 q (by omega)).1, fun _ => (he43 q (by omega)).2⟩)
  replace hI22 := hI22.move (fun q hq => ⟨(he43 q (by omega)).1, fun _ => (he43 q (by omega)).2⟩)
  replace hI25 := hI25.move (fun q hq => ⟨(he43 q (by omega)).1, fun _ => (he43 q (by omega)).2⟩)
  replace hI28 := hI28.move (fun q hq => ⟨(he43 q (by omega)).1, fun _ => (he43 q (by omega)).2⟩)
  replace hI31 := hI31.move (fun q hq => ⟨(he43 q (by omega)).1, fun _ => (he43 q (by omega)).2⟩)
  replace hI34 := hI34.move (fun q hq => ⟨(he43 q (by omega)).1, fun _ => (he43 q (by omega)).2⟩)
  replace hI37 := hI37.move (fun q hq => ⟨(he43 q (by omega)).1, fun _ => (he43 q (by omega)).2⟩)
  replace hI40 := hI40.move (fun q hq => ⟨(he43 q (by omega)).1, fun _ => (he43 q (by omega)).2⟩)
  replace hfr := fun q (hq : q < 469) => And.intro ((he43 q (by omega)).1.trans (hfr q hq).1) ((he43 q (by omega)).2.trans (hfr q hq).2)
  replace hI43 := qRb.I (ad := ad43) hI43
  refine q_ad1 hA0 (pf_Mo_54 F hW43 hnm (by omega) ho d_Mo_init_126 (fun H44 locs44 w44 hW44 hI44 hq44 => ?_))
  replace ho := hI44
  replace hI4 := hI4.move (fun q hq => ⟨rfl, fun _ => hq44 q (by omega)⟩)
  replace hI7 := hI7.move (fun q hq => ⟨rfl, fun _ => hq44 q (by omega)⟩)
  replace hI10 := hI10.move (fun q hq => ⟨rfl, fun _ => hq44 q (by omega)⟩)
  replace hI13 := hI13.move (fun q hq => ⟨rfl, fun _ => hq44 q (by omega)⟩)
  replace hI16 := hI16.move (fun q hq => ⟨rfl, fun _ => hq44 q (by omega)⟩)
  replace hI19 := hI19.move (fun q hq => ⟨rfl, fun _ => hq44 q (by omega)⟩)
  replace hI22 := hI22.move (fun q hq => ⟨rfl, fun _ => hq44 q (by omega)⟩)
  replace hI25 := hI25.move (fun q hq => ⟨rfl, fun _ => hq44 q (by omega)⟩)
  replace hI28 := hI28.move (fun q hq => ⟨rfl, fun _ => hq44 q (by omega)⟩)
  replace hI31 := hI31.move (fun q hq => ⟨rfl, fun _ => hq44 q (by omega)⟩)
  replace hI34 := hI34.move (fun q hq => ⟨rfl, fun _ => hq44 q (by omega)⟩)
  replace hI37 := hI37.move (fun q hq => ⟨rfl, fun _ => hq44 q (by omega)⟩)
  replace hI40 := hI40.move (fun q hq => ⟨rfl, fun _ => hq44 q (by omega)⟩)
  replace hI43 := hI43.move (fun q hq => ⟨rfl, fun _ => hq44 q (by omega)⟩)
  replace hfr := fun q (hq : q < 469) => And.intro (hfr q hq).1 ((hq44 q (by omega)).trans (hfr q hq).2)
  refine q_iconst F d_Mo_init_129 (by decide) (fun v45 hv45 => ?_)
  refine lv_istore_n (lv' := [(1, .int v45), (0, .ref a)]) F.1 F.2.1 d_Mo_init_130 rfl hl (by decide) rfl (fun ls46 hl46 => ?_)
  clear hl
  obtain ⟨i, hi0⟩ : ∃ i : Nat, i = 0 := ⟨_, rfl⟩
  have hiv : v45.toInt = (i : Int) := by omega
  have hib : i ≤ 640 := by omega
  obtain ⟨wl, hwl⟩ : ∃ x : Nat → va_E, x = w44 := ⟨_, rfl⟩
  have hWl : qW D τ A s H44 locs44 ad43 484 wl := by rw [hwl]; exact hW44
  have hP : ∃ G, q_I τ wl 471 640 G ∧ ∀ j, j < i → G j = -1 := ⟨_, by rw [hwl]; exact hI7.use, fun j hj => absurd hj (by omega)⟩
  have hfl : ∀ q, q ≠ 471 → wl q = w44 q := fun q _ => by rw [hwl]
  clear hi0 hv45 hwl
  generalize H44 = Hl at hWl ⊢
  generalize locs44 = locsl at hWl ⊢
  obtain ⟨f, hf⟩ : ∃ f : Nat, 640 + 1 ≤ i + f := ⟨640 + 1, by omega⟩
  induction f generalizing i v45 ls46 wl Hl locsl with
  | zero => exact absurd hf (by omega)
  | succ f ihi =>
    obtain ⟨G, hG, hG1⟩ := id hP
    refine lv_iload_n F.1 F.2.1 d_Mo_init_131 rfl (lv_at hl46 0 rfl) ?_
    refine q_sipush F d_Mo_init_132 (by decide) (fun v47 hv47 => ?_)
    refine q_icmp_ge (tgt := 151) F d_Mo_init_135 (by decide) (fun c48 => ?_) (fun c48 => ?_)
    · replace hI4 := hI4.move (ad1 := ad43) (w1 := wl) (fun q hq => ⟨rfl, fun _ => hfl q (by omega)⟩)
      replace hI10 := hI10.move (ad1 := ad43) (w1 := wl) (fun q hq => ⟨rfl, fun _ => hfl q (by omega)⟩)
      replace hI13 := hI13.move (ad1 := ad43) (w1 := wl) (fun q hq => ⟨rfl, fun _ => hfl q (by omega)⟩)
      replace hI16 := hI16.move (ad1 := ad43) (w1 := wl) (fun q hq => ⟨rfl, fun _ => hfl q (by omega)⟩)
      replace hI19 := hI19.move (ad1 := ad43) (w1 := wl) (fun q hq => ⟨rfl, fun _ => hfl q (by omega)⟩)
      replace hI22 := hI22.move (ad1 := ad43) (w1 := wl) (fun q hq => ⟨rfl, fun _ => hfl q (by omega)⟩)
      replace hI25 := hI25.move (ad1 := ad43) (w1 := wl) (fun q hq => ⟨rfl, fun _ => hfl q (by omega)⟩)
      replace hI28 := hI28.move (ad1 := ad43) (w1 := wl) (fun q hq => ⟨rfl, fun _ => hfl q (by omega)⟩)
      replace hI31 := hI31.move (ad1 := ad43) (w1 := wl) (fun q hq => ⟨rfl, fun _ => hfl q (by omega)⟩)
      replace hI34 := hI34.move (ad1 := ad43) (w1 := wl) (fun q hq => ⟨rfl, fun _ => hfl q (by omega)⟩)
      replace hI37 := hI37.move (ad1 := ad43) (w1 := wl) (fun q hq => ⟨rfl, fun _ => hfl q (by omega)⟩)
      replace hI40 := hI40.move (ad1 := ad43) (w1 := wl) (fun q hq => ⟨rfl, fun _ => hfl q (by omega)⟩)
      replace hI43 := hI43.move (ad1 := ad43) (w1 := wl) (fun q hq => ⟨rfl, fun _ => hfl q (by omega)⟩)
      replace ho := (hfl 469 (by omega)).trans ho
      replace hfr := fun q (hq : q < 469) => And.intro (hfr q hq).1 ((hfl q (by omega)).trans (hfr q hq).2)
      exact W.widen (Nat.le_of_ble_eq_true rfl) (Nat.le_of_ble_eq_true rfl) (q_vretN F hr hlk hWl ⟨fun q hq => (Nat.lt_or_ge q (469)).elim (fun h => (hfr q h).1) (fun h => by rw [show q = 469 by omega]; exact hA0.trans ha.symm), fun q hq => (hfr q hq).2, (by
            intro ad' w' g
            replace g : ∀ q, q < 484 → ad' q = ad43 q ∧ (469 ≤ q → w' q = wl q) := g
            exact ⟨⟨0, v1, 0, 0, 0, by rw [(g 469 (by omega)).2 (by omega), (g 470 (by omega)).1, (g 471 (by omega)).1, (g 472 (by omega)).1, (g 473 (by omega)).1, (g 474 (by omega)).1, (g 475 (by omega)).1, (g 476 (by omega)).1, (g 477 (by omega)).1, (g 478 (by omega)).1, (g 479 (by omega)).1, (g 480 (by omega)).1, (g 481 (by omega)).1, (g 482 (by omega)).1, (g 483 (by omega)).1, ha4, ha7, ha10, ha13, ha16, ha19, ha22, ha25, ha28, ha31, ha34, ha37, ha40, ha43]; exact ho, rfl, hv1, Or.inr ⟨id, rfl⟩, rfl, rfl⟩, ⟨_, (hI4 ad' w' (fun q hq => ⟨(g q (by omega)).1, fun hl => (g q (by omega)).2 (by omega)⟩)), fun _ _ _ _ => rfl⟩, ⟨G, hG.keep ((g 471 (by omega)).2 (by omega)), fun a2 b2 h1 h2 => hG1 _ (by have h1 : a2 < 1 := h1; omega)⟩, ⟨⟨_, (hI10 ad' w' (fun q hq => ⟨(g q (by omega)).1, fun hl => (g q (by omega)).2 (by omega)⟩))⟩, ⟨_, (hI13 ad' w' (fun q hq => ⟨(g q (by omega)).1, fun hl => (g q (by omega)).2 (by omega)⟩))⟩, ⟨_, (hI16 ad' w' (fun q hq => ⟨(g q (by omega)).1, fun hl => (g q (by omega)).2 (by omega)⟩))⟩, ⟨_, (hI19 ad' w' (fun q hq => ⟨(g q (by omega)).1, fun hl => (g q (by omega)).2 (by omega)⟩))⟩, ⟨_, (hI22 ad' w' (fun q hq => ⟨(g q (by omega)).1, fun hl => (g q (by omega)).2 (by omega)⟩))⟩, ⟨_, (hI25 ad' w' (fun q hq => ⟨(g q (by omega)).1, fun hl => (g q (by omega)).2 (by omega)⟩))⟩, ⟨_, (hI28 ad' w' (fun q hq => ⟨(g q (by omega)).1, fun hl => (g q (by omega)).2 (by omega)⟩))⟩, ⟨_, (hI31 ad' w' (fun q hq => ⟨(g q (by omega)).1, fun hl => (g q (by omega)).2 (by omega)⟩))⟩, ⟨_, (hI34 ad' w' (fun q hq => ⟨(g q (by omega)).1, fun hl => (g q (by omega)).2 (by omega)⟩))⟩⟩, fun q => absurd q id, (hI37 ad' w' (fun q hq => ⟨(g q (by omega)).1, fun hl => (g q (by omega)).2 (by omega)⟩)), (hI40 ad' w' (fun q hq => ⟨(g q (by omega)).1, fun hl => (g q (by omega)).2 (by omega)⟩)), (hI43 ad' w' (fun q hq => ⟨(g q (by omega)).1, fun hl => (g q (by omega)).2 (by omega)⟩))⟩)⟩ d_Mo_init_151)
    · have hoi := (hfl 469 (by omega)).trans ho
      refine lv_aload_n F.1 F.2.1 d_Mo_init_138 rfl (lv_at hl46 1 rfl) ?_
      refine q_ad0 hA0 (gf_Mo_17 F hWl (by omega) hoi d_Mo_init_139 ?_)
      refine lv_iload_n F.1 F.2.1 d_Mo_init_142 rfl (lv_at hl46 0 rfl) ?_
      refine q_iconst F d_Mo_init_143 (by decide) (fun v49 hv49 => ?_)
      refine q_ad2 ha7 (q_iast F hWl hG (by omega) i (by omega) (by omega) d_Mo_init_144 (fun H50 locs50 w50 hW50 hI50 hq50 => ?_))
      refine q_iinc (lv' := fun v51 => [(1, .int v51), (0, .ref a)]) F d_Mo_init_145 hl46 (k := 0) rfl (by decide) (by omega) (by decide) (fun _ => rfl) (fun v51 lsv51 hv51 hlv51 => ?_)
      clear hl46
      refine lv_goto (tgt := 131) F.1 F.2.1 d_Mo_init_148 (by decide) ?_
      exact ihi (i := i + 1) (v45 := v51) (ls46 := lsv51) (wl := w50) (Hl := H50) (locsl := locs50) (hiv := by omega) (hib := by omega) (hWl := hW50) (hP := ⟨_, hI50, fun j hj => by unfold q_up; by_cases e : j = i; rw [if_pos e, hv49]; rw [if_neg e]; exact hG1 j (by omega)⟩) (hfl := fun q hq => (hq50 q hq).trans (hfl q hq)) (hf := by omega) (hl46 := (lv_sub hlv51 [0, 1] rfl))
