theorem df_Fo : ∀ j, j < 7 → defaultValue (t_Fo j) = vp_V [.null, .null, .null, .null, .null, .null, .null] j := by
  intro j hj
  match j, hj with
  | 0, _ => rfl
  | 1, _ => rfl
  | 2, _ => rfl
  | 3, _ => rfl
  | 4, _ => rfl
  | 5, _ => rfl
  | 6, _ => rfl
  | i + 7, h => exact absurd h (by omega)
theorem df_La : ∀ j, j < 7 → defaultValue (t_La j) = vp_V [.null, .null, .null, .null, .null, .null, .long 0] j := by
  intro j hj
  match j, hj with
  | 0, _ => rfl
  | 1, _ => rfl
  | 2, _ => rfl
  | 3, _ => rfl
  | 4, _ => rfl
  | 5, _ => rfl
  | 6, _ => rfl
  | i + 7, h => exact absurd h (by omega)
theorem df_Ne : ∀ j, j < 3 → defaultValue (t_Ne j) = vp_V [.null, .null, .int 0] j := by
  intro j hj
  match j, hj with
  | 0, _ => rfl
  | 1, _ => rfl
  | 2, _ => rfl
  | i + 3, h => exact absurd h (by omega)
theorem df_Pa : ∀ j, j < 5 → defaultValue (t_Pa j) = vp_V [.null, .null, .null, .int 0, .int 0] j := by
  intro j hj
  match j, hj with
  | 0, _ => rfl
  | 1, _ => rfl
  | 2, _ => rfl
  | 3, _ => rfl
  | 4, _ => rfl
  | i + 5, h => exact absurd h (by omega)
theorem df_Sc : ∀ j, j < 5 → defaultValue (t_Sc j) = vp_V [.null, .null, .null, .null, .null] j := by
  intro j hj
  match j, hj with
  | 0, _ => rfl
  | 1, _ => rfl
  | 2, _ => rfl
  | 3, _ => rfl
  | 4, _ => rfl
  | i + 5, h => exact absurd h (by omega)
theorem df_Wa : ∀ j, j < 3 → defaultValue (t_Wa j) = vp_V [.null, .null, .null] j := by
  intro j hj
  match j, hj with
  | 0, _ => rfl
  | 1, _ => rfl
  | 2, _ => rfl
  | i + 3, h => exact absurd h (by omega)
theorem df_LR : ∀ j, j < 6 → defaultValue (t_LR j) = vp_V [.null, .null, .null, .null, .null, .int 0] j := by
  intro j hj
  match j, hj with
  | 0, _ => rfl
  | 1, _ => rfl
  | 2, _ => rfl
  | 3, _ => rfl
  | 4, _ => rfl
  | 5, _ => rfl
  | i + 6, h => exact absurd h (by omega)
theorem df_Mo : ∀ j, j < 19 → defaultValue (t_Mo j) = vp_V [.int 0, .int 0, .null, .null, .null, .null, .null, .null, .int 0, .null, .null, .null, .null, .null, .int 0, .int 0, .null, .null, .null] j := by
  intro j hj
  match j, hj with
  | 0, _ => rfl
  | 1, _ => rfl
  | 2, _ => rfl
  | 3, _ => rfl
  | 4, _ => rfl
  | 5, _ => rfl
  | 6, _ => rfl
  | 7, _ => rfl
  | 8, _ => rfl
  | 9, _ => rfl
  | 10, _ => rfl
  | 11, _ => rfl
  | 12, _ => rfl
  | 13, _ => rfl
  | 14, _ => rfl
  | 15, _ => rfl
  | 16, _ => rfl
  | 17, _ => rfl
  | 18, _ => rfl
  | i + 19, h => exact absurd h (by omega)
set_option maxHeartbeats 4000000 in
set_option maxRecDepth 100000 in
theorem k_Ne_init (l : Launch) (D : va_G) (τ : Nat → ClassId) (A : Nat → Prop) (ad : Nat → Nat) (w : Nat → va_E) (b : Nat) (a : Nat) (ha : ad (b) = a) (hw : w (b) = .inr (2, [.null, .null, .int 0])) : Met l y_Ne_init (qws y_Ne_init c_Ne_init 1 none) ({ frames := 2, cells := 82, slots := 1360, locals := 45 }) (qPn D τ A ad (b + 1) w [.ref a]) (va_Qv (fun x => (∀ q, q ≤ b → x.1 q = ad q) ∧ (∀ q, q < b → x.2 q = w q) ∧ qRb (b) (b + 83) (fun ad w => qNet τ ad w b 1 (fun _ _ => -1) (fun _ _ => 0)) x) (qBn D τ A (b + 83)) A) 82 1360 A := by
  refine qn_of (by decide) (Nat.le_of_ble_eq_true rfl) rfl ?_
  intro PP EE s MM below meth CC ls F hr hlk hnm hl hW hst hao
  have hl : lv_has ls 1 [(0, .ref a)] := hl
  have hA0 := ha
  have ho := hw
  have hfr : ∀ q, q < b → ad q = ad q ∧ w q = w q := fun _ _ => ⟨rfl, rfl⟩
  refine lv_aload_n F.1 F.2.1 d_Ne_init_0 rfl (lv_at hl 0 rfl) ?_
  refine q_obj F tw_32 hl.1 d_Ne_init_1 (Nat.le_of_ble_eq_true rfl) (Nat.le_of_ble_eq_true rfl) ?_
  refine lv_aload_n F.1 F.2.1 d_Ne_init_4 rfl (lv_at hl 0 rfl) ?_
  refine q_bipush F d_Ne_init_5 (by decide) (fun v1 hv1 => ?_)
  refine q_bipush F d_Ne_init_7 (by decide) (fun v2 hv2 => ?_)
  refine q_mna F hW hao tw_33 40 16 (by omega) (by omega) (by omega) (by omega) (Nat.le_of_ble_eq_true rfl) (Nat.le_of_ble_eq_true rfl) d_Ne_init_9 (fun q3 ad3 w3 H3 he3 ha3 hI3 hW3 => ?_)
  replace hW3 : qW D τ A s H3 ([] : List Loc) ad3 (b + 42) w3 := hW3
  replace ho := (he3 b (by omega)).2.trans ho
  replace hA0 := (he3 (b) (by omega)).1.trans hA0
  replace hfr := fun q (hq : q < b) => And.intro ((he3 q (by omega)).1.trans (hfr q hq).1) ((he3 q (by omega)).2.trans (hfr q hq).2)
  replace hI3 := qRb.G hI3
  refine q_ad1 hA0 (pf_Ne_11 F hW3 hnm (by omega) ho d_Ne_init_13 (fun H4 locs4 w4 hW4 hI4 hq4 => ?_))
  replace ho := hI4
  replace hI3 := hI3.move (fun q hq => ⟨rfl, fun _ => hq4 q (by omega)⟩)
  replace hfr := fun q (hq : q < b) => And.intro (hfr q hq).1 ((hq4 q (by omega)).trans (hfr q hq).2)
  refine lv_aload_n F.1 F.2.1 d_Ne_init_16 rfl (lv_at hl 0 rfl) ?_
  refine q_bipush F d_Ne_init_17 (by decide) (fun v5 hv5 => ?_)
  refine q_bipush F d_Ne_init_19 (by decide) (fun v6 hv6 => ?_)
  refine q_mna F hW4 hao tw_33 40 16 (by omega) (by omega) (by omega) (by omega) (Nat.le_of_ble_eq_true rfl) (Nat.le_of_ble_eq_true rfl) d_Ne_init_21 (fun q7 ad7 w7 H7 he7 ha7 hI7 hW7 => ?_)
  replace hW7 : qW D τ A s H7 locs4 ad7 (b + 83) w7 := hW7
  replace ho := (he7 b (by omega)).2.trans ho
  replace hA0 := (he7 (b) (by omega)).1.trans hA0
  replace ha3 := (he7 (b + 1) (by omega)).1.trans ha3
  replace hI3 := hI3.move (fun q hq => ⟨(he7 q (by omega)).1, fun _ => (he7 q (by omega)).2⟩)
  replace hfr := fun q (hq : q < b) => And.intro ((he7 q (by omega)).1.trans (hfr q hq).1) ((he7 q (by omega)).2.trans (hfr q hq).2)
  replace hI7 := qRb.G hI7
  refine q_ad1 hA0 (pf_Ne_16 F hW7 hnm (by omega) ho d_Ne_init_25 (fun H8 locs8 w8 hW8 hI8 hq8 => ?_))
  replace ho := hI8
  replace hI3 := hI3.move (fun q hq => ⟨rfl, fun _ => hq8 q (by omega)⟩)
  replace hI7 := hI7.move (fun q hq => ⟨rfl, fun _ => hq8 q (by omega)⟩)
  replace hfr := fun q (hq : q < b) => And.intro (hfr q hq).1 ((hq8 q (by omega)).trans (hfr q hq).2)
  refine lv_aload_n F.1 F.2.1 d_Ne_init_28 rfl (lv_at hl 0 rfl) ?_
  refine q_iconst F d_Ne_init_29 (by decide) (fun v9 hv9 => ?_)
  have hN : qNet τ ad7 w8 b 0 (fun _ _ => 0) (fun _ _ => 0) := ⟨⟨0, by rw [ha3, ha7]; exact ho, rfl⟩, hI3.use, hI7.use⟩
  refine q_ad1 hA0 ?_
  refine q_callv hW8 (q_cV (As := [.int v9]) (rest := []) F hW8 cs_Ne_19 hd_Ne_clear rfl (by omega) ho (k_Ne_clear l D τ A ad7 (b + 83) w8 b (by omega) 0 _ _ hN v9) rfl rfl ⟨by decide, by decide⟩ rfl hl.1 rfl (Nat.le_of_ble_eq_true rfl) d_Ne_init_30 ⟨Nat.le_of_ble_eq_true rfl, Nat.le_of_ble_eq_true rfl⟩) (fun w10 H10 locs10 hp10 hW10 => ?_)
  obtain ⟨hN2, hf2⟩ := hp10
  rw [hv9] at hN2
  replace hfr := fun q (hq : q < b) => And.intro (hfr q hq).1 ((hf2 q (by omega)).trans (hfr q hq).2)
  exact W.widen (Nat.le_of_ble_eq_true rfl) (Nat.le_of_ble_eq_true rfl) (q_vretN F hr hlk hW10 ⟨fun q hq => (Nat.lt_or_ge q (b)).elim (fun h => (hfr q h).1) (fun h => by rw [show q = b by omega]; exact hA0.trans ha.symm), fun q hq => (hfr q hq).2, qRb.N hN2⟩ d_Ne_init_33)
set_option maxHeartbeats 4000000 in
set_option maxRecDepth 100000 in
theorem k_Wa_init (l : Launch) (D : va_G) (τ : Nat → ClassId) (A : Nat → Prop) (ad : Nat → Nat) (w : Nat → va_E) (a : Nat) (ha : ad (168) = a) (hw : w (168) = .inr (5, [.null, .null, .null])) (a1 : Nat) : Met l y_Wa_init (qws y_Wa_init c_Wa_init 2 none) ({ frames := 1, cells := 82, slots := 3280, locals := 20 }) (qPn D τ A ad (169) w [.ref a, .ref a1]) (va_Qv (fun x => (∀ q, q ≤ 168 → x.1 q = ad q) ∧ (∀ q, q < 168 → x.2 q = w q) ∧ qRb (168) (251) (fun ad w => w 168 = .inr (5, [.ref a1, .ref (ad 169), .ref (ad 210)]) ∧ (∃ F0, q_G τ ad w 169 40 40 F0) ∧ ∃ O0, q_G τ ad w 210 40 40 O0) x) (qBn D τ A (251)) A) 82 3280 A := by
  refine qn_of (by decide) (Nat.le_of_ble_eq_true rfl) rfl ?_
  intro PP EE s MM below meth CC ls F hr hlk hnm hl hW hst hao
  have hl : lv_has ls 2 [(0, .ref a), (1, .ref a1)] := hl
  have hA0 := ha
  have ho := hw
  have hfr : ∀ q, q < 168 → ad q = ad q ∧ w q = w q := fun _ _ => ⟨rfl, rfl⟩
  refine lv_aload_n F.1 F.2.1 d_Wa_init_0 rfl (lv_at hl 0 rfl) ?_
  refine q_obj F tw_66 hl.1 d_Wa_init_1 (Nat.le_of_ble_eq_true rfl) (Nat.le_of_ble_eq_true rfl) ?_
  refine lv_aload_n F.1 F.2.1 d_Wa_init_4 rfl (lv_at hl 0 rfl) ?_
  refine q_bipush F d_Wa_init_5 (by decide) (fun v1 hv1 => ?_)
  refine q_bipush F d_Wa_init_7 (by decide) (fun v2 hv2 => ?_)
  refine q_mna F hW hao tw_67 40 40 (by omega) (by omega) (by omega) (by omega) (Nat.le_of_ble_eq_true rfl) (Nat.le_of_ble_eq_true rfl) d_Wa_init_9 (fun q3 ad3 w3 H3 he3 ha3 hI3 hW3 => ?_)
  replace hW3 : qW D τ A s H3 ([] : List Loc) ad3 (210) w3 := hW3
  replace ho := (he3 168 (by omega)).2.trans ho
  replace hA0 := (he3 (168) (by omega)).1.trans hA0
  replace hfr := fun q (hq : q < 168) => And.intro ((he3 q (by omega)).1.trans (hfr q hq).1) ((he3 q (by omega)).2.trans (hfr q hq).2)
  replace hI3 := qRb.G hI3
  refine q_ad1 hA0 (pf_Wa_11 F hW3 hnm (by omega) ho d_Wa_init_13 (fun H4 locs4 w4 hW4 hI4 hq4 => ?_))
  replace ho := hI4
  replace hI3 := hI3.move (fun q hq => ⟨rfl, fun _ => hq4 q (by omega)⟩)
  replace hfr := fun q (hq : q < 168) => And.intro (hfr q hq).1 ((hq4 q (by omega)).trans (hfr q hq).2)
  refine lv_aload_n F.1 F.2.1 d_Wa_init_16 rfl (lv_at hl 0 rfl) ?_
  refine q_bipush F d_Wa_init_17 (by decide) (fun v5 hv5 => ?_)
  refine q_bipush F d_Wa_init_19 (by decide) (fun v6 hv6 => ?_)
  refine q_mna F hW4 hao tw_67 40 40 (by omega) (by omega) (by omega) (by omega) (Nat.le_of_ble_eq_true rfl) (Nat.le_of_ble_eq_true rfl) d_Wa_init_21 (fun q7 ad7 w7 H7 he7 ha7 hI7 hW7 => ?_)
  replace hW7 : qW D τ A s H7 locs4 ad7 (251) w7 := hW7
  replace ho := (he7 168 (by omega)).2.trans ho
  replace hA0 := (he7 (168) (by omega)).1.trans hA0
  replace ha3 := (he7 (169) (by omega)).1.trans ha3
  replace hI3 := hI3.move (fun q hq => ⟨(he7 q (by omega)).1, fun _ => (he7 q (by omega)).2⟩)
  replace hfr := fun q (hq : q < 168) => And.intro ((he7 q (by omega)).1.trans (hfr q hq).1) ((he7 q (by omega)).2.trans (hfr q hq).2)
  replace hI7 := qRb.G hI7
  refine q_ad1 hA0 (pf_Wa_16 F hW7 hnm (by omega) ho d_Wa_init_25 (fun H8 locs8 w8 hW8 hI8 hq8 => ?_))
  replace ho := hI8
  replace hI3 := hI3.move (fun q hq => ⟨rfl, fun _ => hq8 q (by omega)⟩)
  replace hI7 := hI7.move (fun q hq => ⟨rfl, fun _ => hq8 q (by omega)⟩)
  replace hfr := fun q (hq : q < 168) => And.intro (hfr q hq).1 ((hq8 q (by omega)).trans (hfr q hq).2)
  refine lv_aload_n F.1 F.2.1 d_Wa_init_28 rfl (lv_at hl 0 rfl) ?_
  refine lv_aload_n F.1 F.2.1 d_Wa_init_29 rfl (lv_at hl 1 rfl) ?_
  refine q_ad1 hA0 (pf_Wa_19 F hW8 hnm (by omega) ho d_Wa_init_30 (fun H9 locs9 w9 hW9 hI9 hq9 => ?_))
  replace ho := hI9
  replace hI3 := hI3.move (fun q hq => ⟨rfl, fun _ => hq9 q (by omega)⟩)
  replace hI7 := hI7.move (fun q hq => ⟨rfl, fun _ => hq9 q (by omega)⟩)
  replace hfr := fun q (hq : q < 168) => And.intro (hfr q hq).1 ((hq9 q (by omega)).trans (hfr q hq).2)
  exact W.widen (Nat.le_of_ble_eq_true rfl) (Nat.le_of_ble_eq_true rfl) (q_vretN F hr hlk hW9 ⟨fun q hq => (Nat.lt_or_ge q (168)).elim (fun h => (hfr q h).1) (fun h => by rw [show q = 168 by omega]; exact hA0.trans ha.symm), fun q hq => (hfr q hq).2, (by intro ad' w' g; replace g : ∀ q, q < 251 → ad' q = ad7 q ∧ (168 ≤ q → w' q = w9 q) := g; exact ⟨by rw [(g (168) (by omega)).2 (by omega), (g (169) (by omega)).1, (g (210) (by omega)).1, ha3, ha7]; exact ho, ⟨_, (hI3 ad' w' (fun q hq => ⟨(g q (by omega)).1, fun hl => (g q (by omega)).2 (by omega)⟩))⟩, ⟨_, (hI7 ad' w' (fun q hq => ⟨(g q (by omega)).1, fun hl => (g q (by omega)).2 (by omega)⟩))⟩⟩)⟩ d_Wa_init_33)
set_option maxHeartbeats 4000000 in
set_option maxRecDepth 100000 in
theorem k_La_init (l : Launch) (D : va_G) (τ : Nat → ClassId) (A : Nat → Prop) (ad : Nat → Nat) (w : Nat → va_E) (a : Nat) (ha : ad (251) = a) (hw : w (251) = .inr (1, [.null, .null, .null, .null, .null, .null, .long 0])) (a1 a2 : Nat) : Met l y_La_init (qws y_La_init c_La_init 3 none) ({ frames := 1, cells := 4, slots := 160, locals := 20 }) (qPn D τ A ad (252) w [.ref a, .ref a1, .ref a2]) (va_Qv (fun x => (∀ q, q ≤ 251 → x.1 q = ad q) ∧ (∀ q, q < 251 → x.2 q = w q) ∧ qRb (251) (256) (fun ad w => w 251 = .inr (1, [.ref a1, .ref a2, .ref (ad 252), .ref (ad 253), .ref (ad 254), .ref (ad 255), .long (lN 0)]) ∧ q_J τ w 252 40 (fun _ => 0) ∧ q_J τ w 253 40 (fun _ => 0) ∧ q_I τ w 254 40 (fun _ => 0) ∧ q_I τ w 255 40 (fun _ => 0)) x) (qBn D τ A (256)) A) 4 160 A := by
  refine qn_of (by decide) (Nat.le_of_ble_eq_true rfl) rfl ?_
  intro PP EE s MM below meth CC ls F hr hlk hnm hl hW hst hao
  have hl : lv_has ls 3 [(0, .ref a), (1, .ref a1), (2, .ref a2)] := hl
  have hA0 := ha
  have ho := hw
  have hfr : ∀ q, q < 251 → ad q = ad q ∧ w q = w q := fun _ _ => ⟨rfl, rfl⟩
  refine lv_aload_n F.1 F.2.1 d_La_init_0 rfl (lv_at hl 0 rfl) ?_
  refine q_obj F tw_83 hl.1 d_La_init_1 (Nat.le_of_ble_eq_true rfl) (Nat.le_of_ble_eq_true rfl) ?_
  refine lv_aload_n F.1 F.2.1 d_La_init_4 rfl (lv_at hl 0 rfl) ?_
  refine q_bipush F d_La_init_5 (by decide) (fun v1 hv1 => ?_)
  refine q_newJ F hW 40 (by omega) (by omega) (Nat.le_of_ble_eq_true rfl) (Nat.le_of_ble_eq_true rfl) d_La_init_7 (fun q2 ad2 w2 H2 he2 ha2 hI2 hW2 => ?_)
  replace hW2 : qW D τ A s H2 ([] : List Loc) ad2 (253) w2 := hW2
  replace ho := (he2 251 (by omega)).2.trans ho
  replace hA0 := (he2 (251) (by omega)).1.trans hA0
  replace hfr := fun q (hq : q < 251) => And.intro ((he2 q (by omega)).1.trans (hfr q hq).1) ((he2 q (by omega)).2.trans (hfr q hq).2)
  replace hI2 := qRb.J (ad := ad2) hI2
  refine q_ad1 hA0 (pf_La_9 F hW2 hnm (by omega) ho d_La_init_9 (fun H3 locs3 w3 hW3 hI3 hq3 => ?_))
  replace ho := hI3
  replace hI2 := hI2.move (fun q hq => ⟨rfl, fun _ => hq3 q (by omega)⟩)
  replace hfr := fun q (hq : q < 251) => And.intro (hfr q hq).1 ((hq3 q (by omega)).trans (hfr q hq).2)
  refine lv_aload_n F.1 F.2.1 d_La_init_12 rfl (lv_at hl 0 rfl) ?_
  refine q_bipush F d_La_init_13 (by decide) (fun v4 hv4 => ?_)
  refine q_newJ F hW3 40 (by omega) (by omega) (Nat.le_of_ble_eq_true rfl) (Nat.le_of_ble_eq_true rfl) d_La_init_15 (fun q5 ad5 w5 H5 he5 ha5 hI5 hW5 => ?_)
  replace hW5 : qW D τ A s H5 locs3 ad5 (254) w5 := hW5
  replace ho := (he5 251 (by omega)).2.trans ho
  replace hA0 := (he5 (251) (by omega)).1.trans hA0
  replace ha2 := (he5 (252) (by omega)).1.trans ha2
  replace hI2 := hI2.move (fun q hq => ⟨(he5 q (by omega)).1, fun _ => (he5 q (by omega)).2⟩)
  replace hfr := fun q (hq : q < 251) => And.intro ((he5 q (by omega)).1.trans (hfr q hq).1) ((he5 q (by omega)).2.trans (hfr q hq).2)
  replace hI5 := qRb.J (ad := ad5) hI5
  refine q_ad1 hA0 (pf_La_15 F hW5 hnm (by omega) ho d_La_init_17 (fun H6 locs6 w6 hW6 hI6 hq6 => ?_))
  replace ho := hI6
  replace hI2 := hI2.move (fun q hq => ⟨rfl, fun _ => hq6 q (by omega)⟩)
  replace hI5 := hI5.move (fun q hq => ⟨rfl, fun _ => hq6 q (by omega)⟩)
  replace hfr := fun q (hq : q < 251) => And.intro (hfr q hq).1 ((hq6 q (by omega)).trans (hfr q hq).2)
  refine lv_aload_n F.1 F.2.1 d_La_init_20 rfl (lv_at hl 0 rfl) ?_
  refine q_bipush F d_La_init_21 (by decide) (fun v7 hv7 => ?_)
  refine q_newI F hW6 40 (by omega) (by omega) (Nat.le_of_ble_eq_true rfl) (Nat.le_of_ble_eq_true rfl) d_La_init_23 (fun q8 ad8 w8 H8 he8 ha8 hI8 hW8 => ?_)
  replace hW8 : qW D τ A s H8 locs6 ad8 (255) w8 := hW8
  replace ho := (he8 251 (by omega)).2.trans ho
  replace hA0 := (he8 (251) (by omega)).1.trans hA0
  replace ha2 := (he8 (252) (by omega)).1.trans ha2
  replace ha5 := (he8 (253) (by omega)).1.trans ha5
  replace hI2 := hI2.move (fun q hq => ⟨(he8 q (by omega)).1, fun _ => (he8 q (by omega)).2⟩)
  replace hI5 := hI5.move (fun q hq => ⟨(he8 q (by omega)).1, fun _ => (he8 q (by omega)).2⟩)
  replace hfr := fun q (hq : q < 251) => And.intro ((he8 q (by omega)).1.trans (hfr q hq).1) ((he8 q (by omega)).2.trans (hfr q hq).2)
  replace hI8 := qRb.I (ad := ad8) hI8
  refine q_ad1 hA0 (pf_La_18 F hW8 hnm (by omega) ho d_La_init_25 (fun H9 locs9 w9 hW9 hI9 hq9 => ?_))
  replace ho := hI9
  replace hI2 := hI2.move (fun q hq => ⟨rfl, fun _ => hq9 q (by omega)⟩)
  replace hI5 := hI5.move (fun q hq => ⟨rfl, fun _ => hq9 q (by omega)⟩)
  replace hI8 := hI8.move (fun q hq => ⟨rfl, fun _ => hq9 q (by omega)⟩)
  replace hfr := fun q (hq : q < 251) => And.intro (hfr q hq).1 ((hq9 q (by omega)).trans (hfr q hq).2)
  refine lv_aload_n F.1 F.2.1 d_La_init_28 rfl (lv_at hl 0 rfl) ?_
  refine q_bipush F d_La_init_29 (by decide) (fun v10 hv10 => ?_)
  refine q_newI F hW9 40 (by omega) (by omega) (Nat.le_of_ble_eq_true rfl) (Nat.le_of_ble_eq_true rfl) d_La_init_31 (fun q11 ad11 w11 H11 he11 ha11 hI11 hW11 => ?_)
  replace hW11 : qW D τ A s H11 locs9 ad11 (256) w11 := hW11
  replace ho := (he11 251 (by omega)).2.trans ho
  replace hA0 := (he11 (251) (by omega)).1.trans hA0
  replace ha2 := (he11 (252) (by omega)).1.trans ha2
  replace ha5 := (he11 (253) (by omega)).1.trans ha5
  replace ha8 := (he11 (254) (by omega)).1.trans ha8
  replace hI2 := hI2.move (fun q hq => ⟨(he11 q (by omega)).1, fun _ => (he11 q (by omega)).2⟩)
  replace hI5 := hI5.move (fun q hq => ⟨(he11 q (by omega)).1, fun _ => (he11 q (by omega)).2⟩)
  replace hI8 := hI8.move (fun q hq => ⟨(he11 q (by omega)).1, fun _ => (he11 q (by omega)).2⟩)
  replace hfr := fun q (hq : q < 251) => And.intro ((he11 q (by omega)).1.trans (hfr q hq).1) ((he11 q (by omega)).2.trans (hfr q hq).2)
  replace hI11 := qRb.I (ad := ad11) hI11
  refine q_ad1 hA0 (pf_La_22 F hW11 hnm (by omega) ho d_La_init_33 (fun H12 locs12 w12 hW12 hI12 hq12 => ?_))
  replace ho := hI12
  replace hI2 := hI2.move (fun q hq => ⟨rfl, fun _ => hq12 q (by omega)⟩)
  replace hI5 := hI5.move (fun q hq => ⟨rfl, fun _ => hq12 q (by omega)⟩)
  replace hI8 := hI8.move (fun q hq => ⟨rfl, fun _ => hq12 q (by omega)⟩)
  replace hI11 := hI11.move (fun q hq => ⟨rfl, fun _ => hq12 q (by omega)⟩)
  replace hfr := fun q (hq : q < 251) => And.intro (hfr q hq).1 ((hq12 q (by omega)).trans (hfr q hq).2)
  refine lv_aload_n F.1 F.2.1 d_La_init_36 rfl (lv_at hl 0 rfl) ?_
  refine lv_aload_n F.1 F.2.1 d_La_init_37 rfl (lv_at hl 1 rfl) ?_
  refine q_ad1 hA0 (pf_La_25 F hW12 hnm (by omega) ho d_La_init_38 (fun H13 locs13 w13 hW13 hI13 hq13 => ?_))
  replace ho := hI13
  replace hI2 := hI2.move (fun q hq => ⟨rfl, fun _ => hq13 q (by omega)⟩)
  replace hI5 := hI5.move (fun q hq => ⟨rfl, fun _ => hq13 q (by omega)⟩)
  replace hI8 := hI8.move (fun q hq => ⟨rfl, fun _ => hq13 q (by omega)⟩)
  replace hI11 := hI11.move (fun q hq => ⟨rfl, fun _ => hq13 q (by omega)⟩)
  replace hfr := fun q (hq : q < 251) => And.intro (hfr q hq).1 ((hq13 q (by omega)).trans (hfr q hq).2)
  refine lv_aload_n F.1 F.2.1 d_La_init_41 rfl (lv_at hl 0 rfl) ?_
  refine lv_aload_n F.1 F.2.1 d_La_init_42 rfl (lv_at hl 2 rfl) ?_
  refine q_ad1 hA0 (pf_La_29 F hW13 hnm (by omega) ho d_La_init_43 (fun H14 locs14 w14 hW14 hI14 hq14 => ?_))
  replace ho := hI14
  replace hI2 := hI2.move (fun q hq => ⟨rfl, fun _ => hq14 q (by omega)⟩)
  replace hI5 := hI5.move (fun q hq => ⟨rfl, fun _ => hq14 q (by omega)⟩)
  replace hI8 := hI8.move (fun q hq => ⟨rfl, fun _ => hq14 q (by omega)⟩)
  replace hI11 := hI11.move (fun q hq => ⟨rfl, fun _ => hq14 q (by omega)⟩)
  replace hfr := fun q (hq : q < 251) => And.intro (hfr q hq).1 ((hq14 q (by omega)).trans (hfr q hq).2)
  exact W.widen (Nat.le_of_ble_eq_true rfl) (Nat.le_of_ble_eq_true rfl) (q_vretN F hr hlk hW14 ⟨fun q hq => (Nat.lt_or_ge q (251)).elim (fun h => (hfr q h).1) (fun h => by rw [show q = 251 by omega]; exact hA0.trans ha.symm), fun q hq => (hfr q hq).2, (by intro ad' w' g; replace g : ∀ q, q < 256 → ad' q = ad11 q ∧ (251 ≤ q → w' q = w14 q) := g; exact ⟨by rw [(g (251) (by omega)).2 (by omega), (g (252) (by omega)).1, (g (253) (by omega)).1, (g (254) (by omega)).1, (g (255) (by omega)).1, ha2, ha5, ha8, ha11]; exact ho, (hI2 ad' w' (fun q hq => ⟨(g q (by omega)).1, fun hl => (g q (by omega)).2 (by omega)⟩)), (hI5 ad' w' (fun q hq => ⟨(g q (by omega)).1, fun hl => (g q (by omega)).2 (by omega)⟩)), (hI8 ad' w' (fun q hq => ⟨(g q (by omega)).1, fun hl => (g q (by omega)).2 (by omega)⟩)), (hI11 ad' w' (fun q hq => ⟨(g q (by omega)).1, fun hl => (g q (by omega)).2 (by omega)⟩))⟩)⟩ d_La_init_46)
set_option maxHeartbeats 4000000 in
set_option maxRecDepth 100000 in
theorem k_Fo_init (l : Launch) (D : va_G) (τ : Nat → ClassId) (A : Nat → Prop) (ad : Nat → Nat) (w : Nat → va_E) (a : Nat) (ha : ad (256) = a) (hw : w (256) = .inr (0, [.null, .null, .null, .null, .null, .null, .null])) (a1 a2 : Nat) : Met l y_Fo_init (qws y_Fo_init c_Fo_init 3 none) ({ frames := 1, cells := 165, slots := 6600, locals := 20 }) (qPn D τ A ad (257) w [.ref a, .ref a1, .ref a2]) (va_Qv (fun x => (∀ q, q ≤ 256 → x.1 q = ad q) ∧ (∀ q, q < 256 → x.2 q = w q) ∧ qRb (256) (422) (fun ad w => w 256 = .inr (0, [.ref a1, .ref a2, .ref (ad 257), .ref (ad 298), .ref (ad 339), .ref (ad 380), .ref (ad 421)]) ∧ q_G τ ad w 257 40 40 (fun _ _ => 0) ∧ q_G τ ad w 298 40 40 (fun _ _ => 0) ∧ q_G τ ad w 339 40 40 (fun _ _ => 0) ∧ q_G τ ad w 380 40 40 (fun _ _ => 0) ∧ q_I τ w 421 40 (fun _ => 0)) x) (qBn D τ A (422)) A) 165 6600 A := by
  refine qn_of (by decide) (Nat.le_of_ble_eq_true rfl) rfl ?_
  intro PP EE s MM below meth CC ls F hr hlk hnm hl hW hst hao
  have hl : lv_has ls 3 [(0, .ref a), (1, .ref a1), (2, .ref a2)] := hl
  have hA0 := ha
  have ho := hw
  have hfr : ∀ q, q < 256 → ad q = ad q ∧ w q = w q := fun _ _ => ⟨rfl, rfl⟩
  refine lv_aload_n F.1 F.2.1 d_Fo_init_0 rfl (lv_at hl 0 rfl) ?_
  refine q_obj F tw_112 hl.1 d_Fo_init_1 (Nat.le_of_ble_eq_true rfl) (Nat.le_of_ble_eq_true rfl) ?_
  refine lv_aload_n F.1 F.2.1 d_Fo_init_4 rfl (lv_at hl 0 rfl) ?_
  refine q_bipush F d_Fo_init_5 (by decide) (fun v1 hv1 => ?_)
  refine q_bipush F d_Fo_init_7 (by decide) (fun v2 hv2 => ?_)
  refine q_mna F hW hao tw_113 40 40 (by omega) (by omega) (by omega) (by omega) (Nat.le_of_ble_eq_true rfl) (Nat.le_of_ble_eq_true rfl) d_Fo_init_9 (fun q3 ad3 w3 H3 he3 ha3 hI3 hW3 => ?_)
  replace hW3 : qW D τ A s H3 ([] : List Loc) ad3 (298) w3 := hW3
  replace ho := (he3 256 (by omega)).2.trans ho
  replace hA0 := (he3 (256) (by omega)).1.trans hA0
  replace hfr := fun q (hq : q < 256) => And.intro ((he3 q (by omega)).1.trans (hfr q hq).1) ((he3 q (by omega)).2.trans (hfr q hq).2)
  replace hI3 := qRb.G hI3
  refine q_ad1 hA0 (pf_Fo_11 F hW3 hnm (by omega) ho d_Fo_init_13 (fun H4 locs4 w4 hW4 hI4 hq4 => ?_))
  replace ho := hI4
  replace hI3 := hI3.move (fun q hq => ⟨rfl, fun _ => hq4 q (by omega)⟩)
  replace hfr := fun q (hq : q < 256) => And.intro (hfr q hq).1 ((hq4 q (by omega)).trans (hfr q hq).2)
  refine lv_aload_n F.1 F.2.1 d_Fo_init_16 rfl (lv_at hl 0 rfl) ?_
  refine q_bipush F d_Fo_init_17 (by decide) (fun v5 hv5 => ?_)
  refine q_bipush F d_Fo_init_19 (by decide) (fun v6 hv6 => ?_)
  refine q_mna F hW4 hao tw_113 40 40 (by omega) (by omega) (by omega) (by omega) (Nat.le_of_ble_eq_true rfl) (Nat.le_of_ble_eq_true rfl) d_Fo_init_21 (fun q7 ad7 w7 H7 he7 ha7 hI7 hW7 => ?_)
  replace hW7 : qW D τ A s H7 locs4 ad7 (339) w7 := hW7
  replace ho := (he7 256 (by omega)).2.trans ho
  replace hA0 := (he7 (256) (by omega)).1.trans hA0
  replace ha3 := (he7 (257) (by omega)).1.trans ha3
  replace hI3 := hI3.move (fun q hq => ⟨(he7 q (by omega)).1, fun _ => (he7 q (by omega)).2⟩)
  replace hfr := fun q (hq : q < 256) => And.intro ((he7 q (by omega)).1.trans (hfr q hq).1) ((he7 q (by omega)).2.trans (hfr q hq).2)
  replace hI7 := qRb.G hI7
  refine q_ad1 hA0 (pf_Fo_16 F hW7 hnm (by omega) ho d_Fo_init_25 (fun H8 locs8 w8 hW8 hI8 hq8 => ?_))
  replace ho := hI8
  replace hI3 := hI3.move (fun q hq => ⟨rfl, fun _ => hq8 q (by omega)⟩)
  replace hI7 := hI7.move (fun q hq => ⟨rfl, fun _ => hq8 q (by omega)⟩)
  replace hfr := fun q (hq : q < 256) => And.intro (hfr q hq).1 ((hq8 q (by omega)).trans (hfr q hq).2)
  refine lv_aload_n F.1 F.2.1 d_Fo_init_28 rfl (lv_at hl 0 rfl) ?_
  refine q_bipush F d_Fo_init_29 (by decide) (fun v9 hv9 => ?_)
  refine q_bipush F d_Fo_init_31 (by decide) (fun v10 hv10 => ?_)
  refine q_mna F hW8 hao tw_113 40 40 (by omega) (by omega) (by omega) (by omega) (Nat.le_of_ble_eq_true rfl) (Nat.le_of_ble_eq_true rfl) d_Fo_init_33 (fun q11 ad11 w11 H11 he11 ha11 hI11 hW11 => ?_)
  replace hW11 : qW D τ A s H11 locs8 ad11 (380) w11 := hW11
  replace ho := (he11 256 (by omega)).2.trans ho
  replace hA0 := (he11 (256) (by omega)).1.trans hA0
  replace ha3 := (he11 (257) (by omega)).1.trans ha3
  replace ha7 := (he11 (298) (by omega)).1.trans ha7
  replace hI3 := hI3.move (fun q hq => ⟨(he11 q (by omega)).1, fun _ => (he11 q (by omega)).2⟩)
  replace hI7 := hI7.move (fun q hq => ⟨(he11 q (by omega)).1, fun _ => (he11 q (by omega)).2⟩)
  replace hfr := fun q (hq : q < 256) => And.intro ((he11 q (by omega)).1.trans (hfr q hq).1) ((he11 q (by omega)).2.trans (hfr q hq).2)
  replace hI11 := qRb.G hI11
  refine q_ad1 hA0 (pf_Fo_19 F hW11 hnm (by omega) ho d_Fo_init_37 (fun H12 locs12 w12 hW12 hI12 hq12 => ?_))
  replace ho := hI12
  replace hI3 := hI3.move (fun q hq => ⟨rfl, fun _ => hq12 q (by omega)⟩)
  replace hI7 := hI7.move (fun q hq => ⟨rfl, fun _ => hq12 q (by omega)⟩)
  replace hI11 := hI11.move (fun q hq => ⟨rfl, fun _ => hq12 q (by omega)⟩)
  replace hfr := fun q (hq : q < 256) => And.intro (hfr q hq).1 ((hq12 q (by omega)).trans (hfr q hq).2)
  refine lv_aload_n F.1 F.2.1 d_Fo_init_40 rfl (lv_at hl 0 rfl) ?_
  refine q_bipush F d_Fo_init_41 (by decide) (fun v13 hv13 => ?_)
  refine q_bipush F d_Fo_init_43 (by decide) (fun v14 hv14 => ?_)
  refine q_mna F hW12 hao tw_113 40 40 (by omega) (by omega) (by omega) (by omega) (Nat.le_of_ble_eq_true rfl) (Nat.le_of_ble_eq_true rfl) d_Fo_init_45 (fun q15 ad15 w15 H15 he15 ha15 hI15 hW15 => ?_)
  replace hW15 : qW D τ A s H15 locs12 ad15 (421) w15 := hW15
  replace ho := (he15 256 (by omega)).2.trans ho
  replace hA0 := (he15 (256) (by omega)).1.trans hA0
  replace ha3 := (he15 (257) (by omega)).1.trans ha3
  replace ha7 := (he15 (298) (by omega)).1.trans ha7
  replace ha11 := (he15 (339) (by omega)).1.trans ha11
  replace hI3 := hI3.move (fun q hq => ⟨(he15 q (by omega)).1, fun _ => (he15 q (by omega)).2⟩)
  replace hI7 := hI7.move (fun q hq => ⟨(he15 q (by omega)).1, fun _ => (he15 q (by omega)).2⟩)
  replace hI11 := hI11.move (fun q hq => ⟨(he15 q (by omega)).1, fun _ => (he15 q (by omega)).2⟩)
  replace hfr := fun q (hq : q < 256) => And.intro ((he15 q (by omega)).1.trans (hfr q hq).1) ((he15 q (by omega)).2.trans (hfr q hq).2)
  replace hI15 := qRb.G hI15
  refine q_ad1 hA0 (pf_Fo_22 F hW15 hnm (by omega) ho d_Fo_init_49 (fun H16 locs16 w16 hW16 hI16 hq16 => ?_))
  replace ho := hI16
  replace hI3 := hI3.move (fun q hq => ⟨rfl, fun _ => hq16 q (by omega)⟩)
  replace hI7 := hI7.move (fun q hq => ⟨rfl, fun _ => hq16 q (by omega)⟩)
  replace hI11 := hI11.move (fun q hq => ⟨rfl, fun _ => hq16 q (by omega)⟩)
  replace hI15 := hI15.move (fun q hq => ⟨rfl, fun _ => hq16 q (by omega)⟩)
  replace hfr := fun q (hq : q < 256) => And.intro (hfr q hq).1 ((hq16 q (by omega)).trans (hfr q hq).2)
  refine lv_aload_n F.1 F.2.1 d_Fo_init_52 rfl (lv_at hl 0 rfl) ?_
  refine q_bipush F d_Fo_init_53 (by decide) (fun v17 hv17 => ?_)
  refine q_newI F hW16 40 (by omega) (by omega) (Nat.le_of_ble_eq_true rfl) (Nat.le_of_ble_eq_true rfl) d_Fo_init_55 (fun q18 ad18 w18 H18 he18 ha18 hI18 hW18 => ?_)
  replace hW18 : qW D τ A s H18 locs16 ad18 (422) w18 := hW18
  replace ho := (he18 256 (by omega)).2.trans ho
  replace hA0 := (he18 (256) (by omega)).1.trans hA0
  replace ha3 := (he18 (257) (by omega)).1.trans ha3
  replace ha7 := (he18 (298) (by omega)).1.trans ha7
  replace ha11 := (he18 (339) (by omega)).1.trans ha11
  replace ha15 := (he18 (380) (by omega)).1.trans ha15
  replace hI3 := hI3.move (fun q hq => ⟨(he18 q (by omega)).1, fun _ => (he18 q (by omega)).2⟩)
  replace hI7 := hI7.move (fun q hq => ⟨(he18 q (by omega)).1, fun _ => (he18 q (by omega)).2⟩)
  replace hI11 := hI11.move (fun q hq => ⟨(he18 q (by omega)).1, fun _ => (he18 q (by omega)).2⟩)
  replace hI15 := hI15.move (fun q hq => ⟨(he18 q (by omega)).1, fun _ => (he18 q (by omega)).2⟩)
  replace hfr := fun q (hq : q < 256) => And.intro ((he18 q (by omega)).1.trans (hfr q hq).1) ((he18 q (by omega)).2.trans (hfr q hq).2)
  replace hI18 := qRb.I (ad := ad18) hI18
  refine q_ad1 hA0 (pf_Fo_25 F hW18 hnm (by omega) ho d_Fo_init_57 (fun H19 locs19 w19 hW19 hI19 hq19 => ?_))
  replace ho := hI19
  replace hI3 := hI3.move (fun q hq => ⟨rfl, fun _ => hq19 q (by omega)⟩)
  replace hI7 := hI7.move (fun q hq => ⟨rfl, fun _ => hq19 q (by omega)⟩)
  replace hI11 := hI11.move (fun q hq => ⟨rfl, fun _ => hq19 q (by omega)⟩)
  replace hI15 := hI15.move (fun q hq => ⟨rfl, fun _ => hq19 q (by omega)⟩)
  replace hI18 := hI18.move (fun q hq => ⟨rfl, fun _ => hq19 q (by omega)⟩)
  replace hfr := fun q (hq : q < 256) => And.intro (hfr q hq).1 ((hq19 q (by omega)).trans (hfr q hq).2)
  refine lv_aload_n F.1 F.2.1 d_Fo_init_60 rfl (lv_at hl 0 rfl) ?_
  refine lv_aload_n F.1 F.2.1 d_Fo_init_61 rfl (lv_at hl 1 rfl) ?_
  refine q_ad1 hA0 (pf_Fo_29 F hW19 hnm (by omega) ho d_Fo_init_62 (fun H20 locs20 w20 hW20 hI20 hq20 => ?_))
  replace ho := hI20
  replace hI3 := hI3.move (fun q hq => ⟨rfl, fun _ => hq20 q (by omega)⟩)
  replace hI7 := hI7.move (fun q hq => ⟨rfl, fun _ => hq20 q (by omega)⟩)
  replace hI11 := hI11.move (fun q hq => ⟨rfl, fun _ => hq20 q (by omega)⟩)
  replace hI15 := hI15.move (fun q hq => ⟨rfl, fun _ => hq20 q (by omega)⟩)
  replace hI18 := hI18.move (fun q hq => ⟨rfl, fun _ => hq20 q (by omega)⟩)
  replace hfr := fun q (hq : q < 256) => And.intro (hfr q hq).1 ((hq20 q (by omega)).trans (hfr q hq).2)
  refine lv_aload_n F.1 F.2.1 d_Fo_init_65 rfl (lv_at hl 0 rfl) ?_
  refine lv_aload_n F.1 F.2.1 d_Fo_init_66 rfl (lv_at hl 2 rfl) ?_
  refine q_ad1 hA0 (pf_Fo_33 F hW20 hnm (by omega) ho d_Fo_init_67 (fun H21 locs21 w21 hW21 hI21 hq21 => ?_))
  replace ho := hI21
  replace hI3 := hI3.move (fun q hq => ⟨rfl, fun _ => hq21 q (by omega)⟩)
  replace hI7 := hI7.move (fun q hq => ⟨rfl, fun _ => hq21 q (by omega)⟩)
  replace hI11 := hI11.move (fun q hq => ⟨rfl, fun _ => hq21 q (by omega)⟩)
  replace hI15 := hI15.move (fun q hq => ⟨rfl, fun _ => hq21 q (by omega)⟩)
  replace hI18 := hI18.move (fun q hq => ⟨rfl, fun _ => hq21 q (by omega)⟩)
  replace hfr := fun q (hq : q < 256) => And.intro (hfr q hq).1 ((hq21 q (by omega)).trans (hfr q hq).2)
  exact W.widen (Nat.le_of_ble_eq_true rfl) (Nat.le_of_ble_eq_true rfl) (q_vretN F hr hlk hW21 ⟨fun q hq => (Nat.lt_or_ge q (256)).elim (fun h => (hfr q h).1) (fun h => by rw [show q = 256 by omega]; exact hA0.trans ha.symm), fun q hq => (hfr q hq).2, (by intro ad' w' g; replace g : ∀ q, q < 422 → ad' q = ad18 q ∧ (256 ≤ q → w' q = w21 q) := g; exact ⟨by rw [(g (256) (by omega)).2 (by omega), (g (257) (by omega)).1, (g (298) (by omega)).1, (g (339) (by omega)).1, (g (380) (by omega)).1, (g (421) (by omega)).1, ha3, ha7, ha11, ha15, ha18]; exact ho, (hI3 ad' w' (fun q hq => ⟨(g q (by omega)).1, fun hl => (g q (by omega)).2 (by omega)⟩)), (hI7 ad' w' (fun q hq => ⟨(g q (by omega)).1, fun hl => (g q (by omega)).2 (by omega)⟩)), (hI11 ad' w' (fun q hq => ⟨(g q (by omega)).1, fun hl => (g q (by omega)).2 (by omega)⟩)), (hI15 ad' w' (fun q hq => ⟨(g q (by omega)).1, fun hl => (g q (by omega)).2 (by omega)⟩)), (hI18 ad' w' (fun q hq => ⟨(g q (by omega)).1, fun hl => (g q (by omega)).2 (by omega)⟩))⟩)⟩ d_Fo_init_70)
set_option maxHeartbeats 4000000 in
set_option maxRecDepth 100000 in
theorem k_Pa_init (l : Launch) (D : va_G) (τ : Nat → ClassId) (A : Nat → Prop) (ad : Nat → Nat) (w : Nat → va_E) (a : Nat) (ha : ad (463) = a) (hw : w (463) = .inr (3, [.null, .null, .null, .int 0, .int 0])) : Met l y_Pa_init (qws y_Pa_init c_Pa_init 1 none) ({ frames := 1, cells := 3, slots := 48, locals := 20 }) (qPn D τ A ad (464) w [.ref a]) (va_Qv (fun x => (∀ q, q ≤ 463 → x.1 q = ad q) ∧ (∀ q, q < 463 → x.2 q = w q) ∧ qRb (463) (467) (fun ad w => qPac τ ad w 0 0 (fun _ => 0) (fun _ => 0) (fun _ => 0)) x) (qBn D τ A (467)) A) 3 48 A := by
  refine qn_of (by decide) (Nat.le_of_ble_eq_true rfl) rfl ?_
  intro PP EE s MM below meth CC ls F hr hlk hnm hl hW hst hao
  have hl : lv_has ls 1 [(0, .ref a)] := hl
  have hA0 := ha
  have ho := hw
  have hfr : ∀ q, q < 463 → ad q = ad q ∧ w q = w q := fun _ _ => ⟨rfl, rfl⟩
  refine lv_aload_n F.1 F.2.1 d_Pa_init_0 rfl (lv_at hl 0 rfl) ?_
  refine q_obj F tw_160 hl.1 d_Pa_init_1 (Nat.le_of_ble_eq_true rfl) (Nat.le_of_ble_eq_true rfl) ?_
  refine lv_aload_n F.1 F.2.1 d_Pa_init_4 rfl (lv_at hl 0 rfl) ?_
  refine q_bipush F d_Pa_init_5 (by decide) (fun v1 hv1 => ?_)
  refine q_newI F hW 16 (by omega) (by omega) (Nat.le_of_ble_eq_true rfl) (Nat.le_of_ble_eq_true rfl) d_Pa_init_7 (fun q2 ad2 w2 H2 he2 ha2 hI2 hW2 => ?_)
  replace hW2 : qW D τ A s H2 ([] : List Loc) ad2 (465) w2 := hW2
  replace ho := (he2 463 (by omega)).2.trans ho
  replace hA0 := (he2 (463) (by omega)).1.trans hA0
  replace hfr := fun q (hq : q < 463) => And.intro ((he2 q (by omega)).1.trans (hfr q hq).1) ((he2 q (by omega)).2.trans (hfr q hq).2)
  replace hI2 := qRb.I (ad := ad2) hI2
  refine q_ad1 hA0 (pf_Pa_9 F hW2 hnm (by omega) ho d_Pa_init_9 (fun H3 locs3 w3 hW3 hI3 hq3 => ?_))
  replace ho := hI3
  replace hI2 := hI2.move (fun q hq => ⟨rfl, fun _ => hq3 q (by omega)⟩)
  replace hfr := fun q (hq : q < 463) => And.intro (hfr q hq).1 ((hq3 q (by omega)).trans (hfr q hq).2)
  refine lv_aload_n F.1 F.2.1 d_Pa_init_12 rfl (lv_at hl 0 rfl) ?_
  refine q_bipush F d_Pa_init_13 (by decide) (fun v4 hv4 => ?_)
  refine q_newI F hW3 16 (by omega) (by omega) (Nat.le_of_ble_eq_true rfl) (Nat.le_of_ble_eq_true rfl) d_Pa_init_15 (fun q5 ad5 w5 H5 he5 ha5 hI5 hW5 => ?_)
  replace hW5 : qW D τ A s H5 locs3 ad5 (466) w5 := hW5
  replace ho := (he5 463 (by omega)).2.trans ho
  replace hA0 := (he5 (463) (by omega)).1.trans hA0
  replace ha2 := (he5 (464) (by omega)).1.trans ha2
  replace hI2 := hI2.move (fun q hq => ⟨(he5 q (by omega)).1, fun _ => (he5 q (by omega)).2⟩)
  replace hfr := fun q (hq : q < 463) => And.intro ((he5 q (by omega)).1.trans (hfr q hq).1) ((he5 q (by omega)).2.trans (hfr q hq).2)
  replace hI5 := qRb.I (ad := ad5) hI5
  refine q_ad1 hA0 (pf_Pa_13 F hW5 hnm (by omega) ho d_Pa_init_17 (fun H6 locs6 w6 hW6 hI6 hq6 => ?_))
  replace ho := hI6
  replace hI2 := hI2.move (fun q hq => ⟨rfl, fun _ => hq6 q (by omega)⟩)
  replace hI5 := hI5.move (fun q hq => ⟨rfl, fun _ => hq6 q (by omega)⟩)
  replace hfr := fun q (hq : q < 463) => And.intro (hfr q hq).1 ((hq6 q (by omega)).trans (hfr q hq).2)
  refine lv_aload_n F.1 F.2.1 d_Pa_init_20 rfl (lv_at hl 0 rfl) ?_
  refine q_bipush F d_Pa_init_21 (by decide) (fun v7 hv7 => ?_)
  refine q_newI F hW6 16 (by omega) (by omega) (Nat.le_of_ble_eq_true rfl) (Nat.le_of_ble_eq_true rfl) d_Pa_init_23 (fun q8 ad8 w8 H8 he8 ha8 hI8 hW8 => ?_)
  replace hW8 : qW D τ A s H8 locs6 ad8 (467) w8 := hW8
  replace ho := (he8 463 (by omega)).2.trans ho
  replace hA0 := (he8 (463) (by omega)).1.trans hA0
  replace ha2 := (he8 (464) (by omega)).1.trans ha2
  replace ha5 := (he8 (465) (by omega)).1.trans ha5
  replace hI2 := hI2.move (fun q hq => ⟨(he8 q (by omega)).1, fun _ => (he8 q (by omega)).2⟩)
  replace hI5 := hI5.move (fun q hq => ⟨(he8 q (by omega)).1, fun _ => (he8 q (by omega)).2⟩)
  replace hfr := fun q (hq : q < 463) => And.intro ((he8 q (by omega)).1.trans (hfr q hq).1) ((he8 q (by omega)).2.trans (hfr q hq).2)
  replace hI8 := qRb.I (ad := ad8) hI8
  refine q_ad1 hA0 (pf_Pa_16 F hW8 hnm (by omega) ho d_Pa_init_25 (fun H9 locs9 w9 hW9 hI9 hq9 => ?_))
  replace ho := hI9
  replace hI2 := hI2.move (fun q hq => ⟨rfl, fun _ => hq9 q (by omega)⟩)
  replace hI5 := hI5.move (fun q hq => ⟨rfl, fun _ => hq9 q (by omega)⟩)
  replace hI8 := hI8.move (fun q hq => ⟨rfl, fun _ => hq9 q (by omega)⟩)
  replace hfr := fun q (hq : q < 463) => And.intro (hfr q hq).1 ((hq9 q (by omega)).trans (hfr q hq).2)
  exact W.widen (Nat.le_of_ble_eq_true rfl) (Nat.le_of_ble_eq_true rfl) (q_vretN F hr hlk hW9 ⟨fun q hq => (Nat.lt_or_ge q (463)).elim (fun h => (hfr q h).1) (fun h => by rw [show q = 463 by omega]; exact hA0.trans ha.symm), fun q hq => (hfr q hq).2, (by intro ad' w' g; replace g : ∀ q, q < 467 → ad' q = ad8 q ∧ (463 ≤ q → w' q = w9 q) := g; exact ⟨⟨0, 0, by rw [(g (463) (by omega)).2 (by omega), (g (464) (by omega)).1, (g (465) (by omega)).1, (g (466) (by omega)).1, ha2, ha5, ha8]; exact ho, rfl, rfl⟩, (hI2 ad' w' (fun q hq => ⟨(g q (by omega)).1, fun hl => (g q (by omega)).2 (by omega)⟩)), (hI5 ad' w' (fun q hq => ⟨(g q (by omega)).1, fun hl => (g q (by omega)).2 (by omega)⟩)), (hI8 ad' w' (fun q hq => ⟨(g q (by omega)).1, fun hl => (g q (by omega)).2 (by omega)⟩))⟩)⟩ d_Pa_init_28)
