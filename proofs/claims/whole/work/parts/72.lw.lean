set_option maxHeartbeats 4000000 in
set_option maxRecDepth 100000 in
theorem k_Lw_nodes (l : Launch) (D : va_G) (τ : Nat → ClassId) (A : Nat → Prop) (ad : Nat → Nat) (N : Nat) (w : Nat → va_E) (hlt : l.stackTraces = false) (hb : 485 ≤ N) (X : zSt) (B : Nat) (hX : qLR τ ad w X) (hO : zOK X B) (hB9 : B ≤ 1000) (x : Int32) : Met l y_Lw_nodes (qwsH y_Lw_nodes c_Lw_nodes 3 (some .int) [(0, 5, 8, 13)]) ({ frames := 9, cells := 5, slots := 30, locals := 173 }) (qPx D τ A ad N w [.ref (ad 0), .int x]) (va_Qi (fun r1 w1 => ∃ X9, zR_nodes X x.toInt r1.toInt 0 X9 ∧ qLR τ ad w1 X9 ∧ ∀ q, 469 ≤ q → w1 q = w q) (qB D τ A ad N) A) 5 30 A := by
  refine qw_of (by decide) (Nat.le_of_ble_eq_true rfl) rfl ?_
  intro PP EE s MM below meth CC ls F hr hlk htab hl hW hst
  have hl : lv_has ls 3 [(0, .ref (ad 0)), (1, .int x)] := hl
  obtain ⟨⟨v0, hro, -⟩, -⟩ := id hX
  refine lv_aload_n F.1 F.2.1 d_Lw_nodes_0 rfl (lv_at hl 0 rfl) ?_
  refine lv_iload_n F.1 F.2.1 d_Lw_nodes_1 rfl (lv_at hl 1 rfl) ?_
  refine qx_callv hW (qx_cV (As := [.int x]) (rest := []) F hW hst cs_Lw_7 hd_LR_nodes rfl (by omega) hro (k_LR_nodes l D τ A ad N w hlt (by omega) X B hX hO hB9 x) rfl rfl ⟨by decide, by decide⟩ rfl hl.1 rfl (Nat.le_of_ble_eq_true rfl) d_Lw_nodes_2 ⟨Nat.le_of_ble_eq_true rfl, Nat.le_of_ble_eq_true rfl⟩) (fun E9 ce9 q9 wx Hx locsx hpx hWx h1x h2x h3x => ?_) (fun w1 H1 locs1 hp1 hW1 => ?_)
  · obtain ⟨hcase, hXx, hfx⟩ := hpx
    obtain ⟨e1, hrel⟩ := hcase
    subst e1
    refine qw_catch F hst htab [] (0, 5, 8, 13) [] rfl (fun z hz => nomatch hz) (by decide) (by decide) xl_13 (by decide) h1x h2x h3x ?_
    show W _ _ _ _ _ _ _ _ _ _ _ _ _ _ _ (F0 _ 8 _ _)
    refine lv_astore_n (lv' := [(2, .ref q9), (0, .ref (ad 0)), (1, .int x)]) F.1 F.2.1 d_Lw_nodes_8 rfl hl (by decide) rfl (fun ls2 hl2 => ?_)
    clear hl
    refine q_iconst F d_Lw_nodes_9 (by decide) (fun v3 hv3 => ?_)
    exact W.widen (Nat.le_of_ble_eq_true rfl) (Nat.le_of_ble_eq_true rfl) (q_iret F hr hlk hWx ⟨X, by rw [hv3]; exact hrel, hXx, hfx⟩ d_Lw_nodes_10)
  · obtain ⟨X9, hrel, hX9, hfr1⟩ := hp1
    refine lv_goto (tgt := 11) F.1 F.2.1 d_Lw_nodes_5 (by decide) ?_
    refine q_iconst F d_Lw_nodes_11 (by decide) (fun v4 hv4 => ?_)
    exact W.widen (Nat.le_of_ble_eq_true rfl) (Nat.le_of_ble_eq_true rfl) (q_iret F hr hlk hW1 ⟨X9, by rw [hv4]; exact hrel, hX9, hfr1⟩ d_Lw_nodes_12)
set_option maxHeartbeats 4000000 in
set_option maxRecDepth 100000 in
theorem k_Lw_edge (l : Launch) (D : va_G) (τ : Nat → ClassId) (A : Nat → Prop) (ad : Nat → Nat) (N : Nat) (w : Nat → va_E) (hlt : l.stackTraces = false) (hb : 485 ≤ N) (X : zSt) (B : Nat) (hX : qLR τ ad w X) (hO : zOK X B) (hB9 : B ≤ 1000) (x y z : Int32) (g0 : Int64) (hU : q_O τ w 484 g0) : Met l y_Lw_edge (qwsH y_Lw_edge c_Lw_edge 6 (some .int) [(0, 12, 15, 19), (0, 12, 19, 13), (0, 12, 23, 21)]) ({ frames := 9, cells := 5, slots := 30, locals := 173 }) (qPx D τ A ad N w [.ref (ad 0), .int x, .int y, .int z, .ref (ad 484)]) (va_Qi (fun r1 w1 => ∃ r X9 g9, zR_edge X x.toInt y.toInt z.toInt r1.toInt r X9 ∧ qLR τ ad w1 X9 ∧ q_O τ w1 484 g9 ∧ (r1.toInt = 0 → ∃ r32 : Int32, g9 = r32.toInt64 ∧ r32.toInt = r) ∧ (∀ q, 469 ≤ q → q ≠ 484 → w1 q = w q)) (qB D τ A ad N) A) 5 30 A := by
  refine qw_of (by decide) (Nat.le_of_ble_eq_true rfl) rfl ?_
  intro PP EE s MM below meth CC ls F hr hlk htab hl hW hst
  have hl : lv_has ls 6 [(0, .ref (ad 0)), (1, .int x), (2, .int y), (3, .int z), (4, .ref (ad 484))] := hl
  obtain ⟨⟨v0, hro, -⟩, -⟩ := id hX
  refine lv_aload F.1 F.2.1 d_Lw_edge_0 (lv_at hl 4 rfl) ?_
  refine q_iconst F d_Lw_edge_2 (by decide) (fun v1 hv1 => ?_)
  refine lv_aload_n F.1 F.2.1 d_Lw_edge_3 rfl (lv_at hl 0 rfl) ?_
  refine lv_iload_n F.1 F.2.1 d_Lw_edge_4 rfl (lv_at hl 1 rfl) ?_
  refine lv_iload_n F.1 F.2.1 d_Lw_edge_5 rfl (lv_at hl 2 rfl) ?_
  refine lv_iload_n F.1 F.2.1 d_Lw_edge_6 rfl (lv_at hl 3 rfl) ?_
  refine qx_calli hW (qx_cV (As := [.int x, .int y, .int z]) (rest := [.int v1, .ref (ad 484)]) F hW hst cs_Lw_15 hd_LR_edge rfl (by omega) hro (k_LR_edge l D τ A ad N w hlt (by omega) X B hX hO hB9 x y z) rfl rfl ⟨by decide, by decide⟩ rfl hl.1 rfl (Nat.le_of_ble_eq_true rfl) d_Lw_edge_7 ⟨Nat.le_of_ble_eq_true rfl, Nat.le_of_ble_eq_true rfl⟩) (fun E9 ce9 q9 wx Hx locsx hpx hWx h1x h2x h3x => ?_) (fun v2 w2 H2 locs2 hp2 hW2 => ?_)
  · obtain ⟨hcase, hXx, hfx⟩ := hpx
    have hUx := hU.keep (hfx 484 (by omega))
    rcases hcase with ⟨e1, hrel⟩ | ⟨e1, hrel⟩ | ⟨e1, hrel⟩
    · subst e1
      refine qw_catch F hst htab [] (0, 12, 15, 19) [(0, 12, 19, 13), (0, 12, 23, 21)] rfl (fun z hz => nomatch hz) (by decide) (by decide) xl_19 (by decide) h1x h2x h3x ?_
      show W _ _ _ _ _ _ _ _ _ _ _ _ _ _ _ (F0 _ 15 _ _)
      refine lv_astore (lv' := [(5, .ref q9), (0, .ref (ad 0)), (1, .int x), (2, .int y), (3, .int z), (4, .ref (ad 484))]) F.1 F.2.1 d_Lw_edge_15 hl (by decide) rfl (fun ls3 hl3 => ?_)
      clear hl
      refine q_iconst F d_Lw_edge_17 (by decide) (fun v4 hv4 => ?_)
      exact W.widen (Nat.le_of_ble_eq_true rfl) (Nat.le_of_ble_eq_true rfl) (q_iret F hr hlk hWx ⟨0, X, g0, by rw [hv4]; exact hrel, hXx, hUx, fun q => absurd q (by omega), fun q hq _ => hfx q hq⟩ d_Lw_edge_18)
    · subst e1
      refine qw_catch F hst htab [(0, 12, 15, 19)] (0, 12, 19, 13) [(0, 12, 23, 21)] rfl (by intro z hz; simp only [List.mem_cons, List.not_mem_nil, or_false] at hz; subst hz; exact ⟨by decide, xIO, xl_19, by decide⟩) (by decide) (by decide) xl_13 (by decide) h1x h2x h3x ?_
      show W _ _ _ _ _ _ _ _ _ _ _ _ _ _ _ (F0 _ 19 _ _)
      refine lv_astore (lv' := [(5, .ref q9), (0, .ref (ad 0)), (1, .int x), (2, .int y), (3, .int z), (4, .ref (ad 484))]) F.1 F.2.1 d_Lw_edge_19 hl (by decide) rfl (fun ls5 hl5 => ?_)
      clear hl
      refine q_iconst F d_Lw_edge_21 (by decide) (fun v6 hv6 => ?_)
      exact W.widen (Nat.le_of_ble_eq_true rfl) (Nat.le_of_ble_eq_true rfl) (q_iret F hr hlk hWx ⟨0, X, g0, by rw [hv6]; exact hrel, hXx, hUx, fun q => absurd q (by omega), fun q hq _ => hfx q hq⟩ d_Lw_edge_22)
    · subst e1
      refine qw_catch F hst htab [(0, 12, 15, 19), (0, 12, 19, 13)] (0, 12, 23, 21) [] rfl (by intro z hz; simp only [List.mem_cons, List.not_mem_nil, or_false] at hz; rcases hz with rfl | rfl; exact ⟨by decide, xIO, xl_19, by decide⟩; exact ⟨by decide, xIA, xl_13, by decide⟩) (by decide) (by decide) xl_21 (by decide) h1x h2x h3x ?_
      show W _ _ _ _ _ _ _ _ _ _ _ _ _ _ _ (F0 _ 23 _ _)
      refine lv_astore (lv' := [(5, .ref q9), (0, .ref (ad 0)), (1, .int x), (2, .int y), (3, .int z), (4, .ref (ad 484))]) F.1 F.2.1 d_Lw_edge_23 hl (by decide) rfl (fun ls7 hl7 => ?_)
      clear hl
      refine q_iconst F d_Lw_edge_25 (by decide) (fun v8 hv8 => ?_)
      exact W.widen (Nat.le_of_ble_eq_true rfl) (Nat.le_of_ble_eq_true rfl) (q_iret F hr hlk hWx ⟨0, X, g0, by rw [hv8]; exact hrel, hXx, hUx, fun q => absurd q (by omega), fun q hq _ => hfx q hq⟩ d_Lw_edge_26)
  · obtain ⟨X9, hrel, hX9, hfr2⟩ := hp2
    have hU1 := hU.keep (hfr2 484 (by omega))
    refine lv_i2l F.1 F.2.1 d_Lw_edge_10 rfl ?_
    refine q_lastO F hW2 hU1 (by omega) (by omega) d_Lw_edge_11 (fun H9 locs9 w9 hW9 hU2 hfr9 => ?_)
    refine lv_goto (tgt := 27) F.1 F.2.1 d_Lw_edge_12 (by decide) ?_
    refine q_iconst F d_Lw_edge_27 (by decide) (fun v10 hv10 => ?_)
    exact W.widen (Nat.le_of_ble_eq_true rfl) (Nat.le_of_ble_eq_true rfl) (q_iret F hr hlk hW9 ⟨_, X9, _, by rw [hv10]; exact hrel, hX9.keep (fun q hq => hfr9 q (by omega)), hU2, fun _ => ⟨v2, rfl, rfl⟩, fun q hq h4 => (hfr9 q h4).trans (hfr2 q hq)⟩ d_Lw_edge_28)
set_option maxHeartbeats 4000000 in
set_option maxRecDepth 100000 in
theorem k_Lw_cut (l : Launch) (D : va_G) (τ : Nat → ClassId) (A : Nat → Prop) (ad : Nat → Nat) (N : Nat) (w : Nat → va_E) (hlt : l.stackTraces = false) (hb : 485 ≤ N) (X : zSt) (B : Nat) (hX : qLR τ ad w X) (hO : zOK X B) (hB9 : B ≤ 1000) (x y : Int32) (g0 : Int64) (hU : q_O τ w 484 g0) : Met l y_Lw_cut (qwsH y_Lw_cut c_Lw_cut 5 (some .int) [(0, 10, 13, 19), (0, 10, 17, 13)]) ({ frames := 9, cells := 5, slots := 30, locals := 173 }) (qPx D τ A ad N w [.ref (ad 0), .int x, .int y, .ref (ad 484)]) (va_Qi (fun r1 w1 => ∃ r X9 g9, zR_cut X x.toInt y.toInt r1.toInt r X9 ∧ qLR τ ad w1 X9 ∧ q_O τ w1 484 g9 ∧ (r1.toInt = 0 → ∃ r32 : Int32, g9 = r32.toInt64 ∧ r32.toInt = r) ∧ (∀ q, 469 ≤ q → q ≠ 484 → w1 q = w q)) (qB D τ A ad N) A) 5 30 A := by
  refine qw_of (by decide) (Nat.le_of_ble_eq_true rfl) rfl ?_
  intro PP EE s MM below meth CC ls F hr hlk htab hl hW hst
  have hl : lv_has ls 5 [(0, .ref (ad 0)), (1, .int x), (2, .int y), (3, .ref (ad 484))] := hl
  obtain ⟨⟨v0, hro, -⟩, -⟩ := id hX
  refine lv_aload_n F.1 F.2.1 d_Lw_cut_0 rfl (lv_at hl 3 rfl) ?_
  refine q_iconst F d_Lw_cut_1 (by decide) (fun v1 hv1 => ?_)
  refine lv_aload_n F.1 F.2.1 d_Lw_cut_2 rfl (lv_at hl 0 rfl) ?_
  refine lv_iload_n F.1 F.2.1 d_Lw_cut_3 rfl (lv_at hl 1 rfl) ?_
  refine lv_iload_n F.1 F.2.1 d_Lw_cut_4 rfl (lv_at hl 2 rfl) ?_
  refine qx_calli hW (qx_cV (As := [.int x, .int y]) (rest := [.int v1, .ref (ad 484)]) F hW hst cs_Lw_23 hd_LR_cut rfl (by omega) hro (k_LR_cut l D τ A ad N w hlt (by omega) X B hX hO hB9 x y) rfl rfl ⟨by decide, by decide⟩ rfl hl.1 rfl (Nat.le_of_ble_eq_true rfl) d_Lw_cut_5 ⟨Nat.le_of_ble_eq_true rfl, Nat.le_of_ble_eq_true rfl⟩) (fun E9 ce9 q9 wx Hx locsx hpx hWx h1x h2x h3x => ?_) (fun v2 w2 H2 locs2 hp2 hW2 => ?_)
  · obtain ⟨hcase, hXx, hfx⟩ := hpx
    have hUx := hU.keep (hfx 484 (by omega))
    rcases hcase with ⟨e1, hrel⟩ | ⟨e1, hrel⟩
    · subst e1
      refine qw_catch F hst htab [] (0, 10, 13, 19) [(0, 10, 17, 13)] rfl (fun z hz => nomatch hz) (by decide) (by decide) xl_19 (by decide) h1x h2x h3x ?_
      show W _ _ _ _ _ _ _ _ _ _ _ _ _ _ _ (F0 _ 13 _ _)
      refine lv_astore (lv' := [(4, .ref q9), (0, .ref (ad 0)), (1, .int x), (2, .int y), (3, .ref (ad 484))]) F.1 F.2.1 d_Lw_cut_13 hl (by decide) rfl (fun ls3 hl3 => ?_)
      clear hl
      refine q_iconst F d_Lw_cut_15 (by decide) (fun v4 hv4 => ?_)
      exact W.widen (Nat.le_of_ble_eq_true rfl) (Nat.le_of_ble_eq_true rfl) (q_iret F hr hlk hWx ⟨0, X, g0, by rw [hv4]; exact hrel, hXx, hUx, fun q => absurd q (by omega), fun q hq _ => hfx q hq⟩ d_Lw_cut_16)
    · subst e1
      refine qw_catch F hst htab [(0, 10, 13, 19)] (0, 10, 17, 13) [] rfl (by intro z hz; simp only [List.mem_cons, List.not_mem_nil, or_false] at hz; subst hz; exact ⟨by decide, xIO, xl_19, by decide⟩) (by decide) (by decide) xl_13 (by decide) h1x h2x h3x ?_
      show W _ _ _ _ _ _ _ _ _ _ _ _ _ _ _ (F0 _ 17 _ _)
      refine lv_astore (lv' := [(4, .ref q9), (0, .ref (ad 0)), (1, .int x), (2, .int y), (3, .ref (ad 484))]) F.1 F.2.1 d_Lw_cut_17 hl (by decide) rfl (fun ls5 hl5 => ?_)
      clear hl
      refine q_iconst F d_Lw_cut_19 (by decide) (fun v6 hv6 => ?_)
      exact W.widen (Nat.le_of_ble_eq_true rfl) (Nat.le_of_ble_eq_true rfl) (q_iret F hr hlk hWx ⟨0, X, g0, by rw [hv6]; exact hrel, hXx, hUx, fun q => absurd q (by omega), fun q hq _ => hfx q hq⟩ d_Lw_cut_20)
  · obtain ⟨X9, hrel, hX9, hfr2⟩ := hp2
    have hU1 := hU.keep (hfr2 484 (by omega))
    refine lv_i2l F.1 F.2.1 d_Lw_cut_8 rfl ?_
    refine q_lastO F hW2 hU1 (by omega) (by omega) d_Lw_cut_9 (fun H7 locs7 w7 hW7 hU2 hfr7 => ?_)
    refine lv_goto (tgt := 21) F.1 F.2.1 d_Lw_cut_10 (by decide) ?_
    refine q_iconst F d_Lw_cut_21 (by decide) (fun v8 hv8 => ?_)
    exact W.widen (Nat.le_of_ble_eq_true rfl) (Nat.le_of_ble_eq_true rfl) (q_iret F hr hlk hW7 ⟨_, X9, _, by rw [hv8]; exact hrel, hX9.keep (fun q hq => hfr7 q (by omega)), hU2, fun _ => ⟨v2, rfl, rfl⟩, fun q hq h4 => (hfr7 q h4).trans (hfr2 q hq)⟩ d_Lw_cut_22)
set_option maxHeartbeats 4000000 in
set_option maxRecDepth 100000 in
theorem k_Lw_port (l : Launch) (D : va_G) (τ : Nat → ClassId) (A : Nat → Prop) (ad : Nat → Nat) (N : Nat) (w : Nat → va_E) (hlt : l.stackTraces = false) (hb : 485 ≤ N) (X : zSt) (B : Nat) (hX : qLR τ ad w X) (hO : zOK X B) (hB9 : B ≤ 1000) (x y : Int32) (g0 : Int64) (hU : q_O τ w 484 g0) : Met l y_Lw_port (qwsH y_Lw_port c_Lw_port 5 (some .int) [(0, 10, 13, 19)]) ({ frames := 9, cells := 5, slots := 30, locals := 173 }) (qPx D τ A ad N w [.ref (ad 0), .int x, .int y, .ref (ad 484)]) (va_Qi (fun r1 w1 => ∃ r X9 g9, zR_port X x.toInt y.toInt r1.toInt r X9 ∧ qLR τ ad w1 X9 ∧ q_O τ w1 484 g9 ∧ (r1.toInt = 0 → ∃ r32 : Int32, g9 = r32.toInt64 ∧ r32.toInt = r) ∧ (∀ q, 469 ≤ q → q ≠ 484 → w1 q = w q)) (qB D τ A ad N) A) 5 30 A := by
  refine qw_of (by decide) (Nat.le_of_ble_eq_true rfl) rfl ?_
  intro PP EE s MM below meth CC ls F hr hlk htab hl hW hst
  have hl : lv_has ls 5 [(0, .ref (ad 0)), (1, .int x), (2, .int y), (3, .ref (ad 484))] := hl
  obtain ⟨⟨v0, hro, -⟩, -⟩ := id hX
  refine lv_aload_n F.1 F.2.1 d_Lw_port_0 rfl (lv_at hl 3 rfl) ?_
  refine q_iconst F d_Lw_port_1 (by decide) (fun v1 hv1 => ?_)
  refine lv_aload_n F.1 F.2.1 d_Lw_port_2 rfl (lv_at hl 0 rfl) ?_
  refine lv_iload_n F.1 F.2.1 d_Lw_port_3 rfl (lv_at hl 1 rfl) ?_
  refine lv_iload_n F.1 F.2.1 d_Lw_port_4 rfl (lv_at hl 2 rfl) ?_
  refine qx_calli hW (qx_cV (As := [.int x, .int y]) (rest := [.int v1, .ref (ad 484)]) F hW hst cs_Lw_27 hd_LR_port rfl (by omega) hro (k_LR_port l D τ A ad N w hlt (by omega) X B hX hO hB9 x y) rfl rfl ⟨by decide, by decide⟩ rfl hl.1 rfl (Nat.le_of_ble_eq_true rfl) d_Lw_port_5 ⟨Nat.le_of_ble_eq_true rfl, Nat.le_of_ble_eq_true rfl⟩) (fun E9 ce9 q9 wx Hx locsx hpx hWx h1x h2x h3x => ?_) (fun v2 w2 H2 locs2 hp2 hW2 => ?_)
  · obtain ⟨hcase, hXx, hfx⟩ := hpx
    have hUx := hU.keep (hfx 484 (by omega))
    obtain ⟨e1, hrel⟩ := hcase
    subst e1
    refine qw_catch F hst htab [] (0, 10, 13, 19) [] rfl (fun z hz => nomatch hz) (by decide) (by decide) xl_19 (by decide) h1x h2x h3x ?_
    show W _ _ _ _ _ _ _ _ _ _ _ _ _ _ _ (F0 _ 13 _ _)
    refine lv_astore (lv' := [(4, .ref q9), (0, .ref (ad 0)), (1, .int x), (2, .int y), (3, .ref (ad 484))]) F.1 F.2.1 d_Lw_port_13 hl (by decide) rfl (fun ls3 hl3 => ?_)
    clear hl
    refine q_iconst F d_Lw_port_15 (by decide) (fun v4 hv4 => ?_)
    exact W.widen (Nat.le_of_ble_eq_true rfl) (Nat.le_of_ble_eq_true rfl) (q_iret F hr hlk hWx ⟨0, X, g0, by rw [hv4]; exact hrel, hXx, hUx, fun q => absurd q (by omega), fun q hq _ => hfx q hq⟩ d_Lw_port_16)
  · obtain ⟨X9, hrel, hX9, hfr2⟩ := hp2
    have hU1 := hU.keep (hfr2 484 (by omega))
    refine lv_i2l F.1 F.2.1 d_Lw_port_8 rfl ?_
    refine q_lastO F hW2 hU1 (by omega) (by omega) d_Lw_port_9 (fun H5 locs5 w5 hW5 hU2 hfr5 => ?_)
    refine lv_goto (tgt := 17) F.1 F.2.1 d_Lw_port_10 (by decide) ?_
    refine q_iconst F d_Lw_port_17 (by decide) (fun v6 hv6 => ?_)
    exact W.widen (Nat.le_of_ble_eq_true rfl) (Nat.le_of_ble_eq_true rfl) (q_iret F hr hlk hW5 ⟨_, X9, _, by rw [hv6]; exact hrel, hX9.keep (fun q hq => hfr5 q (by omega)), hU2, fun _ => ⟨v2, rfl, rfl⟩, fun q hq h4 => (hfr5 q h4).trans (hfr2 q hq)⟩ d_Lw_port_18)
set_option maxHeartbeats 4000000 in
set_option maxRecDepth 100000 in
theorem k_Lw_build (l : Launch) (D : va_G) (τ : Nat → ClassId) (A : Nat → Prop) (ad : Nat → Nat) (N : Nat) (w : Nat → va_E) (hlt : l.stackTraces = false) (hb : 485 ≤ N) (X : zSt) (B : Nat) (hX : qLR τ ad w X) (hO : zOK X B) (hB9 : B ≤ 1000) (x : Int32) (g0 : Int64) (hU : q_O τ w 484 g0) : Met l y_Lw_build (qwsH y_Lw_build c_Lw_build 4 (some .int) [(0, 9, 12, 13), (0, 9, 15, 21)]) ({ frames := 9, cells := 5, slots := 30, locals := 173 }) (qPx D τ A ad N w [.ref (ad 0), .int x, .ref (ad 484)]) (va_Qi (fun r1 w1 => ∃ r X9 g9, zR_build X x.toInt r1.toInt r X9 ∧ qLR τ ad w1 X9 ∧ q_O τ w1 484 g9 ∧ (r1.toInt = 0 → ∃ r32 : Int32, g9 = r32.toInt64 ∧ r32.toInt = r) ∧ (∀ q, 469 ≤ q → q ≠ 484 → w1 q = w q)) (qB D τ A ad N) A) 5 30 A := by
  refine qw_of (by decide) (Nat.le_of_ble_eq_true rfl) rfl ?_
  intro PP EE s MM below meth CC ls F hr hlk htab hl hW hst
  have hl : lv_has ls 4 [(0, .ref (ad 0)), (1, .int x), (2, .ref (ad 484))] := hl
  obtain ⟨⟨v0, hro, -⟩, -⟩ := id hX
  refine lv_aload_n F.1 F.2.1 d_Lw_build_0 rfl (lv_at hl 2 rfl) ?_
  refine q_iconst F d_Lw_build_1 (by decide) (fun v1 hv1 => ?_)
  refine lv_aload_n F.1 F.2.1 d_Lw_build_2 rfl (lv_at hl 0 rfl) ?_
  refine lv_iload_n F.1 F.2.1 d_Lw_build_3 rfl (lv_at hl 1 rfl) ?_
  refine qx_calli hW (qx_cV (As := [.int x]) (rest := [.int v1, .ref (ad 484)]) F hW hst cs_Lw_30 hd_LR_build rfl (by omega) hro (k_LR_build l D τ A ad N w hlt (by omega) X B hX hO hB9 x) rfl rfl ⟨by decide, by decide⟩ rfl hl.1 rfl (Nat.le_of_ble_eq_true rfl) d_Lw_build_4 ⟨Nat.le_of_ble_eq_true rfl, Nat.le_of_ble_eq_true rfl⟩) (fun E9 ce9 q9 wx Hx locsx hpx hWx h1x h2x h3x => ?_) (fun v2 w2 H2 locs2 hp2 hW2 => ?_)
  · obtain ⟨hcase, hXx, hfx⟩ := hpx
    have hUx := hU.keep (hfx 484 (by omega))
    rcases hcase with ⟨e1, hrel⟩ | ⟨e1, hrel⟩
    · subst e1
      refine qw_catch F hst htab [] (0, 9, 12, 13) [(0, 9, 15, 21)] rfl (fun z hz => nomatch hz) (by decide) (by decide) xl_13 (by decide) h1x h2x h3x ?_
      show W _ _ _ _ _ _ _ _ _ _ _ _ _ _ _ (F0 _ 12 _ _)
      refine lv_astore_n (lv' := [(3, .ref q9), (0, .ref (ad 0)), (1, .int x), (2, .ref (ad 484))]) F.1 F.2.1 d_Lw_build_12 rfl hl (by decide) rfl (fun ls3 hl3 => ?_)
      clear hl
      refine q_iconst F d_Lw_build_13 (by decide) (fun v4 hv4 => ?_)
      exact W.widen (Nat.le_of_ble_eq_true rfl) (Nat.le_of_ble_eq_true rfl) (q_iret F hr hlk hWx ⟨0, X, g0, by rw [hv4]; exact hrel, hXx, hUx, fun q => absurd q (by omega), fun q hq _ => hfx q hq⟩ d_Lw_build_14)
    · subst e1
      refine qw_catch F hst htab [(0, 9, 12, 13)] (0, 9, 15, 21) [] rfl (by intro z hz; simp only [List.mem_cons, List.not_mem_nil, or_false] at hz; subst hz; exact ⟨by decide, xIA, xl_13, by decide⟩) (by decide) (by decide) xl_21 (by decide) h1x h2x h3x ?_
      show W _ _ _ _ _ _ _ _ _ _ _ _ _ _ _ (F0 _ 15 _ _)
      refine lv_astore_n (lv' := [(3, .ref q9), (0, .ref (ad 0)), (1, .int x), (2, .ref (ad 484))]) F.1 F.2.1 d_Lw_build_15 rfl hl (by decide) rfl (fun ls5 hl5 => ?_)
      clear hl
      refine q_iconst F d_Lw_build_16 (by decide) (fun v6 hv6 => ?_)
      exact W.widen (Nat.le_of_ble_eq_true rfl) (Nat.le_of_ble_eq_true rfl) (q_iret F hr hlk hWx ⟨0, X, g0, by rw [hv6]; exact hrel, hXx, hUx, fun q => absurd q (by omega), fun q hq _ => hfx q hq⟩ d_Lw_build_17)
  · obtain ⟨X9, hrel, hX9, hfr2⟩ := hp2
    have hU1 := hU.keep (hfr2 484 (by omega))
    refine lv_i2l F.1 F.2.1 d_Lw_build_7 rfl ?_
    refine q_lastO F hW2 hU1 (by omega) (by omega) d_Lw_build_8 (fun H7 locs7 w7 hW7 hU2 hfr7 => ?_)
    refine lv_goto (tgt := 18) F.1 F.2.1 d_Lw_build_9 (by decide) ?_
    refine q_iconst F d_Lw_build_18 (by decide) (fun v8 hv8 => ?_)
    exact W.widen (Nat.le_of_ble_eq_true rfl) (Nat.le_of_ble_eq_true rfl) (q_iret F hr hlk hW7 ⟨_, X9, _, by rw [hv8]; exact hrel, hX9.keep (fun q hq => hfr7 q (by omega)), hU2, fun _ => ⟨v2, rfl, rfl⟩, fun q hq h4 => (hfr7 q h4).trans (hfr2 q hq)⟩ d_Lw_build_19)
set_option maxHeartbeats 4000000 in
set_option maxRecDepth 100000 in
theorem k_Lw_landmark (l : Launch) (D : va_G) (τ : Nat → ClassId) (A : Nat → Prop) (ad : Nat → Nat) (N : Nat) (w : Nat → va_E) (hlt : l.stackTraces = false) (hb : 485 ≤ N) (X : zSt) (B : Nat) (hX : qLR τ ad w X) (hO : zOK X B) (hB9 : B ≤ 1000) (x : Int32) (g0 : Int64) (hU : q_O τ w 484 g0) : Met l y_Lw_landmark (qwsH y_Lw_landmark c_Lw_landmark 4 (some .int) [(0, 9, 12, 21), (0, 9, 15, 19)]) ({ frames := 9, cells := 5, slots := 30, locals := 173 }) (qPx D τ A ad N w [.ref (ad 0), .int x, .ref (ad 484)]) (va_Qi (fun r1 w1 => ∃ r X9 g9, zR_landmark X x.toInt r1.toInt r X9 ∧ qLR τ ad w1 X9 ∧ q_O τ w1 484 g9 ∧ (r1.toInt = 0 → ∃ r32 : Int32, g9 = r32.toInt64 ∧ r32.toInt = r) ∧ (∀ q, 469 ≤ q → q ≠ 484 → w1 q = w q)) (qB D τ A ad N) A) 5 30 A := by
  refine qw_of (by decide) (Nat.le_of_ble_eq_true rfl) rfl ?_
  intro PP EE s MM below meth CC ls F hr hlk htab hl hW hst
  have hl : lv_has ls 4 [(0, .ref (ad 0)), (1, .int x), (2, .ref (ad 484))] := hl
  obtain ⟨⟨v0, hro, -⟩, -⟩ := id hX
  refine lv_aload_n F.1 F.2.1 d_Lw_landmark_0 rfl (lv_at hl 2 rfl) ?_
  refine q_iconst F d_Lw_landmark_1 (by decide) (fun v1 hv1 => ?_)
  refine lv_aload_n F.1 F.2.1 d_Lw_landmark_2 rfl (lv_at hl 0 rfl) ?_
  refine lv_iload_n F.1 F.2.1 d_Lw_landmark_3 rfl (lv_at hl 1 rfl) ?_
  refine qx_calli hW (qx_cV (As := [.int x]) (rest := [.int v1, .ref (ad 484)]) F hW hst cs_Lw_34 hd_LR_landmark rfl (by omega) hro (k_LR_landmark l D τ A ad N w hlt (by omega) X B hX hO hB9 x) rfl rfl ⟨by decide, by decide⟩ rfl hl.1 rfl (Nat.le_of_ble_eq_true rfl) d_Lw_landmark_4 ⟨Nat.le_of_ble_eq_true rfl, Nat.le_of_ble_eq_true rfl⟩) (fun E9 ce9 q9 wx Hx locsx hpx hWx h1x h2x h3x => ?_) (fun v2 w2 H2 locs2 hp2 hW2 => ?_)
  · obtain ⟨hcase, hXx, hfx⟩ := hpx
    have hUx := hU.keep (hfx 484 (by omega))
    rcases hcase with ⟨e1, hrel⟩ | ⟨e1, hrel⟩
    · subst e1
      refine qw_catch F hst htab [] (0, 9, 12, 21) [(0, 9, 15, 19)] rfl (fun z hz => nomatch hz) (by decide) (by decide) xl_21 (by decide) h1x h2x h3x ?_
      show W _ _ _ _ _ _ _ _ _ _ _ _ _ _ _ (F0 _ 12 _ _)
      refine lv_astore_n (lv' := [(3, .ref q9), (0, .ref (ad 0)), (1, .int x), (2, .ref (ad 484))]) F.1 F.2.1 d_Lw_landmark_12 rfl hl (by decide) rfl (fun ls3 hl3 => ?_)
      clear hl
      refine q_iconst F d_Lw_landmark_13 (by decide) (fun v4 hv4 => ?_)
      exact W.widen (Nat.le_of_ble_eq_true rfl) (Nat.le_of_ble_eq_true rfl) (q_iret F hr hlk hWx ⟨0, X, g0, by rw [hv4]; exact hrel, hXx, hUx, fun q => absurd q (by omega), fun q hq _ => hfx q hq⟩ d_Lw_landmark_14)
    · subst e1
      refine qw_catch F hst htab [(0, 9, 12, 21)] (0, 9, 15, 19) [] rfl (by intro z hz; simp only [List.mem_cons, List.not_mem_nil, or_false] at hz; subst hz; exact ⟨by decide, xIS, xl_21, by decide⟩) (by decide) (by decide) xl_19 (by decide) h1x h2x h3x ?_
      show W _ _ _ _ _ _ _ _ _ _ _ _ _ _ _ (F0 _ 15 _ _)
      refine lv_astore_n (lv' := [(3, .ref q9), (0, .ref (ad 0)), (1, .int x), (2, .ref (ad 484))]) F.1 F.2.1 d_Lw_landmark_15 rfl hl (by decide) rfl (fun ls5 hl5 => ?_)
      clear hl
      refine q_iconst F d_Lw_landmark_16 (by decide) (fun v6 hv6 => ?_)
      exact W.widen (Nat.le_of_ble_eq_true rfl) (Nat.le_of_ble_eq_true rfl) (q_iret F hr hlk hWx ⟨0, X, g0, by rw [hv6]; exact hrel, hXx, hUx, fun q => absurd q (by omega), fun q hq _ => hfx q hq⟩ d_Lw_landmark_17)
  · obtain ⟨X9, hrel, hX9, hfr2⟩ := hp2
    have hU1 := hU.keep (hfr2 484 (by omega))
    refine lv_i2l F.1 F.2.1 d_Lw_landmark_7 rfl ?_
    refine q_lastO F hW2 hU1 (by omega) (by omega) d_Lw_landmark_8 (fun H7 locs7 w7 hW7 hU2 hfr7 => ?_)
    refine lv_goto (tgt := 18) F.1 F.2.1 d_Lw_landmark_9 (by decide) ?_
    refine q_iconst F d_Lw_landmark_18 (by decide) (fun v8 hv8 => ?_)
    exact W.widen (Nat.le_of_ble_eq_true rfl) (Nat.le_of_ble_eq_true rfl) (q_iret F hr hlk hW7 ⟨_, X9, _, by rw [hv8]; exact hrel, hX9.keep (fun q hq => hfr7 q (by omega)), hU2, fun _ => ⟨v2, rfl, rfl⟩, fun q hq h4 => (hfr7 q h4).trans (hfr2 q hq)⟩ d_Lw_landmark_19)
set_option maxHeartbeats 4000000 in
set_option maxRecDepth 100000 in
theorem k_Lw_table (l : Launch) (D : va_G) (τ : Nat → ClassId) (A : Nat → Prop) (ad : Nat → Nat) (N : Nat) (w : Nat → va_E) (hlt : l.stackTraces = false) (hb : 485 ≤ N) (X : zSt) (B : Nat) (hX : qLR τ ad w X) (hO : zOK X B) (hB9 : B ≤ 1000) (x y : Int32) (g0 : Int64) (hU : q_O τ w 484 g0) : Met l y_Lw_table (qwsH y_Lw_table c_Lw_table 5 (some .int) [(0, 10, 13, 21), (0, 10, 17, 19)]) ({ frames := 9, cells := 5, slots := 30, locals := 173 }) (qPx D τ A ad N w [.ref (ad 0), .int x, .int y, .ref (ad 484)]) (va_Qi (fun r1 w1 => ∃ r X9 g9, zR_table X x.toInt y.toInt r1.toInt r X9 ∧ qLR τ ad w1 X9 ∧ q_O τ w1 484 g9 ∧ (r1.toInt = 0 → ∃ r32 : Int32, g9 = r32.toInt64 ∧ r32.toInt = r) ∧ (∀ q, 469 ≤ q → q ≠ 484 → w1 q = w q)) (qB D τ A ad N) A) 5 30 A := by
  refine qw_of (by decide) (Nat.le_of_ble_eq_true rfl) rfl ?_
  intro PP EE s MM below meth CC ls F hr hlk htab hl hW hst
  have hl : lv_has ls 5 [(0, .ref (ad 0)), (1, .int x), (2, .int y), (3, .ref (ad 484))] := hl
  obtain ⟨⟨v0, hro, -⟩, -⟩ := id hX
  refine lv_aload_n F.1 F.2.1 d_Lw_table_0 rfl (lv_at hl 3 rfl) ?_
  refine q_iconst F d_Lw_table_1 (by decide) (fun v1 hv1 => ?_)
  refine lv_aload_n F.1 F.2.1 d_Lw_table_2 rfl (lv_at hl 0 rfl) ?_
  refine lv_iload_n F.1 F.2.1 d_Lw_table_3 rfl (lv_at hl 1 rfl) ?_
  refine lv_iload_n F.1 F.2.1 d_Lw_table_4 rfl (lv_at hl 2 rfl) ?_
  refine qx_calli hW (qx_cV (As := [.int x, .int y]) (rest := [.int v1, .ref (ad 484)]) F hW hst cs_Lw_37 hd_LR_table rfl (by omega) hro (k_LR_table l D τ A ad N w hlt (by omega) X B hX hO hB9 x y) rfl rfl ⟨by decide, by decide⟩ rfl hl.1 rfl (Nat.le_of_ble_eq_true rfl) d_Lw_table_5 ⟨Nat.le_of_ble_eq_true rfl, Nat.le_of_ble_eq_true rfl⟩) (fun E9 ce9 q9 wx Hx locsx hpx hWx h1x h2x h3x => ?_) (fun v2 w2 H2 locs2 hp2 hW2 => ?_)
  · obtain ⟨hcase, hXx, hfx⟩ := hpx
    have hUx := hU.keep (hfx 484 (by omega))
    rcases hcase with ⟨e1, hrel⟩ | ⟨e1, hrel⟩
    · subst e1
      refine qw_catch F hst htab [] (0, 10, 13, 21) [(0, 10, 17, 19)] rfl (fun z hz => nomatch hz) (by decide) (by decide) xl_21 (by decide) h1x h2x h3x ?_
      show W _ _ _ _ _ _ _ _ _ _ _ _ _ _ _ (F0 _ 13 _ _)
      refine lv_astore (lv' := [(4, .ref q9), (0, .ref (ad 0)), (1, .int x), (2, .int y), (3, .ref (ad 484))]) F.1 F.2.1 d_Lw_table_13 hl (by decide) rfl (fun ls3 hl3 => ?_)
      clear hl
      refine q_iconst F d_Lw_table_15 (by decide) (fun v4 hv4 => ?_)
      exact W.widen (Nat.le_of_ble_eq_true rfl) (Nat.le_of_ble_eq_true rfl) (q_iret F hr hlk hWx ⟨0, X, g0, by rw [hv4]; exact hrel, hXx, hUx, fun q => absurd q (by omega), fun q hq _ => hfx q hq⟩ d_Lw_table_16)
    · subst e1
      refine qw_catch F hst htab [(0, 10, 13, 21)] (0, 10, 17, 19) [] rfl (by intro z hz; simp only [List.mem_cons, List.not_mem_nil, or_false] at hz; subst hz; exact ⟨by decide, xIS, xl_21, by decide⟩) (by decide) (by decide) xl_19 (by decide) h1x h2x h3x ?_
      show W _ _ _ _ _ _ _ _ _ _ _ _ _ _ _ (F0 _ 17 _ _)
      refine lv_astore (lv' := [(4, .ref q9), (0, .ref (ad 0)), (1, .int x), (2, .int y), (3, .ref (ad 484))]) F.1 F.2.1 d_Lw_table_17 hl (by decide) rfl (fun ls5 hl5 => ?_)
      clear hl
      refine q_iconst F d_Lw_table_19 (by decide) (fun v6 hv6 => ?_)
      exact W.widen (Nat.le_of_ble_eq_true rfl) (Nat.le_of_ble_eq_true rfl) (q_iret F hr hlk hWx ⟨0, X, g0, by rw [hv6]; exact hrel, hXx, hUx, fun q => absurd q (by omega), fun q hq _ => hfx q hq⟩ d_Lw_table_20)
  · obtain ⟨X9, hrel, hX9, hfr2⟩ := hp2
    have hU1 := hU.keep (hfr2 484 (by omega))
    refine lv_i2l F.1 F.2.1 d_Lw_table_8 rfl ?_
    refine q_lastO F hW2 hU1 (by omega) (by omega) d_Lw_table_9 (fun H7 locs7 w7 hW7 hU2 hfr7 => ?_)
    refine lv_goto (tgt := 21) F.1 F.2.1 d_Lw_table_10 (by decide) ?_
    refine q_iconst F d_Lw_table_21 (by decide) (fun v8 hv8 => ?_)
    exact W.widen (Nat.le_of_ble_eq_true rfl) (Nat.le_of_ble_eq_true rfl) (q_iret F hr hlk hW7 ⟨_, X9, _, by rw [hv8]; exact hrel, hX9.keep (fun q hq => hfr7 q (by omega)), hU2, fun _ => ⟨v2, rfl, rfl⟩, fun q hq h4 => (hfr7 q h4).trans (hfr2 q hq)⟩ d_Lw_table_22)
set_option maxHeartbeats 4000000 in
set_option maxRecDepth 100000 in
theorem k_Lw_row (l : Launch) (D : va_G) (τ : Nat → ClassId) (A : Nat → Prop) (ad : Nat → Nat) (N : Nat) (w : Nat → va_E) (hlt : l.stackTraces = false) (hb : 485 ≤ N) (X : zSt) (B : Nat) (hX : qLR τ ad w X) (hO : zOK X B) (hB9 : B ≤ 1000) (x y : Int32) (g0 : Int64) (hU : q_O τ w 484 g0) : Met l y_Lw_row (qwsH y_Lw_row c_Lw_row 5 (some .int) [(0, 10, 13, 21), (0, 10, 17, 19), (0, 10, 21, 13)]) ({ frames := 9, cells := 5, slots := 30, locals := 173 }) (qPx D τ A ad N w [.ref (ad 0), .int x, .int y, .ref (ad 484)]) (va_Qi (fun r1 w1 => ∃ r X9 g9, zR_row X x.toInt y.toInt r1.toInt r X9 ∧ qLR τ ad w1 X9 ∧ q_O τ w1 484 g9 ∧ (r1.toInt = 0 → ∃ r32 : Int32, g9 = r32.toInt64 ∧ r32.toInt = r) ∧ (∀ q, 469 ≤ q → q ≠ 484 → w1 q = w q)) (qB D τ A ad N) A) 5 30 A := by
  refine qw_of (by decide) (Nat.le_of_ble_eq_true rfl) rfl ?_
  intro PP EE s MM below meth CC ls F hr hlk htab hl hW hst
  have hl : lv_has ls 5 [(0, .ref (ad 0)), (1, .int x), (2, .int y), (3, .ref (ad 484))] := hl
  obtain ⟨⟨v0, hro, -⟩, -⟩ := id hX
  refine lv_aload_n F.1 F.2.1 d_Lw_row_0 rfl (lv_at hl 3 rfl) ?_
  refine q_iconst F d_Lw_row_1 (by decide) (fun v1 hv1 => ?_)
  refine lv_aload_n F.1 F.2.1 d_Lw_row_2 rfl (lv_at hl 0 rfl) ?_
  refine lv_iload_n F.1 F.2.1 d_Lw_row_3 rfl (lv_at hl 1 rfl) ?_
  refine lv_iload_n F.1 F.2.1 d_Lw_row_4 rfl (lv_at hl 2 rfl) ?_
  refine qx_calli hW (qx_cV (As := [.int x, .int y]) (rest := [.int v1, .ref (ad 484)]) F hW hst cs_Lw_40 hd_LR_row rfl (by omega) hro (k_LR_row l D τ A ad N w hlt (by omega) X B hX hO hB9 x y) rfl rfl ⟨by decide, by decide⟩ rfl hl.1 rfl (Nat.le_of_ble_eq_true rfl) d_Lw_row_5 ⟨Nat.le_of_ble_eq_true rfl, Nat.le_of_ble_eq_true rfl⟩) (fun E9 ce9 q9 wx Hx locsx hpx hWx h1x h2x h3x => ?_) (fun v2 w2 H2 locs2 hp2 hW2 => ?_)
  · obtain ⟨hcase, hXx, hfx⟩ := hpx
    have hUx := hU.keep (hfx 484 (by omega))
    rcases hcase with ⟨e1, hrel⟩ | ⟨e1, hrel⟩ | ⟨e1, hrel⟩
    · subst e1
      refine qw_catch F hst htab [] (0, 10, 13, 21) [(0, 10, 17, 19), (0, 10, 21, 13)] rfl (fun z hz => nomatch hz) (by decide) (by decide) xl_21 (by decide) h1x h2x h3x ?_
      show W _ _ _ _ _ _ _ _ _ _ _ _ _ _ _ (F0 _ 13 _ _)
      refine lv_astore (lv' := [(4, .ref q9), (0, .ref (ad 0)), (1, .int x), (2, .int y), (3, .ref (ad 484))]) F.1 F.2.1 d_Lw_row_13 hl (by decide) rfl (fun ls3 hl3 => ?_)
      clear hl
      refine q_iconst F d_Lw_row_15 (by decide) (fun v4 hv4 => ?_)
      exact W.widen (Nat.le_of_ble_eq_true rfl) (Nat.le_of_ble_eq_true rfl) (q_iret F hr hlk hWx ⟨0, X, g0, by rw [hv4]; exact hrel, hXx, hUx, fun q => absurd q (by omega), fun q hq _ => hfx q hq⟩ d_Lw_row_16)
    · subst e1
      refine qw_catch F hst htab [(0, 10, 13, 21)] (0, 10, 17, 19) [(0, 10, 21, 13)] rfl (by intro z hz; simp only [List.mem_cons, List.not_mem_nil, or_false] at hz; subst hz; exact ⟨by decide, xIS, xl_21, by decide⟩) (by decide) (by decide) xl_19 (by decide) h1x h2x h3x ?_
      show W _ _ _ _ _ _ _ _ _ _ _ _ _ _ _ (F0 _ 17 _ _)
      refine lv_astore (lv' := [(4, .ref q9), (0, .ref (ad 0)), (1, .int x), (2, .int y), (3, .ref (ad 484))]) F.1 F.2.1 d_Lw_row_17 hl (by decide) rfl (fun ls5 hl5 => ?_)
      clear hl
      refine q_iconst F d_Lw_row_19 (by decide) (fun v6 hv6 => ?_)
      exact W.widen (Nat.le_of_ble_eq_true rfl) (Nat.le_of_ble_eq_true rfl) (q_iret F hr hlk hWx ⟨0, X, g0, by rw [hv6]; exact hrel, hXx, hUx, fun q => absurd q (by omega), fun q hq _ => hfx q hq⟩ d_Lw_row_20)
    · subst e1
      refine qw_catch F hst htab [(0, 10, 13, 21), (0, 10, 17, 19)] (0, 10, 21, 13) [] rfl (by intro z hz; simp only [List.mem_cons, List.not_mem_nil, or_false] at hz; rcases hz with rfl | rfl; exact ⟨by decide, xIS, xl_21, by decide⟩; exact ⟨by decide, xIO, xl_19, by decide⟩) (by decide) (by decide) xl_13 (by decide) h1x h2x h3x ?_
      show W _ _ _ _ _ _ _ _ _ _ _ _ _ _ _ (F0 _ 21 _ _)
      refine lv_astore (lv' := [(4, .ref q9), (0, .ref (ad 0)), (1, .int x), (2, .int y), (3, .ref (ad 484))]) F.1 F.2.1 d_Lw_row_21 hl (by decide) rfl (fun ls7 hl7 => ?_)
      clear hl
      refine q_iconst F d_Lw_row_23 (by decide) (fun v8 hv8 => ?_)
      exact W.widen (Nat.le_of_ble_eq_true rfl) (Nat.le_of_ble_eq_true rfl) (q_iret F hr hlk hWx ⟨0, X, g0, by rw [hv8]; exact hrel, hXx, hUx, fun q => absurd q (by omega), fun q hq _ => hfx q hq⟩ d_Lw_row_24)
  · obtain ⟨X9, hrel, hX9, hfr2⟩ := hp2
    have hU1 := hU.keep (hfr2 484 (by omega))
    refine lv_i2l F.1 F.2.1 d_Lw_row_8 rfl ?_
    refine q_lastO F hW2 hU1 (by omega) (by omega) d_Lw_row_9 (fun H9 locs9 w9 hW9 hU2 hfr9 => ?_)
    refine lv_goto (tgt := 25) F.1 F.2.1 d_Lw_row_10 (by decide) ?_
    refine q_iconst F d_Lw_row_25 (by decide) (fun v10 hv10 => ?_)
    exact W.widen (Nat.le_of_ble_eq_true rfl) (Nat.le_of_ble_eq_true rfl) (q_iret F hr hlk hW9 ⟨_, X9, _, by rw [hv10]; exact hrel, hX9.keep (fun q hq => hfr9 q (by omega)), hU2, fun _ => ⟨v2, rfl, rfl⟩, fun q hq h4 => (hfr9 q h4).trans (hfr2 q hq)⟩ d_Lw_row_26)
set_option maxHeartbeats 4000000 in
set_option maxRecDepth 100000 in
theorem k_Lw_label (l : Launch) (D : va_G) (τ : Nat → ClassId) (A : Nat → Prop) (ad : Nat → Nat) (N : Nat) (w : Nat → va_E) (hlt : l.stackTraces = false) (hb : 485 ≤ N) (X : zSt) (B : Nat) (hX : qLR τ ad w X) (hO : zOK X B) (hB9 : B ≤ 1000) (x y : Int32) (g0 : Int64) (hU : q_O τ w 484 g0) : Met l y_Lw_label (qwsH y_Lw_label c_Lw_label 5 (some .int) [(0, 10, 13, 21), (0, 10, 17, 19)]) ({ frames := 9, cells := 5, slots := 30, locals := 173 }) (qPx D τ A ad N w [.ref (ad 0), .int x, .int y, .ref (ad 484)]) (va_Qi (fun r1 w1 => ∃ r X9 g9, zR_label X x.toInt y.toInt r1.toInt r X9 ∧ qLR τ ad w1 X9 ∧ q_O τ w1 484 g9 ∧ (r1.toInt = 0 → ∃ r32 : Int32, g9 = r32.toInt64 ∧ r32.toInt = r) ∧ (∀ q, 469 ≤ q → q ≠ 484 → w1 q = w q)) (qB D τ A ad N) A) 5 30 A := by
  refine qw_of (by decide) (Nat.le_of_ble_eq_true rfl) rfl ?_
  intro PP EE s MM below meth CC ls F hr hlk htab hl hW hst
  have hl : lv_has ls 5 [(0, .ref (ad 0)), (1, .int x), (2, .int y), (3, .ref (ad 484))] := hl
  obtain ⟨⟨v0, hro, -⟩, -⟩ := id hX
  refine lv_aload_n F.1 F.2.1 d_Lw_label_0 rfl (lv_at hl 3 rfl) ?_
  refine q_iconst F d_Lw_label_1 (by decide) (fun v1 hv1 => ?_)
  refine lv_aload_n F.1 F.2.1 d_Lw_label_2 rfl (lv_at hl 0 rfl) ?_
  refine lv_iload_n F.1 F.2.1 d_Lw_label_3 rfl (lv_at hl 1 rfl) ?_
  refine lv_iload_n F.1 F.2.1 d_Lw_label_4 rfl (lv_at hl 2 rfl) ?_
  refine qx_calli hW (qx_cV (As := [.int x, .int y]) (rest := [.int v1, .ref (ad 484)]) F hW hst cs_Lw_43 hd_LR_label rfl (by omega) hro (k_LR_label l D τ A ad N w hlt (by omega) X B hX hO hB9 x y) rfl rfl ⟨by decide, by decide⟩ rfl hl.1 rfl (Nat.le_of_ble_eq_true rfl) d_Lw_label_5 ⟨Nat.le_of_ble_eq_true rfl, Nat.le_of_ble_eq_true rfl⟩) (fun E9 ce9 q9 wx Hx locsx hpx hWx h1x h2x h3x => ?_) (fun v2 w2 H2 locs2 hp2 hW2 => ?_)
  · obtain ⟨hcase, hXx, hfx⟩ := hpx
    have hUx := hU.keep (hfx 484 (by omega))
    rcases hcase with ⟨e1, hrel⟩ | ⟨e1, hrel⟩
    · subst e1
      refine qw_catch F hst htab [] (0, 10, 13, 21) [(0, 10, 17, 19)] rfl (fun z hz => nomatch hz) (by decide) (by decide) xl_21 (by decide) h1x h2x h3x ?_
      show W _ _ _ _ _ _ _ _ _ _ _ _ _ _ _ (F0 _ 13 _ _)
      refine lv_astore (lv' := [(4, .ref q9), (0, .ref (ad 0)), (1, .int x), (2, .int y), (3, .ref (ad 484))]) F.1 F.2.1 d_Lw_label_13 hl (by decide) rfl (fun ls3 hl3 => ?_)
      clear hl
      refine q_iconst F d_Lw_label_15 (by decide) (fun v4 hv4 => ?_)
      exact W.widen (Nat.le_of_ble_eq_true rfl) (Nat.le_of_ble_eq_true rfl) (q_iret F hr hlk hWx ⟨0, X, g0, by rw [hv4]; exact hrel, hXx, hUx, fun q => absurd q (by omega), fun q hq _ => hfx q hq⟩ d_Lw_label_16)
    · subst e1
      refine qw_catch F hst htab [(0, 10, 13, 21)] (0, 10, 17, 19) [] rfl (by intro z hz; simp only [List.mem_cons, List.not_mem_nil, or_false] at hz; subst hz; exact ⟨by decide, xIS, xl_21, by decide⟩) (by decide) (by decide) xl_19 (by decide) h1x h2x h3x ?_
      show W _ _ _ _ _ _ _ _ _ _ _ _ _ _ _ (F0 _ 17 _ _)
      refine lv_astore (lv' := [(4, .ref q9), (0, .ref (ad 0)), (1, .int x), (2, .int y), (3, .ref (ad 484))]) F.1 F.2.1 d_Lw_label_17 hl (by decide) rfl (fun ls5 hl5 => ?_)
      clear hl
      refine q_iconst F d_Lw_label_19 (by decide) (fun v6 hv6 => ?_)
      exact W.widen (Nat.le_of_ble_eq_true rfl) (Nat.le_of_ble_eq_true rfl) (q_iret F hr hlk hWx ⟨0, X, g0, by rw [hv6]; exact hrel, hXx, hUx, fun q => absurd q (by omega), fun q hq _ => hfx q hq⟩ d_Lw_label_20)
  · obtain ⟨X9, hrel, hX9, hfr2⟩ := hp2
    have hU1 := hU.keep (hfr2 484 (by omega))
    refine lv_i2l F.1 F.2.1 d_Lw_label_8 rfl ?_
    refine q_lastO F hW2 hU1 (by omega) (by omega) d_Lw_label_9 (fun H7 locs7 w7 hW7 hU2 hfr7 => ?_)
    refine lv_goto (tgt := 21) F.1 F.2.1 d_Lw_label_10 (by decide) ?_
    refine q_iconst F d_Lw_label_21 (by decide) (fun v8 hv8 => ?_)
    exact W.widen (Nat.le_of_ble_eq_true rfl) (Nat.le_of_ble_eq_true rfl) (q_iret F hr hlk hW7 ⟨_, X9, _, by rw [hv8]; exact hrel, hX9.keep (fun q hq => hfr7 q (by omega)), hU2, fun _ => ⟨v2, rfl, rfl⟩, fun q hq h4 => (hfr7 q h4).trans (hfr2 q hq)⟩ d_Lw_label_22)
set_option maxHeartbeats 4000000 in
set_option maxRecDepth 100000 in
theorem k_Lw_tree (l : Launch) (D : va_G) (τ : Nat → ClassId) (A : Nat → Prop) (ad : Nat → Nat) (N : Nat) (w : Nat → va_E) (hlt : l.stackTraces = false) (hb : 485 ≤ N) (X : zSt) (B : Nat) (hX : qLR τ ad w X) (hO : zOK X B) (hB9 : B ≤ 1000) (x y z : Int32) (g0 : Int64) (hU : q_O τ w 484 g0) : Met l y_Lw_tree (qwsH y_Lw_tree c_Lw_tree 6 (some .int) [(0, 12, 15, 21), (0, 12, 19, 19), (0, 12, 23, 13)]) ({ frames := 9, cells := 5, slots := 30, locals := 173 }) (qPx D τ A ad N w [.ref (ad 0), .int x, .int y, .int z, .ref (ad 484)]) (va_Qi (fun r1 w1 => ∃ r X9 g9, zR_tree X x.toInt y.toInt z.toInt r1.toInt r X9 ∧ qLR τ ad w1 X9 ∧ q_O τ w1 484 g9 ∧ (r1.toInt = 0 → ∃ r32 : Int32, g9 = r32.toInt64 ∧ r32.toInt = r) ∧ (∀ q, 469 ≤ q → q ≠ 484 → w1 q = w q)) (qB D τ A ad N) A) 5 30 A := by
  refine qw_of (by decide) (Nat.le_of_ble_eq_true rfl) rfl ?_
  intro PP EE s MM below meth CC ls F hr hlk htab hl hW hst
  have hl : lv_has ls 6 [(0, .ref (ad 0)), (1, .int x), (2, .int y), (3, .int z), (4, .ref (ad 484))] := hl
  obtain ⟨⟨v0, hro, -⟩, -⟩ := id hX
  refine lv_aload F.1 F.2.1 d_Lw_tree_0 (lv_at hl 4 rfl) ?_
  refine q_iconst F d_Lw_tree_2 (by decide) (fun v1 hv1 => ?_)
  refine lv_aload_n F.1 F.2.1 d_Lw_tree_3 rfl (lv_at hl 0 rfl) ?_
  refine lv_iload_n F.1 F.2.1 d_Lw_tree_4 rfl (lv_at hl 1 rfl) ?_
  refine lv_iload_n F.1 F.2.1 d_Lw_tree_5 rfl (lv_at hl 2 rfl) ?_
  refine lv_iload_n F.1 F.2.1 d_Lw_tree_6 rfl (lv_at hl 3 rfl) ?_
  refine qx_calli hW (qx_cV (As := [.int x, .int y, .int z]) (rest := [.int v1, .ref (ad 484)]) F hW hst cs_Lw_46 hd_LR_tree rfl (by omega) hro (k_LR_tree l D τ A ad N w hlt (by omega) X B hX hO hB9 x y z) rfl rfl ⟨by decide, by decide⟩ rfl hl.1 rfl (Nat.le_of_ble_eq_true rfl) d_Lw_tree_7 ⟨Nat.le_of_ble_eq_true rfl, Nat.le_of_ble_eq_true rfl⟩) (fun E9 ce9 q9 wx Hx locsx hpx hWx h1x h2x h3x => ?_) (fun v2 w2 H2 locs2 hp2 hW2 => ?_)
  · obtain ⟨hcase, hXx, hfx⟩ := hpx
    have hUx := hU.keep (hfx 484 (by omega))
    rcases hcase with ⟨e1, hrel⟩ | ⟨e1, hrel⟩ | ⟨e1, hrel⟩
    · subst e1
      refine qw_catch F hst htab [] (0, 12, 15, 21) [(0, 12, 19, 19), (0, 12, 23, 13)] rfl (fun z hz => nomatch hz) (by decide) (by decide) xl_21 (by decide) h1x h2x h3x ?_
      show W _ _ _ _ _ _ _ _ _ _ _ _ _ _ _ (F0 _ 15 _ _)
      refine lv_astore (lv' := [(5, .ref q9), (0, .ref (ad 0)), (1, .int x), (2, .int y), (3, .int z), (4, .ref (ad 484))]) F.1 F.2.1 d_Lw_tree_15 hl (by decide) rfl (fun ls3 hl3 => ?_)
      clear hl
      refine q_iconst F d_Lw_tree_17 (by decide) (fun v4 hv4 => ?_)
      exact W.widen (Nat.le_of_ble_eq_true rfl) (Nat.le_of_ble_eq_true rfl) (q_iret F hr hlk hWx ⟨0, X, g0, by rw [hv4]; exact hrel, hXx, hUx, fun q => absurd q (by omega), fun q hq _ => hfx q hq⟩ d_Lw_tree_18)
    · subst e1
      refine qw_catch F hst htab [(0, 12, 15, 21)] (0, 12, 19, 19) [(0, 12, 23, 13)] rfl (by intro z hz; simp only [List.mem_cons, List.not_mem_nil, or_false] at hz; subst hz; exact ⟨by decide, xIS, xl_21, by decide⟩) (by decide) (by decide) xl_19 (by decide) h1x h2x h3x ?_
      show W _ _ _ _ _ _ _ _ _ _ _ _ _ _ _ (F0 _ 19 _ _)
      refine lv_astore (lv' := [(5, .ref q9), (0, .ref (ad 0)), (1, .int x), (2, .int y), (3, .int z), (4, .ref (ad 484))]) F.1 F.2.1 d_Lw_tree_19 hl (by decide) rfl (fun ls5 hl5 => ?_)
      clear hl
      refine q_iconst F d_Lw_tree_21 (by decide) (fun v6 hv6 => ?_)
      exact W.widen (Nat.le_of_ble_eq_true rfl) (Nat.le_of_ble_eq_true rfl) (q_iret F hr hlk hWx ⟨0, X, g0, by rw [hv6]; exact hrel, hXx, hUx, fun q => absurd q (by omega), fun q hq _ => hfx q hq⟩ d_Lw_tree_22)
    · subst e1
      refine qw_catch F hst htab [(0, 12, 15, 21), (0, 12, 19, 19)] (0, 12, 23, 13) [] rfl (by intro z hz; simp only [List.mem_cons, List.not_mem_nil, or_false] at hz; rcases hz with rfl | rfl; exact ⟨by decide, xIS, xl_21, by decide⟩; exact ⟨by decide, xIO, xl_19, by decide⟩) (by decide) (by decide) xl_13 (by decide) h1x h2x h3x ?_
      show W _ _ _ _ _ _ _ _ _ _ _ _ _ _ _ (F0 _ 23 _ _)
      refine lv_astore (lv' := [(5, .ref q9), (0, .ref (ad 0)), (1, .int x), (2, .int y), (3, .int z), (4, .ref (ad 484))]) F.1 F.2.1 d_Lw_tree_23 hl (by decide) rfl (fun ls7 hl7 => ?_)
      clear hl
      refine q_iconst F d_Lw_tree_25 (by decide) (fun v8 hv8 => ?_)
      exact W.widen (Nat.le_of_ble_eq_true rfl) (Nat.le_of_ble_eq_true rfl) (q_iret F hr hlk hWx ⟨0, X, g0, by rw [hv8]; exact hrel, hXx, hUx, fun q => absurd q (by omega), fun q hq _ => hfx q hq⟩ d_Lw_tree_26)
  · obtain ⟨X9, hrel, hX9, hfr2⟩ := hp2
    have hU1 := hU.keep (hfr2 484 (by omega))
    refine lv_i2l F.1 F.2.1 d_Lw_tree_10 rfl ?_
    refine q_lastO F hW2 hU1 (by omega) (by omega) d_Lw_tree_11 (fun H9 locs9 w9 hW9 hU2 hfr9 => ?_)
    refine lv_goto (tgt := 27) F.1 F.2.1 d_Lw_tree_12 (by decide) ?_
    refine q_iconst F d_Lw_tree_27 (by decide) (fun v10 hv10 => ?_)
    exact W.widen (Nat.le_of_ble_eq_true rfl) (Nat.le_of_ble_eq_true rfl) (q_iret F hr hlk hW9 ⟨_, X9, _, by rw [hv10]; exact hrel, hX9.keep (fun q hq => hfr9 q (by omega)), hU2, fun _ => ⟨v2, rfl, rfl⟩, fun q hq h4 => (hfr9 q h4).trans (hfr2 q hq)⟩ d_Lw_tree_28)
set_option maxHeartbeats 4000000 in
set_option maxRecDepth 100000 in
theorem k_Lw_send (l : Launch) (D : va_G) (τ : Nat → ClassId) (A : Nat → Prop) (ad : Nat → Nat) (N : Nat) (w : Nat → va_E) (hlt : l.stackTraces = false) (hb : 485 ≤ N) (X : zSt) (B : Nat) (hX : qLR τ ad w X) (hO : zOK X B) (hB9 : B ≤ 1000) (x y : Int32) (g0 : Int64) (hU : q_O τ w 484 g0) : Met l y_Lw_send (qwsH y_Lw_send c_Lw_send 5 (some .int) [(0, 10, 13, 21), (0, 10, 17, 19)]) ({ frames := 9, cells := 5, slots := 30, locals := 173 }) (qPx D τ A ad N w [.ref (ad 0), .int x, .int y, .ref (ad 484)]) (va_Qi (fun r1 w1 => ∃ r X9 g9, zR_send X x.toInt y.toInt r1.toInt r X9 ∧ qLR τ ad w1 X9 ∧ q_O τ w1 484 g9 ∧ (r1.toInt = 0 → ∃ r32 : Int32, g9 = r32.toInt64 ∧ r32.toInt = r) ∧ (∀ q, 469 ≤ q → q ≠ 484 → w1 q = w q)) (qB D τ A ad N) A) 5 30 A := by
  refine qw_of (by decide) (Nat.le_of_ble_eq_true rfl) rfl ?_
  intro PP EE s MM below meth CC ls F hr hlk htab hl hW hst
  have hl : lv_has ls 5 [(0, .ref (ad 0)), (1, .int x), (2, .int y), (3, .ref (ad 484))] := hl
  obtain ⟨⟨v0, hro, -⟩, -⟩ := id hX
  refine lv_aload_n F.1 F.2.1 d_Lw_send_0 rfl (lv_at hl 3 rfl) ?_
  refine q_iconst F d_Lw_send_1 (by decide) (fun v1 hv1 => ?_)
  refine lv_aload_n F.1 F.2.1 d_Lw_send_2 rfl (lv_at hl 0 rfl) ?_
  refine lv_iload_n F.1 F.2.1 d_Lw_send_3 rfl (lv_at hl 1 rfl) ?_
  refine lv_iload_n F.1 F.2.1 d_Lw_send_4 rfl (lv_at hl 2 rfl) ?_
  refine qx_calli hW (qx_cV (As := [.int x, .int y]) (rest := [.int v1, .ref (ad 484)]) F hW hst cs_Lw_49 hd_LR_send rfl (by omega) hro (k_LR_send l D τ A ad N w hlt (by omega) X B hX hO hB9 x y) rfl rfl ⟨by decide, by decide⟩ rfl hl.1 rfl (Nat.le_of_ble_eq_true rfl) d_Lw_send_5 ⟨Nat.le_of_ble_eq_true rfl, Nat.le_of_ble_eq_true rfl⟩) (fun E9 ce9 q9 wx Hx locsx hpx hWx h1x h2x h3x => ?_) (fun v2 w2 H2 locs2 hp2 hW2 => ?_)
  · obtain ⟨hcase, hXx, hfx⟩ := hpx
    have hUx := hU.keep (hfx 484 (by omega))
    rcases hcase with ⟨e1, hrel⟩ | ⟨e1, hrel⟩
    · subst e1
      refine qw_catch F hst htab [] (0, 10, 13, 21) [(0, 10, 17, 19)] rfl (fun z hz => nomatch hz) (by decide) (by decide) xl_21 (by decide) h1x h2x h3x ?_
      show W _ _ _ _ _ _ _ _ _ _ _ _ _ _ _ (F0 _ 13 _ _)
      refine lv_astore (lv' := [(4, .ref q9), (0, .ref (ad 0)), (1, .int x), (2, .int y), (3, .ref (ad 484))]) F.1 F.2.1 d_Lw_send_13 hl (by decide) rfl (fun ls3 hl3 => ?_)
      clear hl
      refine q_iconst F d_Lw_send_15 (by decide) (fun v4 hv4 => ?_)
      exact W.widen (Nat.le_of_ble_eq_true rfl) (Nat.le_of_ble_eq_true rfl) (q_iret F hr hlk hWx ⟨0, X, g0, by rw [hv4]; exact hrel, hXx, hUx, fun q => absurd q (by omega), fun q hq _ => hfx q hq⟩ d_Lw_send_16)
    · subst e1
      refine qw_catch F hst htab [(0, 10, 13, 21)] (0, 10, 17, 19) [] rfl (by intro z hz; simp only [List.mem_cons, List.not_mem_nil, or_false] at hz; subst hz; exact ⟨by decide, xIS, xl_21, by decide⟩) (by decide) (by decide) xl_19 (by decide) h1x h2x h3x ?_
      show W _ _ _ _ _ _ _ _ _ _ _ _ _ _ _ (F0 _ 17 _ _)
      refine lv_astore (lv' := [(4, .ref q9), (0, .ref (ad 0)), (1, .int x), (2, .int y), (3, .ref (ad 484))]) F.1 F.2.1 d_Lw_send_17 hl (by decide) rfl (fun ls5 hl5 => ?_)
      clear hl
      refine q_iconst F d_Lw_send_19 (by decide) (fun v6 hv6 => ?_)
      exact W.widen (Nat.le_of_ble_eq_true rfl) (Nat.le_of_ble_eq_true rfl) (q_iret F hr hlk hWx ⟨0, X, g0, by rw [hv6]; exact hrel, hXx, hUx, fun q => absurd q (by omega), fun q hq _ => hfx q hq⟩ d_Lw_send_20)
  · obtain ⟨X9, hrel, hX9, hfr2⟩ := hp2
    have hU1 := hU.keep (hfr2 484 (by omega))
    refine lv_i2l F.1 F.2.1 d_Lw_send_8 rfl ?_
    refine q_lastO F hW2 hU1 (by omega) (by omega) d_Lw_send_9 (fun H7 locs7 w7 hW7 hU2 hfr7 => ?_)
    refine lv_goto (tgt := 21) F.1 F.2.1 d_Lw_send_10 (by decide) ?_
    refine q_iconst F d_Lw_send_21 (by decide) (fun v8 hv8 => ?_)
    exact W.widen (Nat.le_of_ble_eq_true rfl) (Nat.le_of_ble_eq_true rfl) (q_iret F hr hlk hW7 ⟨_, X9, _, by rw [hv8]; exact hrel, hX9.keep (fun q hq => hfr7 q (by omega)), hU2, fun _ => ⟨v2, rfl, rfl⟩, fun q hq h4 => (hfr7 q h4).trans (hfr2 q hq)⟩ d_Lw_send_22)
set_option maxHeartbeats 4000000 in
set_option maxRecDepth 100000 in
theorem k_Lw_hop (l : Launch) (D : va_G) (τ : Nat → ClassId) (A : Nat → Prop) (ad : Nat → Nat) (N : Nat) (w : Nat → va_E) (hlt : l.stackTraces = false) (hb : 485 ≤ N) (X : zSt) (B : Nat) (hX : qLR τ ad w X) (hO : zOK X B) (hB9 : B ≤ 1000) (x : Int32) (g0 : Int64) (hU : q_O τ w 484 g0) : Met l y_Lw_hop (qwsH y_Lw_hop c_Lw_hop 4 (some .int) [(0, 9, 12, 13)]) ({ frames := 9, cells := 5, slots := 30, locals := 173 }) (qPx D τ A ad N w [.ref (ad 0), .int x, .ref (ad 484)]) (va_Qi (fun r1 w1 => ∃ r X9 g9, zR_hop X x.toInt r1.toInt r X9 ∧ qLR τ ad w1 X9 ∧ q_O τ w1 484 g9 ∧ (r1.toInt = 0 → ∃ r32 : Int32, g9 = r32.toInt64 ∧ r32.toInt = r) ∧ (∀ q, 469 ≤ q → q ≠ 484 → w1 q = w q)) (qB D τ A ad N) A) 5 30 A := by
  refine qw_of (by decide) (Nat.le_of_ble_eq_true rfl) rfl ?_
  intro PP EE s MM below meth CC ls F hr hlk htab hl hW hst
  have hl : lv_has ls 4 [(0, .ref (ad 0)), (1, .int x), (2, .ref (ad 484))] := hl
  obtain ⟨⟨v0, hro, -⟩, -⟩ := id hX
  refine lv_aload_n F.1 F.2.1 d_Lw_hop_0 rfl (lv_at hl 2 rfl) ?_
  refine q_iconst F d_Lw_hop_1 (by decide) (fun v1 hv1 => ?_)
  refine lv_aload_n F.1 F.2.1 d_Lw_hop_2 rfl (lv_at hl 0 rfl) ?_
  refine lv_iload_n F.1 F.2.1 d_Lw_hop_3 rfl (lv_at hl 1 rfl) ?_
  refine qx_calli hW (qx_cV (As := [.int x]) (rest := [.int v1, .ref (ad 484)]) F hW hst cs_Lw_52 hd_LR_hop rfl (by omega) hro (k_LR_hop l D τ A ad N w hlt (by omega) X B hX hO hB9 x) rfl rfl ⟨by decide, by decide⟩ rfl hl.1 rfl (Nat.le_of_ble_eq_true rfl) d_Lw_hop_4 ⟨Nat.le_of_ble_eq_true rfl, Nat.le_of_ble_eq_true rfl⟩) (fun E9 ce9 q9 wx Hx locsx hpx hWx h1x h2x h3x => ?_) (fun v2 w2 H2 locs2 hp2 hW2 => ?_)
  · obtain ⟨hcase, hXx, hfx⟩ := hpx
    have hUx := hU.keep (hfx 484 (by omega))
    obtain ⟨e1, hrel⟩ := hcase
    subst e1
    refine qw_catch F hst htab [] (0, 9, 12, 13) [] rfl (fun z hz => nomatch hz) (by decide) (by decide) xl_13 (by decide) h1x h2x h3x ?_
    show W _ _ _ _ _ _ _ _ _ _ _ _ _ _ _ (F0 _ 12 _ _)
    refine lv_astore_n (lv' := [(3, .ref q9), (0, .ref (ad 0)), (1, .int x), (2, .ref (ad 484))]) F.1 F.2.1 d_Lw_hop_12 rfl hl (by decide) rfl (fun ls3 hl3 => ?_)
    clear hl
    refine q_iconst F d_Lw_hop_13 (by decide) (fun v4 hv4 => ?_)
    exact W.widen (Nat.le_of_ble_eq_true rfl) (Nat.le_of_ble_eq_true rfl) (q_iret F hr hlk hWx ⟨0, X, g0, by rw [hv4]; exact hrel, hXx, hUx, fun q => absurd q (by omega), fun q hq _ => hfx q hq⟩ d_Lw_hop_14)
  · obtain ⟨X9, hrel, hX9, hfr2⟩ := hp2
    have hU1 := hU.keep (hfr2 484 (by omega))
    refine lv_i2l F.1 F.2.1 d_Lw_hop_7 rfl ?_
    refine q_lastO F hW2 hU1 (by omega) (by omega) d_Lw_hop_8 (fun H5 locs5 w5 hW5 hU2 hfr5 => ?_)
    refine lv_goto (tgt := 15) F.1 F.2.1 d_Lw_hop_9 (by decide) ?_
    refine q_iconst F d_Lw_hop_15 (by decide) (fun v6 hv6 => ?_)
    exact W.widen (Nat.le_of_ble_eq_true rfl) (Nat.le_of_ble_eq_true rfl) (q_iret F hr hlk hW5 ⟨_, X9, _, by rw [hv6]; exact hrel, hX9.keep (fun q hq => hfr5 q (by omega)), hU2, fun _ => ⟨v2, rfl, rfl⟩, fun q hq h4 => (hfr5 q h4).trans (hfr2 q hq)⟩ d_Lw_hop_16)
set_option maxHeartbeats 4000000 in
set_option maxRecDepth 100000 in
theorem k_Lw_weight (l : Launch) (D : va_G) (τ : Nat → ClassId) (A : Nat → Prop) (ad : Nat → Nat) (N : Nat) (w : Nat → va_E) (hlt : l.stackTraces = false) (hb : 485 ≤ N) (X : zSt) (B : Nat) (hX : qLR τ ad w X) (hO : zOK X B) (hB9 : B ≤ 1000) (x : Int32) (g0 : Int64) (hU : q_O τ w 484 g0) : Met l y_Lw_weight (qwsH y_Lw_weight c_Lw_weight 4 (some .int) [(0, 9, 12, 13)]) ({ frames := 9, cells := 5, slots := 30, locals := 173 }) (qPx D τ A ad N w [.ref (ad 0), .int x, .ref (ad 484)]) (va_Qi (fun r1 w1 => ∃ r X9 g9, zR_weight X x.toInt r1.toInt r X9 ∧ qLR τ ad w1 X9 ∧ q_O τ w1 484 g9 ∧ (r1.toInt = 0 → ∃ r32 : Int32, g9 = r32.toInt64 ∧ r32.toInt = r) ∧ (∀ q, 469 ≤ q → q ≠ 484 → w1 q = w q)) (qB D τ A ad N) A) 5 30 A := by
  refine qw_of (by decide) (Nat.le_of_ble_eq_true rfl) rfl ?_
  intro PP EE s MM below meth CC ls F hr hlk htab hl hW hst
  have hl : lv_has ls 4 [(0, .ref (ad 0)), (1, .int x), (2, .ref (ad 484))] := hl
  obtain ⟨⟨v0, hro, -⟩, -⟩ := id hX
  refine lv_aload_n F.1 F.2.1 d_Lw_weight_0 rfl (lv_at hl 2 rfl) ?_
  refine q_iconst F d_Lw_weight_1 (by decide) (fun v1 hv1 => ?_)
  refine lv_aload_n F.1 F.2.1 d_Lw_weight_2 rfl (lv_at hl 0 rfl) ?_
  refine lv_iload_n F.1 F.2.1 d_Lw_weight_3 rfl (lv_at hl 1 rfl) ?_
  refine qx_calli hW (qx_cV (As := [.int x]) (rest := [.int v1, .ref (ad 484)]) F hW hst cs_Lw_55 hd_LR_weight rfl (by omega) hro (k_LR_weight l D τ A ad N w hlt (by omega) X B hX hO hB9 x) rfl rfl ⟨by decide, by decide⟩ rfl hl.1 rfl (Nat.le_of_ble_eq_true rfl) d_Lw_weight_4 ⟨Nat.le_of_ble_eq_true rfl, Nat.le_of_ble_eq_true rfl⟩) (fun E9 ce9 q9 wx Hx locsx hpx hWx h1x h2x h3x => ?_) (fun v2 w2 H2 locs2 hp2 hW2 => ?_)
  · obtain ⟨hcase, hXx, hfx⟩ := hpx
    have hUx := hU.keep (hfx 484 (by omega))
    obtain ⟨e1, hrel⟩ := hcase
    subst e1
    refine qw_catch F hst htab [] (0, 9, 12, 13) [] rfl (fun z hz => nomatch hz) (by decide) (by decide) xl_13 (by decide) h1x h2x h3x ?_
    show W _ _ _ _ _ _ _ _ _ _ _ _ _ _ _ (F0 _ 12 _ _)
    refine lv_astore_n (lv' := [(3, .ref q9), (0, .ref (ad 0)), (1, .int x), (2, .ref (ad 484))]) F.1 F.2.1 d_Lw_weight_12 rfl hl (by decide) rfl (fun ls3 hl3 => ?_)
    clear hl
    refine q_iconst F d_Lw_weight_13 (by decide) (fun v4 hv4 => ?_)
    exact W.widen (Nat.le_of_ble_eq_true rfl) (Nat.le_of_ble_eq_true rfl) (q_iret F hr hlk hWx ⟨0, X, g0, by rw [hv4]; exact hrel, hXx, hUx, fun q => absurd q (by omega), fun q hq _ => hfx q hq⟩ d_Lw_weight_14)
  · obtain ⟨X9, hrel, hX9, hfr2⟩ := hp2
    have hU1 := hU.keep (hfr2 484 (by omega))
    refine lv_i2l F.1 F.2.1 d_Lw_weight_7 rfl ?_
    refine q_lastO F hW2 hU1 (by omega) (by omega) d_Lw_weight_8 (fun H5 locs5 w5 hW5 hU2 hfr5 => ?_)
    refine lv_goto (tgt := 15) F.1 F.2.1 d_Lw_weight_9 (by decide) ?_
    refine q_iconst F d_Lw_weight_15 (by decide) (fun v6 hv6 => ?_)
    exact W.widen (Nat.le_of_ble_eq_true rfl) (Nat.le_of_ble_eq_true rfl) (q_iret F hr hlk hW5 ⟨_, X9, _, by rw [hv6]; exact hrel, hX9.keep (fun q hq => hfr5 q (by omega)), hU2, fun _ => ⟨v2, rfl, rfl⟩, fun q hq h4 => (hfr5 q h4).trans (hfr2 q hq)⟩ d_Lw_weight_16)
set_option maxHeartbeats 4000000 in
set_option maxRecDepth 100000 in
theorem k_Lw_distance (l : Launch) (D : va_G) (τ : Nat → ClassId) (A : Nat → Prop) (ad : Nat → Nat) (N : Nat) (w : Nat → va_E) (hlt : l.stackTraces = false) (hb : 485 ≤ N) (X : zSt) (B : Nat) (hX : qLR τ ad w X) (hO : zOK X B) (hB9 : B ≤ 1000) (x y : Int32) (g0 : Int64) (hU : q_O τ w 484 g0) : Met l y_Lw_distance (qwsH y_Lw_distance c_Lw_distance 5 (some .int) [(0, 10, 13, 19)]) ({ frames := 9, cells := 5, slots := 30, locals := 173 }) (qPx D τ A ad N w [.ref (ad 0), .int x, .int y, .ref (ad 484)]) (va_Qi (fun r1 w1 => ∃ r X9 g9, zR_distance X x.toInt y.toInt r1.toInt r X9 ∧ qLR τ ad w1 X9 ∧ q_O τ w1 484 g9 ∧ (r1.toInt = 0 → ∃ r32 : Int32, g9 = r32.toInt64 ∧ r32.toInt = r) ∧ (∀ q, 469 ≤ q → q ≠ 484 → w1 q = w q)) (qB D τ A ad N) A) 5 30 A := by
  refine qw_of (by decide) (Nat.le_of_ble_eq_true rfl) rfl ?_
  intro PP EE s MM below meth CC ls F hr hlk htab hl hW hst
  have hl : lv_has ls 5 [(0, .ref (ad 0)), (1, .int x), (2, .int y), (3, .ref (ad 484))] := hl
  obtain ⟨⟨v0, hro, -⟩, -⟩ := id hX
  refine lv_aload_n F.1 F.2.1 d_Lw_distance_0 rfl (lv_at hl 3 rfl) ?_
  refine q_iconst F d_Lw_distance_1 (by decide) (fun v1 hv1 => ?_)
  refine lv_aload_n F.1 F.2.1 d_Lw_distance_2 rfl (lv_at hl 0 rfl) ?_
  refine lv_iload_n F.1 F.2.1 d_Lw_distance_3 rfl (lv_at hl 1 rfl) ?_
  refine lv_iload_n F.1 F.2.1 d_Lw_distance_4 rfl (lv_at hl 2 rfl) ?_
  refine qx_calli hW (qx_cV (As := [.int x, .int y]) (rest := [.int v1, .ref (ad 484)]) F hW hst cs_Lw_58 hd_LR_distance rfl (by omega) hro (k_LR_distance l D τ A ad N w hlt (by omega) X B hX hO hB9 x y) rfl rfl ⟨by decide, by decide⟩ rfl hl.1 rfl (Nat.le_of_ble_eq_true rfl) d_Lw_distance_5 ⟨Nat.le_of_ble_eq_true rfl, Nat.le_of_ble_eq_true rfl⟩) (fun E9 ce9 q9 wx Hx locsx hpx hWx h1x h2x h3x => ?_) (fun v2 w2 H2 locs2 hp2 hW2 => ?_)
  · obtain ⟨hcase, hXx, hfx⟩ := hpx
    have hUx := hU.keep (hfx 484 (by omega))
    obtain ⟨e1, hrel⟩ := hcase
    subst e1
    refine qw_catch F hst htab [] (0, 10, 13, 19) [] rfl (fun z hz => nomatch hz) (by decide) (by decide) xl_19 (by decide) h1x h2x h3x ?_
    show W _ _ _ _ _ _ _ _ _ _ _ _ _ _ _ (F0 _ 13 _ _)
    refine lv_astore (lv' := [(4, .ref q9), (0, .ref (ad 0)), (1, .int x), (2, .int y), (3, .ref (ad 484))]) F.1 F.2.1 d_Lw_distance_13 hl (by decide) rfl (fun ls3 hl3 => ?_)
    clear hl
    refine q_iconst F d_Lw_distance_15 (by decide) (fun v4 hv4 => ?_)
    exact W.widen (Nat.le_of_ble_eq_true rfl) (Nat.le_of_ble_eq_true rfl) (q_iret F hr hlk hWx ⟨0, X, g0, by rw [hv4]; exact hrel, hXx, hUx, fun q => absurd q (by omega), fun q hq _ => hfx q hq⟩ d_Lw_distance_16)
  · obtain ⟨X9, hrel, hX9, hfr2⟩ := hp2
    have hU1 := hU.keep (hfr2 484 (by omega))
    refine lv_i2l F.1 F.2.1 d_Lw_distance_8 rfl ?_
    refine q_lastO F hW2 hU1 (by omega) (by omega) d_Lw_distance_9 (fun H5 locs5 w5 hW5 hU2 hfr5 => ?_)
    refine lv_goto (tgt := 17) F.1 F.2.1 d_Lw_distance_10 (by decide) ?_
    refine q_iconst F d_Lw_distance_17 (by decide) (fun v6 hv6 => ?_)
    exact W.widen (Nat.le_of_ble_eq_true rfl) (Nat.le_of_ble_eq_true rfl) (q_iret F hr hlk hW5 ⟨_, X9, _, by rw [hv6]; exact hrel, hX9.keep (fun q hq => hfr5 q (by omega)), hU2, fun _ => ⟨v2, rfl, rfl⟩, fun q hq h4 => (hfr5 q h4).trans (hfr2 q hq)⟩ d_Lw_distance_18)
set_option maxHeartbeats 4000000 in
set_option maxRecDepth 100000 in
theorem k_Lw_walk (l : Launch) (D : va_G) (τ : Nat → ClassId) (A : Nat → Prop) (ad : Nat → Nat) (N : Nat) (w : Nat → va_E) (hlt : l.stackTraces = false) (hb : 485 ≤ N) (X : zSt) (B : Nat) (hX : qLR τ ad w X) (hO : zOK X B) (hB9 : B ≤ 1000) (x y z : Int32) (g0 : Int64) (hU : q_O τ w 484 g0) : Met l y_Lw_walk (qwsH y_Lw_walk c_Lw_walk 6 (some .int) [(0, 12, 15, 21), (0, 12, 19, 19)]) ({ frames := 9, cells := 5, slots := 30, locals := 173 }) (qPx D τ A ad N w [.ref (ad 0), .int x, .int y, .int z, .ref (ad 484)]) (va_Qi (fun r1 w1 => ∃ r X9 g9, zR_walk X x.toInt y.toInt z.toInt r1.toInt r X9 ∧ qLR τ ad w1 X9 ∧ q_O τ w1 484 g9 ∧ (r1.toInt = 0 → ∃ r32 : Int32, g9 = r32.toInt64 ∧ r32.toInt = r) ∧ (∀ q, 469 ≤ q → q ≠ 484 → w1 q = w q)) (qB D τ A ad N) A) 5 30 A := by
  refine qw_of (by decide) (Nat.le_of_ble_eq_true rfl) rfl ?_
  intro PP EE s MM below meth CC ls F hr hlk htab hl hW hst
  have hl : lv_has ls 6 [(0, .ref (ad 0)), (1, .int x), (2, .int y), (3, .int z), (4, .ref (ad 484))] := hl
  obtain ⟨⟨v0, hro, -⟩, -⟩ := id hX
  refine lv_aload F.1 F.2.1 d_Lw_walk_0 (lv_at hl 4 rfl) ?_
  refine q_iconst F d_Lw_walk_2 (by decide) (fun v1 hv1 => ?_)
  refine lv_aload_n F.1 F.2.1 d_Lw_walk_3 rfl (lv_at hl 0 rfl) ?_
  refine lv_iload_n F.1 F.2.1 d_Lw_walk_4 rfl (lv_at hl 1 rfl) ?_
  refine lv_iload_n F.1 F.2.1 d_Lw_walk_5 rfl (lv_at hl 2 rfl) ?_
  refine lv_iload_n F.1 F.2.1 d_Lw_walk_6 rfl (lv_at hl 3 rfl) ?_
  refine qx_calli hW (qx_cV (As := [.int x, .int y, .int z]) (rest := [.int v1, .ref (ad 484)]) F hW hst cs_Lw_61 hd_LR_walk rfl (by omega) hro (k_LR_walk l D τ A ad N w hlt (by omega) X B hX hO hB9 x y z) rfl rfl ⟨by decide, by decide⟩ rfl hl.1 rfl (Nat.le_of_ble_eq_true rfl) d_Lw_walk_7 ⟨Nat.le_of_ble_eq_true rfl, Nat.le_of_ble_eq_true rfl⟩) (fun E9 ce9 q9 wx Hx locsx hpx hWx h1x h2x h3x => ?_) (fun v2 w2 H2 locs2 hp2 hW2 => ?_)
  · obtain ⟨hcase, hXx, hfx⟩ := hpx
    have hUx := hU.keep (hfx 484 (by omega))
    rcases hcase with ⟨e1, hrel⟩ | ⟨e1, hrel⟩
    · subst e1
      refine qw_catch F hst htab [] (0, 12, 15, 21) [(0, 12, 19, 19)] rfl (fun z hz => nomatch hz) (by decide) (by decide) xl_21 (by decide) h1x h2x h3x ?_
      show W _ _ _ _ _ _ _ _ _ _ _ _ _ _ _ (F0 _ 15 _ _)
      refine lv_astore (lv' := [(5, .ref q9), (0, .ref (ad 0)), (1, .int x), (2, .int y), (3, .int z), (4, .ref (ad 484))]) F.1 F.2.1 d_Lw_walk_15 hl (by decide) rfl (fun ls3 hl3 => ?_)
      clear hl
      refine q_iconst F d_Lw_walk_17 (by decide) (fun v4 hv4 => ?_)
      exact W.widen (Nat.le_of_ble_eq_true rfl) (Nat.le_of_ble_eq_true rfl) (q_iret F hr hlk hWx ⟨0, X, g0, by rw [hv4]; exact hrel, hXx, hUx, fun q => absurd q (by omega), fun q hq _ => hfx q hq⟩ d_Lw_walk_18)
    · subst e1
      refine qw_catch F hst htab [(0, 12, 15, 21)] (0, 12, 19, 19) [] rfl (by intro z hz; simp only [List.mem_cons, List.not_mem_nil, or_false] at hz; subst hz; exact ⟨by decide, xIS, xl_21, by decide⟩) (by decide) (by decide) xl_19 (by decide) h1x h2x h3x ?_
      show W _ _ _ _ _ _ _ _ _ _ _ _ _ _ _ (F0 _ 19 _ _)
      refine lv_astore (lv' := [(5, .ref q9), (0, .ref (ad 0)), (1, .int x), (2, .int y), (3, .int z), (4, .ref (ad 484))]) F.1 F.2.1 d_Lw_walk_19 hl (by decide) rfl (fun ls5 hl5 => ?_)
      clear hl
      refine q_iconst F d_Lw_walk_21 (by decide) (fun v6 hv6 => ?_)
      exact W.widen (Nat.le_of_ble_eq_true rfl) (Nat.le_of_ble_eq_true rfl) (q_iret F hr hlk hWx ⟨0, X, g0, by rw [hv6]; exact hrel, hXx, hUx, fun q => absurd q (by omega), fun q hq _ => hfx q hq⟩ d_Lw_walk_22)
  · obtain ⟨X9, hrel, hX9, hfr2⟩ := hp2
    have hU1 := hU.keep (hfr2 484 (by omega))
    refine lv_i2l F.1 F.2.1 d_Lw_walk_10 rfl ?_
    refine q_lastO F hW2 hU1 (by omega) (by omega) d_Lw_walk_11 (fun H7 locs7 w7 hW7 hU2 hfr7 => ?_)
    refine lv_goto (tgt := 23) F.1 F.2.1 d_Lw_walk_12 (by decide) ?_
    refine q_iconst F d_Lw_walk_23 (by decide) (fun v8 hv8 => ?_)
    exact W.widen (Nat.le_of_ble_eq_true rfl) (Nat.le_of_ble_eq_true rfl) (q_iret F hr hlk hW7 ⟨_, X9, _, by rw [hv8]; exact hrel, hX9.keep (fun q hq => hfr7 q (by omega)), hU2, fun _ => ⟨v2, rfl, rfl⟩, fun q hq h4 => (hfr7 q h4).trans (hfr2 q hq)⟩ d_Lw_walk_24)
