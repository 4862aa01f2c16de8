set_option maxHeartbeats 4000000 in
set_option maxRecDepth 100000 in
/-- cut -/
theorem k_LR_cut (l : Launch) (D : va_G) (τ : Nat → ClassId) (A : Nat → Prop) (ad : Nat → Nat) (N : Nat) (w : Nat → va_E) (hlt : l.stackTraces = false) (hb : 469 ≤ N) (X : zSt) (B : Nat) (hX : qLR τ ad w X) (hO : zOK X B) (hB9 : B ≤ 1000) (x y : Int32) : vx_Met l y_LR_cut (qws y_LR_cut c_LR_cut 4 (some .int)) ({ frames := 8, cells := 5, slots := 30, locals := 150 }) (qPx D τ A ad N w [.ref (ad 0), .int x, .int y]) (va_Qi (fun r1 w1 => ∃ X9, zR_cut X x.toInt y.toInt 0 r1.toInt X9 ∧ qLR τ ad w1 X9 ∧ (∀ q, 469 ≤ q → w1 q = w q)) (qB D τ A ad N) A) (qXC D τ A ad N (fun E w1 => ((E = xIO ∧ zR_cut X x.toInt y.toInt 1 0 X) ∨ (E = xIA ∧ zR_cut X x.toInt y.toInt 2 0 X)) ∧ qLR τ ad w1 X ∧ (∀ q, 469 ≤ q → w1 q = w q))) 5 30 A := by
  refine qx_of (by decide) (Nat.le_of_ble_eq_true rfl) rfl ?_
  intro PP EE s MM below meth CC ls F hr hlk hout hl hW hst
  have hl : lv_has ls 4 [(0, .ref (ad 0)), (1, .int x), (2, .int y)] := hl
  obtain ⟨⟨v0, hro, hvb⟩, hN, hSh, hSc, hPk, ⟨F1, hF1⟩, F2, hF2⟩ := id hX
  obtain ⟨hm1, hm40, hZ, hBt, hpk16, hpkb, hpk9, hsn⟩ := id hO
  obtain ⟨⟨n32, nho, -⟩, -⟩ := id hN
  obtain ⟨⟨p1, p2, hpo, -⟩, -⟩ := id hPk
  obtain ⟨hso, -⟩ := id hSh
  refine lv_aload_n F.1 F.2.1 d_LR_cut_0 rfl (lv_at hl 0 rfl) ?_
  refine lv_iload_n F.1 F.2.1 d_LR_cut_1 rfl (lv_at hl 1 rfl) ?_
  refine qx_callv hW (qx_cV (As := [.int x]) (rest := []) F hW hst cs_LR_54 hd_LR_needNode rfl (by omega) hro (k_LR_needNode l D τ A ad N w hlt hb v0 hro X.n X.bh X.wt hN x) rfl rfl ⟨by decide, by decide⟩ rfl hl.1 rfl (Nat.le_of_ble_eq_true rfl) d_LR_cut_2 ⟨Nat.le_of_ble_eq_true rfl, Nat.le_of_ble_eq_true rfl⟩) (fun E9 ce9 q9 wx Hx locsx hpx hWx h1x h2x h3x => qx_out hWx hout hlk h1x h2x h3x (by obtain ⟨e1, e2, e3⟩ := hpx; subst e2; subst e1; exact ⟨Or.inl (⟨rfl, Or.inl ⟨rfl, rfl, fun q => e3 q.1⟩⟩), hX, fun _ _ => rfl⟩) (Nat.le_of_ble_eq_true rfl) (Nat.le_of_ble_eq_true rfl)) (fun w1 H1 locs1 hp1 hW1 => ?_)
  obtain ⟨hq1, hp1⟩ := hp1
  replace hq1 := hq1.symm
  subst hq1
  refine lv_aload_n F.1 F.2.1 d_LR_cut_5 rfl (lv_at hl 0 rfl) ?_
  refine lv_iload_n F.1 F.2.1 d_LR_cut_6 rfl (lv_at hl 2 rfl) ?_
  refine qx_callv hW1 (qx_cV (As := [.int y]) (rest := []) F hW1 hst cs_LR_54 hd_LR_needNode rfl (by omega) hro (k_LR_needNode l D τ A ad N w hlt hb v0 hro X.n X.bh X.wt hN y) rfl rfl ⟨by decide, by decide⟩ rfl hl.1 rfl (Nat.le_of_ble_eq_true rfl) d_LR_cut_7 ⟨Nat.le_of_ble_eq_true rfl, Nat.le_of_ble_eq_true rfl⟩) (fun E9 ce9 q9 wx Hx locsx hpx hWx h1x h2x h3x => qx_out hWx hout hlk h1x h2x h3x (by obtain ⟨e1, e2, e3⟩ := hpx; subst e2; subst e1; exact ⟨Or.inl (⟨rfl, Or.inl ⟨rfl, rfl, fun q => e3 q.2⟩⟩), hX, fun _ _ => rfl⟩) (Nat.le_of_ble_eq_true rfl) (Nat.le_of_ble_eq_true rfl)) (fun w2 H2 locs2 hp2 hW2 => ?_)
  obtain ⟨hq2, hp2⟩ := hp2
  replace hq2 := hq2.symm
  subst hq2
  obtain ⟨a, hxa⟩ : ∃ a : Nat, x.toInt = (a : Int) := ⟨x.toInt.toNat, by omega⟩
  obtain ⟨c, hxc⟩ : ∃ c : Nat, y.toInt = (c : Int) := ⟨y.toInt.toNat, by omega⟩
  refine lv_aload_n F.1 F.2.1 d_LR_cut_10 rfl (lv_at hl 0 rfl) ?_
  refine gf_LR_10 F hW2 (by omega) hro d_LR_cut_11 ?_
  refine lv_iload_n F.1 F.2.1 d_LR_cut_14 rfl (lv_at hl 1 rfl) ?_
  refine lv_iload_n F.1 F.2.1 d_LR_cut_15 rfl (lv_at hl 2 rfl) ?_
  refine q_calli hW2 (q_cV (As := [.int x, .int y]) (rest := []) F hW2 cs_LR_59 hd_Ne_portTo rfl (by omega) nho (k_Ne_portTo l D τ A ad N w 1 (by omega) X.n X.bh X.wt hN x y a hxa (by omega)) rfl rfl ⟨by decide, by decide⟩ rfl hl.1 rfl (Nat.le_of_ble_eq_true rfl) d_LR_cut_16 ⟨Nat.le_of_ble_eq_true rfl, Nat.le_of_ble_eq_true rfl⟩) (fun v3 w3 H3 locs3 hp3 hW3 => ?_)
  obtain ⟨hq3, hp3⟩ := hp3
  replace hq3 := hq3.symm
  subst hq3
  rw [hxc] at hp3
  have hsy := hO.sym (show a < X.n by omega) (show c < X.n by omega)
  refine q_iconst F d_LR_cut_19 (by decide) (fun v4 hv4 => ?_)
  refine q_icmp_ne (tgt := 33) F d_LR_cut_20 (by decide) (fun c20 => ?_) (fun c20 => ?_)
  · have hzc : zp X.bh c (a : Int) ≠ -1 := hsy.mp (by omega)
    obtain ⟨qa, hqa, ea, ea2, -⟩ := zp_at (bh := X.bh) (a := a) (b := (c : Int)) (by omega)
    obtain ⟨qc, hqc, ec, -⟩ := zp_at hzc
    have hwq := zp_wt hZ (show a < X.n by omega) hqa ea2
    have hac : a ≠ c := fun z => by have h8 := (zp_edge hZ (show a < X.n by omega) (show c < X.n by omega)).mp (by omega); have h9 := hZ.1.2 a (by omega); rw [← z] at h8; omega
    refine lv_aload_n F.1 F.2.1 d_LR_cut_33 rfl (lv_at hl 0 rfl) ?_
    refine gf_LR_10 F hW3 (by omega) hro d_LR_cut_34 ?_
    refine lv_iload_n F.1 F.2.1 d_LR_cut_37 rfl (lv_at hl 1 rfl) ?_
    refine lv_iload_n F.1 F.2.1 d_LR_cut_38 rfl (lv_at hl 2 rfl) ?_
    refine q_calli hW3 (q_cV (As := [.int x, .int y]) (rest := []) F hW3 cs_LR_82 hd_Ne_weightTo rfl (by omega) nho (k_Ne_weightTo l D τ A ad N w 1 (by omega) X.n X.bh X.wt hN x y a hxa (by omega)) rfl rfl ⟨by decide, by decide⟩ rfl hl.1 rfl (Nat.le_of_ble_eq_true rfl) d_LR_cut_39 ⟨Nat.le_of_ble_eq_true rfl, Nat.le_of_ble_eq_true rfl⟩) (fun v5 w5 H5 locs5 hp5 hW5 => ?_)
    obtain ⟨hq5, hp5⟩ := hp5
    replace hq5 := hq5.symm
    subst hq5
    rw [hxc, ea] at hp5
    have hv9 : v5.toInt = X.Wt a c := by rcases hp5 with ⟨z1, -⟩ | ⟨-, z2⟩; omega; rw [z2]; simp only [Int.toNat_natCast]; exact hwq
    refine lv_istore_n (lv' := [(3, .int v5), (0, .ref (ad 0)), (1, .int x), (2, .int y)]) F.1 F.2.1 d_LR_cut_42 rfl hl (by decide) rfl (fun ls6 hl6 => ?_)
    clear hl
    refine lv_aload_n F.1 F.2.1 d_LR_cut_43 rfl (lv_at hl6 1 rfl) ?_
    refine gf_LR_10 F hW5 (by omega) hro d_LR_cut_44 ?_
    refine lv_iload_n F.1 F.2.1 d_LR_cut_47 rfl (lv_at hl6 2 rfl) ?_
    refine lv_iload_n F.1 F.2.1 d_LR_cut_48 rfl (lv_at hl6 3 rfl) ?_
    refine q_callv hW5 (q_cV (As := [.int x, .int y]) (rest := []) F hW5 cs_LR_85 hd_Ne_part rfl (by omega) nho (k_Ne_part l D τ A ad N w 1 (by omega) X.n X.bh X.wt hN x y a c hxa hxc (by omega) (by omega) hac qa qc hqa hqc ea ec) rfl rfl ⟨by decide, by decide⟩ rfl hl6.1 rfl (Nat.le_of_ble_eq_true rfl) d_LR_cut_49 ⟨Nat.le_of_ble_eq_true rfl, Nat.le_of_ble_eq_true rfl⟩) (fun w7 H7 locs7 hp7 hW7 => ?_)
    obtain ⟨hN9, hfr7⟩ := hp7
    replace hro := (hfr7 _ (by omega)).trans hro
    replace hSh := hSh.keep (fun q h1 h2 => hfr7 _ (by omega))
    replace hPk := hPk.keep (fun q h1 h2 => hfr7 _ (by omega))
    replace hF1 := hF1.keep (hfr7 _ (by omega))
    replace hF2 := hF2.keep (hfr7 _ (by omega))
    refine lv_iload_n F.1 F.2.1 d_LR_cut_52 rfl (lv_at hl6 0 rfl) ?_
    exact qx_iret F hr hlk hW7 (⟨zs_cut X a c qa qc, by rw [hxa, hxc, hv9]; exact zR_cut_yes (by omega) (by omega) ea ec, ⟨⟨v0, hro, hvb⟩, hN9, hSh, fun b => (hSc b).keep (fun q _ _ => hfr7 q (by omega)), hPk, ⟨_, hF1⟩, _, hF2⟩, fun q hq => hfr7 q (by omega)⟩) (Nat.le_of_ble_eq_true rfl) (Nat.le_of_ble_eq_true rfl) d_LR_cut_53
  · exact qx_throw F hlt hW3 hst (cls := xIA) (ik := 41) (ic := 45) (by decide) xa_kIA xa_iIA (text := "there is no such edge") (is := 80) (by decide) (xa_gd xa_in45) xa_bad45 xa_ot45 hl.1 hout hlk (⟨Or.inr (⟨rfl, by rw [hxa, hxc]; exact Or.inr ⟨⟨⟨by omega, by omega⟩, by omega, by omega⟩, Or.inl ⟨rfl, rfl, by simp only [Int.toNat_natCast]; omega⟩⟩⟩), hX, fun _ _ => rfl⟩) (Nat.le_of_ble_eq_true rfl) (Nat.le_of_ble_eq_true rfl) (Nat.le_of_ble_eq_true rfl) (Nat.le_of_ble_eq_true rfl) (Nat.le_of_ble_eq_true rfl) (Nat.le_of_ble_eq_true rfl) d_LR_cut_23 d_LR_cut_26 d_LR_cut_27 d_LR_cut_29 d_LR_cut_32
set_option maxHeartbeats 4000000 in
set_option maxRecDepth 100000 in
/-- port -/
theorem k_LR_port (l : Launch) (D : va_G) (τ : Nat → ClassId) (A : Nat → Prop) (ad : Nat → Nat) (N : Nat) (w : Nat → va_E) (hlt : l.stackTraces = false) (hb : 469 ≤ N) (X : zSt) (B : Nat) (hX : qLR τ ad w X) (hO : zOK X B) (hB9 : B ≤ 1000) (x y : Int32) : vx_Met l y_LR_port (qws y_LR_port c_LR_port 3 (some .int)) ({ frames := 8, cells := 5, slots := 30, locals := 150 }) (qPx D τ A ad N w [.ref (ad 0), .int x, .int y]) (va_Qi (fun r1 w1 => ∃ X9, zR_port X x.toInt y.toInt 0 r1.toInt X9 ∧ qLR τ ad w1 X9 ∧ (∀ q, 469 ≤ q → w1 q = w q)) (qB D τ A ad N) A) (qXC D τ A ad N (fun E w1 => ((E = xIO ∧ zR_port X x.toInt y.toInt 1 0 X)) ∧ qLR τ ad w1 X ∧ (∀ q, 469 ≤ q → w1 q = w q))) 5 30 A := by
  refine qx_of (by decide) (Nat.le_of_ble_eq_true rfl) rfl ?_
  intro PP EE s MM below meth CC ls F hr hlk hout hl hW hst
  have hl : lv_has ls 3 [(0, .ref (ad 0)), (1, .int x), (2, .int y)] := hl
  obtain ⟨⟨v0, hro, hvb⟩, hN, hSh, hSc, hPk, ⟨F1, hF1⟩, F2, hF2⟩ := id hX
  obtain ⟨hm1, hm40, hZ, hBt, hpk16, hpkb, hpk9, hsn⟩ := id hO
  obtain ⟨⟨n32, nho, -⟩, -⟩ := id hN
  obtain ⟨⟨p1, p2, hpo, -⟩, -⟩ := id hPk
  obtain ⟨hso, -⟩ := id hSh
  refine lv_aload_n F.1 F.2.1 d_LR_port_0 rfl (lv_at hl 0 rfl) ?_
  refine lv_iload_n F.1 F.2.1 d_LR_port_1 rfl (lv_at hl 1 rfl) ?_
  refine qx_callv hW (qx_cV (As := [.int x]) (rest := []) F hW hst cs_LR_54 hd_LR_needNode rfl (by omega) hro (k_LR_needNode l D τ A ad N w hlt hb v0 hro X.n X.bh X.wt hN x) rfl rfl ⟨by decide, by decide⟩ rfl hl.1 rfl (Nat.le_of_ble_eq_true rfl) d_LR_port_2 ⟨Nat.le_of_ble_eq_true rfl, Nat.le_of_ble_eq_true rfl⟩) (fun E9 ce9 q9 wx Hx locsx hpx hWx h1x h2x h3x => qx_out hWx hout hlk h1x h2x h3x (by obtain ⟨e1, e2, e3⟩ := hpx; subst e2; subst e1; exact ⟨⟨rfl, ⟨rfl, Or.inl ⟨rfl, fun q => e3 q.1⟩⟩⟩, hX, fun _ _ => rfl⟩) (Nat.le_of_ble_eq_true rfl) (Nat.le_of_ble_eq_true rfl)) (fun w1 H1 locs1 hp1 hW1 => ?_)
  obtain ⟨hq1, hp1⟩ := hp1
  replace hq1 := hq1.symm
  subst hq1
  refine lv_aload_n F.1 F.2.1 d_LR_port_5 rfl (lv_at hl 0 rfl) ?_
  refine lv_iload_n F.1 F.2.1 d_LR_port_6 rfl (lv_at hl 2 rfl) ?_
  refine q_bipush F d_LR_port_7 (by decide) (fun v2 hv2 => ?_)
  refine qx_callv hW1 (qx_cV (As := [.int y, .int v2]) (rest := []) F hW1 hst cs_LR_88 hd_LR_needBelow rfl (by omega) hro (k_LR_needBelow l D τ A ad N w hlt y v2) rfl rfl ⟨by decide, by decide⟩ rfl hl.1 rfl (Nat.le_of_ble_eq_true rfl) d_LR_port_9 ⟨Nat.le_of_ble_eq_true rfl, Nat.le_of_ble_eq_true rfl⟩) (fun E9 ce9 q9 wx Hx locsx hpx hWx h1x h2x h3x => qx_out hWx hout hlk h1x h2x h3x (by obtain ⟨e1, e2, e3⟩ := hpx; subst e2; subst e1; exact ⟨⟨rfl, ⟨rfl, Or.inl ⟨rfl, fun q => e3 (by omega)⟩⟩⟩, hX, fun _ _ => rfl⟩) (Nat.le_of_ble_eq_true rfl) (Nat.le_of_ble_eq_true rfl)) (fun w3 H3 locs3 hp3 hW3 => ?_)
  obtain ⟨hq3, hp3⟩ := hp3
  replace hq3 := hq3.symm
  subst hq3
  obtain ⟨a, hxa⟩ : ∃ a : Nat, x.toInt = (a : Int) := ⟨x.toInt.toNat, by omega⟩
  obtain ⟨c, hxc⟩ : ∃ c : Nat, y.toInt = (c : Int) := ⟨y.toInt.toNat, by omega⟩
  refine lv_aload_n F.1 F.2.1 d_LR_port_12 rfl (lv_at hl 0 rfl) ?_
  refine gf_LR_10 F hW3 (by omega) hro d_LR_port_13 ?_
  refine lv_iload_n F.1 F.2.1 d_LR_port_16 rfl (lv_at hl 1 rfl) ?_
  refine lv_iload_n F.1 F.2.1 d_LR_port_17 rfl (lv_at hl 2 rfl) ?_
  refine q_calli hW3 (q_cV (As := [.int x, .int y]) (rest := []) F hW3 cs_LR_91 hd_Ne_behindPort rfl (by omega) nho (k_Ne_behindPort l D τ A ad N w 1 (by omega) X.n X.bh X.wt hN x y a c hxa hxc (by omega) (by omega)) rfl rfl ⟨by decide, by decide⟩ rfl hl.1 rfl (Nat.le_of_ble_eq_true rfl) d_LR_port_18 ⟨Nat.le_of_ble_eq_true rfl, Nat.le_of_ble_eq_true rfl⟩) (fun v4 w4 H4 locs4 hp4 hW4 => ?_)
  obtain ⟨hq4, hp4⟩ := hp4
  replace hq4 := hq4.symm
  subst hq4
  exact qx_iret F hr hlk hW4 (⟨X, by rw [hxa, hxc, hp4]; exact ⟨rfl, Or.inr ⟨rfl, ⟨⟨by omega, by omega⟩, by omega, by omega⟩, by simp only [Int.toNat_natCast]⟩⟩, hX, fun _ _ => rfl⟩) (Nat.le_of_ble_eq_true rfl) (Nat.le_of_ble_eq_true rfl) d_LR_port_21
set_option maxHeartbeats 4000000 in
set_option maxRecDepth 100000 in
/-- build -/
theorem k_LR_build (l : Launch) (D : va_G) (τ : Nat → ClassId) (A : Nat → Prop) (ad : Nat → Nat) (N : Nat) (w : Nat → va_E) (hlt : l.stackTraces = false) (hb : 469 ≤ N) (X : zSt) (B : Nat) (hX : qLR τ ad w X) (hO : zOK X B) (hB9 : B ≤ 1000) (x : Int32) : vx_Met l y_LR_build (qws y_LR_build c_LR_build 2 (some .int)) ({ frames := 8, cells := 5, slots := 30, locals := 150 }) (qPx D τ A ad N w [.ref (ad 0), .int x]) (va_Qi (fun r1 w1 => ∃ X9, zR_build X x.toInt 0 r1.toInt X9 ∧ qLR τ ad w1 X9 ∧ (∀ q, 469 ≤ q → w1 q = w q)) (qB D τ A ad N) A) (qXC D τ A ad N (fun E w1 => ((E = xIA ∧ zR_build X x.toInt 1 0 X) ∨ (E = xIS ∧ zR_build X x.toInt 2 0 X)) ∧ qLR τ ad w1 X ∧ (∀ q, 469 ≤ q → w1 q = w q))) 5 30 A := by
  refine qx_of (by decide) (Nat.le_of_ble_eq_true rfl) rfl ?_
  intro PP EE s MM below meth CC ls F hr hlk hout hl hW hst
  have hl : lv_has ls 2 [(0, .ref (ad 0)), (1, .int x)] := hl
  obtain ⟨⟨v0, hro, hvb⟩, hN, hSh, hSc, hPk, ⟨F1, hF1⟩, F2, hF2⟩ := id hX
  obtain ⟨hm1, hm40, hZ, hBt, hpk16, hpkb, hpk9, hsn⟩ := id hO
  obtain ⟨⟨n32, nho, -⟩, -⟩ := id hN
  obtain ⟨⟨p1, p2, hpo, -⟩, -⟩ := id hPk
  obtain ⟨hso, -⟩ := id hSh
  refine lv_iload_n F.1 F.2.1 d_LR_build_0 rfl (lv_at hl 1 rfl) ?_
  refine q_iconst F d_LR_build_1 (by decide) (fun v1 hv1 => ?_)
  refine q_icmp_lt (tgt := 11) F d_LR_build_2 (by decide) (fun c2 => ?_) (fun c2 => ?_)
  · exact qx_throw F hlt hW hst (cls := xIA) (ik := 41) (ic := 45) (by decide) xa_kIA xa_iIA (text := "bucket is not 1 .. 40") (is := 94) (by decide) (xa_gd xa_in45) xa_bad45 xa_ot45 hl.1 hout hlk (⟨Or.inl (⟨rfl, Or.inl ⟨rfl, rfl, by omega⟩⟩), hX, fun _ _ => rfl⟩) (Nat.le_of_ble_eq_true rfl) (Nat.le_of_ble_eq_true rfl) (Nat.le_of_ble_eq_true rfl) (Nat.le_of_ble_eq_true rfl) (Nat.le_of_ble_eq_true rfl) (Nat.le_of_ble_eq_true rfl) d_LR_build_11 d_LR_build_14 d_LR_build_15 d_LR_build_17 d_LR_build_20
  · refine lv_iload_n F.1 F.2.1 d_LR_build_5 rfl (lv_at hl 1 rfl) ?_
    refine q_bipush F d_LR_build_6 (by decide) (fun v2 hv2 => ?_)
    refine q_icmp_le (tgt := 21) F d_LR_build_8 (by decide) (fun c8 => ?_) (fun c8 => ?_)
    · obtain ⟨bk, hxbk⟩ : ∃ bk : Nat, x.toInt = (bk : Int) := ⟨x.toInt.toNat, by omega⟩
      refine lv_aload_n F.1 F.2.1 d_LR_build_21 rfl (lv_at hl 0 rfl) ?_
      refine gf_LR_10 F hW (by omega) hro d_LR_build_22 ?_
      refine q_iconst F d_LR_build_25 (by decide) (fun v3 hv3 => ?_)
      refine lv_aload_n F.1 F.2.1 d_LR_build_26 rfl (lv_at hl 0 rfl) ?_
      refine gf_LR_30 F hW (by omega) hro d_LR_build_27 ?_
      refine lv_aload_n F.1 F.2.1 d_LR_build_30 rfl (lv_at hl 0 rfl) ?_
      refine gf_LR_34 F hW (by omega) hro d_LR_build_31 ?_
      refine q_calli hW (q_cV (As := [.int v3, .ref (ad 467), .ref (ad 468)]) (rest := []) F hW cs_LR_96 hd_Ne_spread rfl (by omega) nho (k_Ne_spread l D τ A ad N w 1 (by omega) X.n X.bh X.wt hN 467 468 (by omega) (by omega) (by omega) (by omega) (by omega) F1 F2 hF1 hF2 X.n rfl hm40 X.Wt hZ v3 0 (by omega) (by omega)) rfl rfl ⟨by decide, by decide⟩ rfl hl.1 rfl (Nat.le_of_ble_eq_true rfl) d_LR_build_34 ⟨Nat.le_of_ble_eq_true rfl, Nat.le_of_ble_eq_true rfl⟩) (fun v4 w4 H4 locs4 hp4 hW4 => ?_)
      obtain ⟨⟨r1, Fa, O9, hr1, hr1m, hF1n, ⟨G1, hF2n, -⟩, hzl, hzo, hall1⟩, hfr4⟩ := hp4
      clear hF1 hF2
      replace hfr4 : ∀ q, (q ≠ 467 ∧ q ≠ 468) → w4 q = w q := fun q hq => hfr4 q hq.1 hq.2
      replace hro := (hfr4 _ (by omega)).trans hro
      replace hSh := hSh.keep (fun q h1 h2 => hfr4 _ (by omega))
      replace hPk := hPk.keep (fun q h1 h2 => hfr4 _ (by omega))
      replace hN := hN.keep (fun q h1 h2 => hfr4 _ (by omega))
      replace nho := (hfr4 _ (by omega)).trans nho
      replace hso := (hfr4 _ (by omega)).trans hso
      replace hpo := (hfr4 _ (by omega)).trans hpo
      have hal : zall X.n X.Wt ↔ r1 = X.n := by
        rw [zall_0 hZ.1 hm40 hm1, hall1]
        have e9 := fun b hb => zl_eq hZ.1 (show 0 < X.n by omega) hzl (b := b) hb
        constructor
        · intro h b hb; rw [e9 b hb, if_pos (h b hb)]; have := zd_bd hZ.1 (show 0 < X.n by omega) hb; omega
        · intro h b hb; have := h b hb; rw [e9 b hb] at this; by_cases z : zd X.n X.Wt 0 b < 1000000; exact z; rw [if_neg z] at this; exact absurd rfl this
      have hXn : qLR τ ad w4 X := ⟨⟨v0, hro, hvb⟩, hN, hSh, fun b => (hSc b).keep (fun q _ _ => hfr4 q (by omega)), hPk, ⟨_, hF1n⟩, _, hF2n⟩
      have hfa : ∀ q, 469 ≤ q → w4 q = w q := fun q hq => hfr4 q (by omega)
      refine lv_aload_n F.1 F.2.1 d_LR_build_37 rfl (lv_at hl 0 rfl) ?_
      refine gf_LR_10 F hW4 (by omega) hro d_LR_build_38 ?_
      refine q_calli hW4 (q_cV (As := []) (rest := [.int v4]) F hW4 cs_LR_100 hd_Ne_size rfl (by omega) nho (k_Ne_size l D τ A ad N w4 1 (by omega) X.n X.bh X.wt hN) rfl rfl ⟨by decide, by decide⟩ rfl hl.1 rfl (Nat.le_of_ble_eq_true rfl) d_LR_build_41 ⟨Nat.le_of_ble_eq_true rfl, Nat.le_of_ble_eq_true rfl⟩) (fun v5 w5 H5 locs5 hp5 hW5 => ?_)
      obtain ⟨hq5, hp5⟩ := hp5
      replace hq5 := hq5.symm
      subst hq5
      refine q_icmp_ge (tgt := 57) F d_LR_build_44 (by decide) (fun c44 => ?_) (fun c44 => ?_)
      · have hallY := hal.mpr (by omega)
        have hBt9 := zMK_Bt (bk := bk) hm1 hm40 hZ hallY (by omega)
        refine lv_aload_n F.1 F.2.1 d_LR_build_57 rfl (lv_at hl 0 rfl) ?_
        refine gf_LR_19 F hW5 (by omega) hro d_LR_build_58 ?_
        refine lv_aload_n F.1 F.2.1 d_LR_build_61 rfl (lv_at hl 0 rfl) ?_
        refine gf_LR_10 F hW5 (by omega) hro d_LR_build_62 ?_
        refine lv_iload_n F.1 F.2.1 d_LR_build_65 rfl (lv_at hl 1 rfl) ?_
        refine q_callv hW5 (q_cV (As := [.ref (ad 1), .int x]) (rest := []) F hW5 cs_LR_106 hd_Sc_rebuild rfl (by omega) hso (k_Sc_rebuild l D τ A ad N w4 hb hSh X.n hm1 hm40 X.n X.bh X.wt X.Wt hN rfl hZ hallY x bk hxbk (by omega)) rfl rfl ⟨by decide, by decide⟩ rfl hl.1 rfl (Nat.le_of_ble_eq_true rfl) d_LR_build_66 ⟨Nat.le_of_ble_eq_true rfl, Nat.le_of_ble_eq_true rfl⟩) (fun w6 H6 locs6 hp6 hW6 => ?_)
        obtain ⟨hSn, hfr6⟩ := hp6
        replace hro := (hfr6 _ (by omega)).trans hro
        replace hPk := hPk.keep (fun q h1 h2 => hfr6 _ (by omega))
        replace hN := hN.keep (fun q h1 h2 => hfr6 _ (by omega))
        replace nho := (hfr6 _ (by omega)).trans nho
        replace hF1n := hF1n.keep (hfr6 _ (by omega))
        replace hF2n := hF2n.keep (hfr6 _ (by omega))
        replace hpo := (hfr6 _ (by omega)).trans hpo
        replace hfa : ∀ q, 469 ≤ q → w6 q = w q := fun q hq => (hfr6 q (by omega)).trans (hfa q hq)
        refine lv_aload_n F.1 F.2.1 d_LR_build_69 rfl (lv_at hl 0 rfl) ?_
        refine gf_LR_26 F hW6 (by omega) hro d_LR_build_70 ?_
        refine q_callv hW6 (q_cV (As := []) (rest := []) F hW6 cs_LR_52 hd_Pa_clear rfl (by omega) hpo (k_Pa_clear l D τ A ad N w6 hb (X.sn % 16) X.pk X.P X.G X.U hPk) rfl rfl ⟨by decide, by decide⟩ rfl hl.1 rfl (Nat.le_of_ble_eq_true rfl) d_LR_build_73 ⟨Nat.le_of_ble_eq_true rfl, Nat.le_of_ble_eq_true rfl⟩) (fun w7 H7 locs7 hp7 hW7 => ?_)
        obtain ⟨hP9, hfr7⟩ := hp7
        replace hro := (hfr7 _ (by omega)).trans hro
        replace hN := hN.keep (fun q h1 h2 => hfr7 _ (by omega))
        replace hF1n := hF1n.keep (hfr7 _ (by omega))
        replace hF2n := hF2n.keep (hfr7 _ (by omega))
        replace hSn := hSn.keep (fun q h1 h2 => hfr7 _ (by omega))
        replace hfa : ∀ q, 469 ≤ q → w7 q = w q := fun q hq => (hfr7 q (by omega)).trans (hfa q hq)
        refine lv_aload_n F.1 F.2.1 d_LR_build_76 rfl (lv_at hl 0 rfl) ?_
        refine q_iconst F d_LR_build_77 (by decide) (fun v8 hv8 => ?_)
        refine pf_LR_37 F hW7 (Or.inr (q_eqI.mpr hv8)) (by omega) hro d_LR_build_78 (fun H9 locs9 w9 hW9 hI9 hfr9 => ?_)
        replace hro := hI9
        replace hN := hN.keep (fun q h1 h2 => hfr9 _ (by omega))
        replace hF1n := hF1n.keep (hfr9 _ (by omega))
        replace hF2n := hF2n.keep (hfr9 _ (by omega))
        replace hSn := hSn.keep (fun q h1 h2 => hfr9 _ (by omega))
        replace hP9 := hP9.keep (fun q h1 h2 => hfr9 _ (by omega))
        replace hfa : ∀ q, 469 ≤ q → w9 q = w q := fun q hq => (hfr9 q (by omega)).trans (hfa q hq)
        obtain ⟨hso9, -, -, ⟨S, Bl, Cl, Ow, IB, hL, hS40, hSm, -⟩, -⟩ := id hSn
        obtain ⟨lao, -⟩ := id hL
        refine lv_aload_n F.1 F.2.1 d_LR_build_81 rfl (lv_at hl 0 rfl) ?_
        refine gf_LR_19 F hW9 (by omega) hro d_LR_build_82 ?_
        refine gn_LR_110 F hW9 hst (by omega) hso9 d_LR_build_85 ?_
        refine q_calli hW9 (q_cV (As := []) (rest := []) F hW9 cs_LR_114 hd_La_howMany rfl (by omega) lao (k_La_howMany l D τ A ad N w9 hb S Bl Cl Ow IB hL hS40) rfl rfl ⟨by decide, by decide⟩ rfl hl.1 rfl (Nat.le_of_ble_eq_true rfl) d_LR_build_88 ⟨Nat.le_of_ble_eq_true rfl, Nat.le_of_ble_eq_true rfl⟩) (fun v10 w10 H10 locs10 hp10 hW10 => ?_)
        obtain ⟨hq10, hp10⟩ := hp10
        replace hq10 := hq10.symm
        subst hq10
        rw [zc_bits hSm (fun v h => zMK_lt h) hm40] at hp10
        exact qx_iret F hr hlk hW10 (⟨zs_build X bk, by rw [hxbk, hp10]; exact Or.inr ⟨by omega, Or.inr ⟨rfl, hallY, by simp only [Int.toNat_natCast], by simp only [Int.toNat_natCast]⟩⟩, ⟨⟨v8, hro, Or.inl ⟨trivial, q_eqI.mpr hv8⟩⟩, hN, hSn.sh, fun _ => hSn, hP9, ⟨_, hF1n⟩, _, hF2n⟩, hfa⟩) (Nat.le_of_ble_eq_true rfl) (Nat.le_of_ble_eq_true rfl) d_LR_build_91
      · exact qx_throw F hlt hW5 hst (cls := xIS) (ik := 67) (ic := 71) (by decide) xa_kIS xa_iIS (text := "not all nodes are joined") (is := 104) (by decide) (xa_gd xa_in71) xa_bad71 xa_ot71 hl.1 hout hlk (⟨Or.inr ⟨rfl, Or.inr ⟨by omega, Or.inl ⟨rfl, rfl, fun z => by have := hal.mp z; omega⟩⟩⟩, hXn, hfa⟩) (Nat.le_of_ble_eq_true rfl) (Nat.le_of_ble_eq_true rfl) (Nat.le_of_ble_eq_true rfl) (Nat.le_of_ble_eq_true rfl) (Nat.le_of_ble_eq_true rfl) (Nat.le_of_ble_eq_true rfl) d_LR_build_47 d_LR_build_50 d_LR_build_51 d_LR_build_53 d_LR_build_56
    · exact qx_throw F hlt hW hst (cls := xIA) (ik := 41) (ic := 45) (by decide) xa_kIA xa_iIA (text := "bucket is not 1 .. 40") (is := 94) (by decide) (xa_gd xa_in45) xa_bad45 xa_ot45 hl.1 hout hlk (⟨Or.inl (⟨rfl, Or.inl ⟨rfl, rfl, by omega⟩⟩), hX, fun _ _ => rfl⟩) (Nat.le_of_ble_eq_true rfl) (Nat.le_of_ble_eq_true rfl) (Nat.le_of_ble_eq_true rfl) (Nat.le_of_ble_eq_true rfl) (Nat.le_of_ble_eq_true rfl) (Nat.le_of_ble_eq_true rfl) d_LR_build_11 d_LR_build_14 d_LR_build_15 d_LR_build_17 d_LR_build_20
set_option maxHeartbeats 4000000 in
set_option maxRecDepth 100000 in
/-- landmark -/
theorem k_LR_landmark (l : Launch) (D : va_G) (τ : Nat → ClassId) (A : Nat → Prop) (ad : Nat → Nat) (N : Nat) (w : Nat → va_E) (hlt : l.stackTraces = false) (hb : 469 ≤ N) (X : zSt) (B : Nat) (hX : qLR τ ad w X) (hO : zOK X B) (hB9 : B ≤ 1000) (x : Int32) : vx_Met l y_LR_landmark (qws y_LR_landmark c_LR_landmark 2 (some .int)) ({ frames := 8, cells := 5, slots := 30, locals := 150 }) (qPx D τ A ad N w [.ref (ad 0), .int x]) (va_Qi (fun r1 w1 => ∃ X9, zR_landmark X x.toInt 0 r1.toInt X9 ∧ qLR τ ad w1 X9 ∧ (∀ q, 469 ≤ q → w1 q = w q)) (qB D τ A ad N) A) (qXC D τ A ad N (fun E w1 => ((E = xIS ∧ zR_landmark X x.toInt 1 0 X) ∨ (E = xIO ∧ zR_landmark X x.toInt 2 0 X)) ∧ qLR τ ad w1 X ∧ (∀ q, 469 ≤ q → w1 q = w q))) 5 30 A := by
  refine qx_of (by decide) (Nat.le_of_ble_eq_true rfl) rfl ?_
  intro PP EE s MM below meth CC ls F hr hlk hout hl hW hst
  have hl : lv_has ls 2 [(0, .ref (ad 0)), (1, .int x)] := hl
  obtain ⟨⟨v0, hro, hvb⟩, hN, hSh, hSc, hPk, ⟨F1, hF1⟩, F2, hF2⟩ := id hX
  obtain ⟨hm1, hm40, hZ, hBt, hpk16, hpkb, hpk9, hsn⟩ := id hO
  obtain ⟨⟨n32, nho, -⟩, -⟩ := id hN
  obtain ⟨⟨p1, p2, hpo, -⟩, -⟩ := id hPk
  obtain ⟨hso, -⟩ := id hSh
  refine lv_aload_n F.1 F.2.1 d_LR_landmark_0 rfl (lv_at hl 0 rfl) ?_
  refine qx_callv hW (qx_cV (As := []) (rest := []) F hW hst cs_LR_119 hd_LR_needBuilt rfl (by omega) hro (k_LR_needBuilt l D τ A ad N w hlt hb v0 hro X.bt hvb) rfl rfl ⟨by decide, by decide⟩ rfl hl.1 rfl (Nat.le_of_ble_eq_true rfl) d_LR_landmark_1 ⟨Nat.le_of_ble_eq_true rfl, Nat.le_of_ble_eq_true rfl⟩) (fun E9 ce9 q9 wx Hx locsx hpx hWx h1x h2x h3x => qx_out hWx hout hlk h1x h2x h3x (by obtain ⟨e1, e2, e3⟩ := hpx; subst e2; subst e1; exact ⟨Or.inl (⟨rfl, ⟨rfl, Or.inl ⟨rfl, e3⟩⟩⟩), hX, fun _ _ => rfl⟩) (Nat.le_of_ble_eq_true rfl) (Nat.le_of_ble_eq_true rfl)) (fun w1 H1 locs1 hp1 hW1 => ?_)
  obtain ⟨hq1, hp1⟩ := hp1
  replace hq1 := hq1.symm
  subst hq1
  have hbt : X.bt := hp1
  have hS := hSc hbt
  have hB := hBt hbt
  obtain ⟨so, hNo, ⟨od, hY⟩, ⟨S, Bl, Cl, Ow, IB, hL, hS40, hSm, hOw, hCl⟩, ⟨Pl, Sz, Hv, Lt, Pa, hF, hTr⟩, Lb, hG, hLb⟩ := id hS
  obtain ⟨-, -, hZo, hallo, hmk1, hmk2⟩ := id hB
  obtain ⟨fo, -⟩ := id hF
  obtain ⟨lao, -⟩ := id hL
  have hcn : zc (fun i => S.testBit i = true) 40 = zc X.mk X.n := zc_bits hSm hmk1 hm40
  refine lv_aload_n F.1 F.2.1 d_LR_landmark_4 rfl (lv_at hl 0 rfl) ?_
  refine lv_iload_n F.1 F.2.1 d_LR_landmark_5 rfl (lv_at hl 1 rfl) ?_
  refine lv_aload_n F.1 F.2.1 d_LR_landmark_6 rfl (lv_at hl 0 rfl) ?_
  refine gf_LR_19 F hW1 (by omega) hro d_LR_landmark_7 ?_
  refine gn_LR_110 F hW1 hst (by omega) so d_LR_landmark_10 ?_
  refine q_calli hW1 (q_cV (As := []) (rest := [.int x, .ref (ad 0)]) F hW1 cs_LR_114 hd_La_howMany rfl (by omega) lao (k_La_howMany l D τ A ad N w hb S Bl Cl Ow IB hL hS40) rfl rfl ⟨by decide, by decide⟩ rfl hl.1 rfl (Nat.le_of_ble_eq_true rfl) d_LR_landmark_13 ⟨Nat.le_of_ble_eq_true rfl, Nat.le_of_ble_eq_true rfl⟩) (fun v2 w2 H2 locs2 hp2 hW2 => ?_)
  obtain ⟨hq2, hp2⟩ := hp2
  replace hq2 := hq2.symm
  subst hq2
  rw [hcn] at hp2
  refine qx_callv hW2 (qx_cV (As := [.int x, .int v2]) (rest := []) F hW2 hst cs_LR_88 hd_LR_needBelow rfl (by omega) hro (k_LR_needBelow l D τ A ad N w hlt x v2) rfl rfl ⟨by decide, by decide⟩ rfl hl.1 rfl (Nat.le_of_ble_eq_true rfl) d_LR_landmark_16 ⟨Nat.le_of_ble_eq_true rfl, Nat.le_of_ble_eq_true rfl⟩) (fun E9 ce9 q9 wx Hx locsx hpx hWx h1x h2x h3x => qx_out hWx hout hlk h1x h2x h3x (by obtain ⟨e1, e2, e3⟩ := hpx; subst e2; subst e1; exact ⟨Or.inr (⟨rfl, ⟨rfl, Or.inr ⟨hbt, Or.inl ⟨rfl, by rw [← hp2]; exact e3⟩⟩⟩⟩), hX, fun _ _ => rfl⟩) (Nat.le_of_ble_eq_true rfl) (Nat.le_of_ble_eq_true rfl)) (fun w3 H3 locs3 hp3 hW3 => ?_)
  obtain ⟨hq3, hp3⟩ := hp3
  replace hq3 := hq3.symm
  subst hq3
  refine lv_aload_n F.1 F.2.1 d_LR_landmark_19 rfl (lv_at hl 0 rfl) ?_
  refine gf_LR_19 F hW3 (by omega) hro d_LR_landmark_20 ?_
  refine gn_LR_110 F hW3 hst (by omega) so d_LR_landmark_23 ?_
  refine lv_iload_n F.1 F.2.1 d_LR_landmark_26 rfl (lv_at hl 1 rfl) ?_
  refine q_calli hW3 (q_cV (As := [.int x]) (rest := []) F hW3 cs_LR_122 hd_La_at rfl (by omega) lao (k_La_at l D τ A ad N w hb S Bl Cl Ow IB hL hS40 X.n hm40 X.n X.bo X.wo hNo rfl x) rfl rfl ⟨by decide, by decide⟩ rfl hl.1 rfl (Nat.le_of_ble_eq_true rfl) d_LR_landmark_27 ⟨Nat.le_of_ble_eq_true rfl, Nat.le_of_ble_eq_true rfl⟩) (fun v4 w4 H4 locs4 hp4 hW4 => ?_)
  obtain ⟨hq4, hp4⟩ := hp4
  replace hq4 := hq4.symm
  subst hq4
  have hz9 : v4.toInt = zf (fun v => X.mk v ∧ (zc X.mk v : Int) = x.toInt) X.n := by rw [hp4]; exact zf_congr (fun v _ => by rw [hSm v, zc_congr (fun u _ => hSm u)])
  exact qx_iret F hr hlk hW4 (⟨X, ⟨rfl, Or.inr ⟨hbt, Or.inr ⟨rfl, by rw [← hp2]; exact hp3, hz9⟩⟩⟩, hX, fun _ _ => rfl⟩) (Nat.le_of_ble_eq_true rfl) (Nat.le_of_ble_eq_true rfl) d_LR_landmark_30
set_option maxHeartbeats 4000000 in
set_option maxRecDepth 100000 in
/-- table -/
theorem k_LR_table (l : Launch) (D : va_G) (τ : Nat → ClassId) (A : Nat → Prop) (ad : Nat → Nat) (N : Nat) (w : Nat → va_E) (hlt : l.stackTraces = false) (hb : 469 ≤ N) (X : zSt) (B : Nat) (hX : qLR τ ad w X) (hO : zOK X B) (hB9 : B ≤ 1000) (x y : Int32) : vx_Met l y_LR_table (qws y_LR_table c_LR_table 4 (some .int)) ({ frames := 8, cells := 5, slots := 30, locals := 150 }) (qPx D τ A ad N w [.ref (ad 0), .int x, .int y]) (va_Qi (fun r1 w1 => ∃ X9, zR_table X x.toInt y.toInt 0 r1.toInt X9 ∧ qLR τ ad w1 X9 ∧ (∀ q, 469 ≤ q → w1 q = w q)) (qB D τ A ad N) A) (qXC D τ A ad N (fun E w1 => ((E = xIS ∧ zR_table X x.toInt y.toInt 1 0 X) ∨ (E = xIO ∧ zR_table X x.toInt y.toInt 2 0 X)) ∧ qLR τ ad w1 X ∧ (∀ q, 469 ≤ q → w1 q = w q))) 5 30 A := by
  refine qx_of (by decide) (Nat.le_of_ble_eq_true rfl) rfl ?_
  intro PP EE s MM below meth CC ls F hr hlk hout hl hW hst
  have hl : lv_has ls 4 [(0, .ref (ad 0)), (1, .int x), (2, .int y)] := hl
  obtain ⟨⟨v0, hro, hvb⟩, hN, hSh, hSc, hPk, ⟨F1, hF1⟩, F2, hF2⟩ := id hX
  obtain ⟨hm1, hm40, hZ, hBt, hpk16, hpkb, hpk9, hsn⟩ := id hO
  obtain ⟨⟨n32, nho, -⟩, -⟩ := id hN
  obtain ⟨⟨p1, p2, hpo, -⟩, -⟩ := id hPk
  obtain ⟨hso, -⟩ := id hSh
  refine lv_aload_n F.1 F.2.1 d_LR_table_0 rfl (lv_at hl 0 rfl) ?_
  refine qx_callv hW (qx_cV (As := []) (rest := []) F hW hst cs_LR_119 hd_LR_needBuilt rfl (by omega) hro (k_LR_needBuilt l D τ A ad N w hlt hb v0 hro X.bt hvb) rfl rfl ⟨by decide, by decide⟩ rfl hl.1 rfl (Nat.le_of_ble_eq_true rfl) d_LR_table_1 ⟨Nat.le_of_ble_eq_true rfl, Nat.le_of_ble_eq_true rfl⟩) (fun E9 ce9 q9 wx Hx locsx hpx hWx h1x h2x h3x => qx_out hWx hout hlk h1x h2x h3x (by obtain ⟨e1, e2, e3⟩ := hpx; subst e2; subst e1; exact ⟨Or.inl (⟨rfl, ⟨rfl, Or.inl ⟨rfl, e3⟩⟩⟩), hX, fun _ _ => rfl⟩) (Nat.le_of_ble_eq_true rfl) (Nat.le_of_ble_eq_true rfl)) (fun w1 H1 locs1 hp1 hW1 => ?_)
  obtain ⟨hq1, hp1⟩ := hp1
  replace hq1 := hq1.symm
  subst hq1
  have hbt : X.bt := hp1
  have hS := hSc hbt
  have hB := hBt hbt
  obtain ⟨so, hNo, ⟨od, hY⟩, ⟨S, Bl, Cl, Ow, IB, hL, hS40, hSm, hOw, hCl⟩, ⟨Pl, Sz, Hv, Lt, Pa, hF, hTr⟩, Lb, hG, hLb⟩ := id hS
  obtain ⟨-, -, hZo, hallo, hmk1, hmk2⟩ := id hB
  obtain ⟨fo, -⟩ := id hF
  obtain ⟨lao, -⟩ := id hL
  have hcn : zc (fun i => S.testBit i = true) 40 = zc X.mk X.n := zc_bits hSm hmk1 hm40
  refine lv_aload_n F.1 F.2.1 d_LR_table_4 rfl (lv_at hl 0 rfl) ?_
  refine lv_iload_n F.1 F.2.1 d_LR_table_5 rfl (lv_at hl 1 rfl) ?_
  refine qx_callv hW1 (qx_cV (As := [.int x]) (rest := []) F hW1 hst cs_LR_54 hd_LR_needNode rfl (by omega) hro (k_LR_needNode l D τ A ad N w hlt hb v0 hro X.n X.bh X.wt hN x) rfl rfl ⟨by decide, by decide⟩ rfl hl.1 rfl (Nat.le_of_ble_eq_true rfl) d_LR_table_6 ⟨Nat.le_of_ble_eq_true rfl, Nat.le_of_ble_eq_true rfl⟩) (fun E9 ce9 q9 wx Hx locsx hpx hWx h1x h2x h3x => qx_out hWx hout hlk h1x h2x h3x (by obtain ⟨e1, e2, e3⟩ := hpx; subst e2; subst e1; exact ⟨Or.inr (⟨rfl, ⟨rfl, Or.inr ⟨hbt, Or.inl ⟨rfl, fun q => e3 q.1⟩⟩⟩⟩), hX, fun _ _ => rfl⟩) (Nat.le_of_ble_eq_true rfl) (Nat.le_of_ble_eq_true rfl)) (fun w2 H2 locs2 hp2 hW2 => ?_)
  obtain ⟨hq2, hp2⟩ := hp2
  replace hq2 := hq2.symm
  subst hq2
  refine lv_aload_n F.1 F.2.1 d_LR_table_9 rfl (lv_at hl 0 rfl) ?_
  refine lv_iload_n F.1 F.2.1 d_LR_table_10 rfl (lv_at hl 2 rfl) ?_
  refine q_iconst F d_LR_table_11 (by decide) (fun v3 hv3 => ?_)
  refine qx_callv hW2 (qx_cV (As := [.int y, .int v3]) (rest := []) F hW2 hst cs_LR_88 hd_LR_needBelow rfl (by omega) hro (k_LR_needBelow l D τ A ad N w hlt y v3) rfl rfl ⟨by decide, by decide⟩ rfl hl.1 rfl (Nat.le_of_ble_eq_true rfl) d_LR_table_12 ⟨Nat.le_of_ble_eq_true rfl, Nat.le_of_ble_eq_true rfl⟩) (fun E9 ce9 q9 wx Hx locsx hpx hWx h1x h2x h3x => qx_out hWx hout hlk h1x h2x h3x (by obtain ⟨e1, e2, e3⟩ := hpx; subst e2; subst e1; exact ⟨Or.inr (⟨rfl, ⟨rfl, Or.inr ⟨hbt, Or.inl ⟨rfl, fun q => e3 (by omega)⟩⟩⟩⟩), hX, fun _ _ => rfl⟩) (Nat.le_of_ble_eq_true rfl) (Nat.le_of_ble_eq_true rfl)) (fun w4 H4 locs4 hp4 hW4 => ?_)
  obtain ⟨hq4, hp4⟩ := hp4
  replace hq4 := hq4.symm
  subst hq4
  obtain ⟨a, hxa⟩ : ∃ a : Nat, x.toInt = (a : Int) := ⟨x.toInt.toNat, by omega⟩
  have hcl9 : zc (fun i => (Cl a).testBit i = true) 40 = zcw X.n (zd X.n X.Wo) X.mk a := zc_clus ((hCl a (by omega)).2) hm40
  refine lv_aload_n F.1 F.2.1 d_LR_table_15 rfl (lv_at hl 0 rfl) ?_
  refine gf_LR_19 F hW4 (by omega) hro d_LR_table_16 ?_
  refine gn_LR_110 F hW4 hst (by omega) so d_LR_table_19 ?_
  refine lv_astore_n (lv' := [(3, .ref (ad 251)), (0, .ref (ad 0)), (1, .int x), (2, .int y)]) F.1 F.2.1 d_LR_table_22 rfl hl (by decide) rfl (fun ls5 hl5 => ?_)
  clear hl
  refine lv_iload_n F.1 F.2.1 d_LR_table_23 rfl (lv_at hl5 3 rfl) ?_
  have hy9 : y.toInt = 0 ∨ y.toInt = 1 ∨ y.toInt = 2 := by omega
  rcases hy9 with hy9 | hy9 | hy9
  · refine lv_lookup (tgt := 52) F.1 F.2.1 d_LR_table_24 (by decide) (by rw [hy9]) (by decide) ?_
    refine lv_aload_n F.1 F.2.1 d_LR_table_52 rfl (lv_at hl5 0 rfl) ?_
    refine q_calli hW4 (q_cV (As := []) (rest := []) F hW4 cs_LR_114 hd_La_howMany rfl (by omega) lao (k_La_howMany l D τ A ad N w hb S Bl Cl Ow IB hL hS40) rfl rfl ⟨by decide, by decide⟩ rfl hl5.1 rfl (Nat.le_of_ble_eq_true rfl) d_LR_table_53 ⟨Nat.le_of_ble_eq_true rfl, Nat.le_of_ble_eq_true rfl⟩) (fun v6 w6 H6 locs6 hp6 hW6 => ?_)
    obtain ⟨hq6, hp6⟩ := hp6
    replace hq6 := hq6.symm
    subst hq6
    rw [hcn] at hp6
    refine lv_aload_n F.1 F.2.1 d_LR_table_56 rfl (lv_at hl5 0 rfl) ?_
    refine lv_iload_n F.1 F.2.1 d_LR_table_57 rfl (lv_at hl5 2 rfl) ?_
    refine q_calli hW6 (q_cV (As := [.int x]) (rest := [.int v6]) F hW6 cs_LR_125 hd_La_clusterSize rfl (by omega) lao (k_La_clusterSize l D τ A ad N w hb S Bl Cl Ow IB hL x a hxa (by omega) (hCl a (by omega)).1) rfl rfl ⟨by decide, by decide⟩ rfl hl5.1 rfl (Nat.le_of_ble_eq_true rfl) d_LR_table_58 ⟨Nat.le_of_ble_eq_true rfl, Nat.le_of_ble_eq_true rfl⟩) (fun v7 w7 H7 locs7 hp7 hW7 => ?_)
    obtain ⟨hq7, hp7⟩ := hp7
    replace hq7 := hq7.symm
    subst hq7
    rw [hcl9] at hp7
    have hc1 := zc_le X.mk X.n
    have hc2 := zc_le (fun c => znr X.n (zd X.n X.Wo) X.mk a c) X.n
    have hc3 : zcw X.n (zd X.n X.Wo) X.mk a ≤ X.n := hc2
    refine q_iadd F d_LR_table_61 (by omega) (fun v8 hv8 => ?_)
    exact qx_iret F hr hlk hW7 (⟨X, ⟨rfl, Or.inr ⟨hbt, Or.inr ⟨rfl, ⟨hp2, by omega⟩, Or.inl ⟨hy9, by rw [hxa]; simp only [Int.toNat_natCast]; omega⟩⟩⟩⟩, hX, fun _ _ => rfl⟩) (Nat.le_of_ble_eq_true rfl) (Nat.le_of_ble_eq_true rfl) d_LR_table_62
  · refine lv_lookup (tgt := 63) F.1 F.2.1 d_LR_table_24 (by decide) (by rw [hy9]) (by decide) ?_
    refine lv_aload_n F.1 F.2.1 d_LR_table_63 rfl (lv_at hl5 0 rfl) ?_
    refine lv_iload_n F.1 F.2.1 d_LR_table_64 rfl (lv_at hl5 2 rfl) ?_
    refine q_calli hW4 (q_cV (As := [.int x]) (rest := []) F hW4 cs_LR_125 hd_La_clusterSize rfl (by omega) lao (k_La_clusterSize l D τ A ad N w hb S Bl Cl Ow IB hL x a hxa (by omega) (hCl a (by omega)).1) rfl rfl ⟨by decide, by decide⟩ rfl hl5.1 rfl (Nat.le_of_ble_eq_true rfl) d_LR_table_65 ⟨Nat.le_of_ble_eq_true rfl, Nat.le_of_ble_eq_true rfl⟩) (fun v9 w9 H9 locs9 hp9 hW9 => ?_)
    obtain ⟨hq9, hp9⟩ := hp9
    replace hq9 := hq9.symm
    subst hq9
    rw [hcl9] at hp9
    exact qx_iret F hr hlk hW9 (⟨X, ⟨rfl, Or.inr ⟨hbt, Or.inr ⟨rfl, ⟨hp2, by omega⟩, Or.inr (Or.inl ⟨hy9, by rw [hxa]; simp only [Int.toNat_natCast]; exact hp9⟩)⟩⟩⟩, hX, fun _ _ => rfl⟩) (Nat.le_of_ble_eq_true rfl) (Nat.le_of_ble_eq_true rfl) d_LR_table_68
  · refine lv_lookup (tgt := 69) F.1 F.2.1 d_LR_table_24 (by decide) (by rw [hy9]) (by decide) ?_
    refine lv_aload_n F.1 F.2.1 d_LR_table_69 rfl (lv_at hl5 0 rfl) ?_
    refine lv_iload_n F.1 F.2.1 d_LR_table_70 rfl (lv_at hl5 2 rfl) ?_
    refine q_calli hW4 (q_cV (As := [.int x]) (rest := []) F hW4 cs_LR_128 hd_La_ownOf rfl (by omega) lao (k_La_ownOf l D τ A ad N w hb S Bl Cl Ow IB hL x a hxa (by omega)) rfl rfl ⟨by decide, by decide⟩ rfl hl5.1 rfl (Nat.le_of_ble_eq_true rfl) d_LR_table_71 ⟨Nat.le_of_ble_eq_true rfl, Nat.le_of_ble_eq_true rfl⟩) (fun v10 w10 H10 locs10 hp10 hW10 => ?_)
    obtain ⟨hq10, hp10⟩ := hp10
    replace hq10 := hq10.symm
    subst hq10
    exact qx_iret F hr hlk hW10 (⟨X, ⟨rfl, Or.inr ⟨hbt, Or.inr ⟨rfl, ⟨hp2, by omega⟩, Or.inr (Or.inr ⟨hy9, by rw [hxa]; simp only [Int.toNat_natCast]; rw [← hOw a (by omega)]; exact hp10⟩)⟩⟩⟩, hX, fun _ _ => rfl⟩) (Nat.le_of_ble_eq_true rfl) (Nat.le_of_ble_eq_true rfl) d_LR_table_74
set_option maxHeartbeats 4000000 in
set_option maxRecDepth 100000 in
/-- row -/
theorem k_LR_row (l : Launch) (D : va_G) (τ : Nat → ClassId) (A : Nat → Prop) (ad : Nat → Nat) (N : Nat) (w : Nat → va_E) (hlt : l.stackTraces = false) (hb : 469 ≤ N) (X : zSt) (B : Nat) (hX : qLR τ ad w X) (hO : zOK X B) (hB9 : B ≤ 1000) (x y : Int32) : vx_Met l y_LR_row (qws y_LR_row c_LR_row 3 (some .int)) ({ frames := 8, cells := 5, slots := 30, locals := 150 }) (qPx D τ A ad N w [.ref (ad 0), .int x, .int y]) (va_Qi (fun r1 w1 => ∃ X9, zR_row X x.toInt y.toInt 0 r1.toInt X9 ∧ qLR τ ad w1 X9 ∧ (∀ q, 469 ≤ q → w1 q = w q)) (qB D τ A ad N) A) (qXC D τ A ad N (fun E w1 => ((E = xIS ∧ zR_row X x.toInt y.toInt 1 0 X) ∨ (E = xIO ∧ zR_row X x.toInt y.toInt 2 0 X) ∨ (E = xIA ∧ zR_row X x.toInt y.toInt 3 0 X)) ∧ qLR τ ad w1 X ∧ (∀ q, 469 ≤ q → w1 q = w q))) 5 30 A := by
  refine qx_of (by decide) (Nat.le_of_ble_eq_true rfl) rfl ?_
  intro PP EE s MM below meth CC ls F hr hlk hout hl hW hst
  have hl : lv_has ls 3 [(0, .ref (ad 0)), (1, .int x), (2, .int y)] := hl
  obtain ⟨⟨v0, hro, hvb⟩, hN, hSh, hSc, hPk, ⟨F1, hF1⟩, F2, hF2⟩ := id hX
  obtain ⟨hm1, hm40, hZ, hBt, hpk16, hpkb, hpk9, hsn⟩ := id hO
  obtain ⟨⟨n32, nho, -⟩, -⟩ := id hN
  obtain ⟨⟨p1, p2, hpo, -⟩, -⟩ := id hPk
  obtain ⟨hso, -⟩ := id hSh
  refine lv_aload_n F.1 F.2.1 d_LR_row_0 rfl (lv_at hl 0 rfl) ?_
  refine qx_callv hW (qx_cV (As := []) (rest := []) F hW hst cs_LR_119 hd_LR_needBuilt rfl (by omega) hro (k_LR_needBuilt l D τ A ad N w hlt hb v0 hro X.bt hvb) rfl rfl ⟨by decide, by decide⟩ rfl hl.1 rfl (Nat.le_of_ble_eq_true rfl) d_LR_row_1 ⟨Nat.le_of_ble_eq_true rfl, Nat.le_of_ble_eq_true rfl⟩) (fun E9 ce9 q9 wx Hx locsx hpx hWx h1x h2x h3x => qx_out hWx hout hlk h1x h2x h3x (by obtain ⟨e1, e2, e3⟩ := hpx; subst e2; subst e1; exact ⟨Or.inl (⟨rfl, ⟨rfl, Or.inl ⟨rfl, e3⟩⟩⟩), hX, fun _ _ => rfl⟩) (Nat.le_of_ble_eq_true rfl) (Nat.le_of_ble_eq_true rfl)) (fun w1 H1 locs1 hp1 hW1 => ?_)
  obtain ⟨hq1, hp1⟩ := hp1
  replace hq1 := hq1.symm
  subst hq1
  have hbt : X.bt := hp1
  have hS := hSc hbt
  have hB := hBt hbt
  obtain ⟨so, hNo, ⟨od, hY⟩, ⟨S, Bl, Cl, Ow, IB, hL, hS40, hSm, hOw, hCl⟩, ⟨Pl, Sz, Hv, Lt, Pa, hF, hTr⟩, Lb, hG, hLb⟩ := id hS
  obtain ⟨-, -, hZo, hallo, hmk1, hmk2⟩ := id hB
  obtain ⟨fo, -⟩ := id hF
  obtain ⟨lao, -⟩ := id hL
  have hcn : zc (fun i => S.testBit i = true) 40 = zc X.mk X.n := zc_bits hSm hmk1 hm40
  refine lv_aload_n F.1 F.2.1 d_LR_row_4 rfl (lv_at hl 0 rfl) ?_
  refine lv_iload_n F.1 F.2.1 d_LR_row_5 rfl (lv_at hl 1 rfl) ?_
  refine qx_callv hW1 (qx_cV (As := [.int x]) (rest := []) F hW1 hst cs_LR_54 hd_LR_needNode rfl (by omega) hro (k_LR_needNode l D τ A ad N w hlt hb v0 hro X.n X.bh X.wt hN x) rfl rfl ⟨by decide, by decide⟩ rfl hl.1 rfl (Nat.le_of_ble_eq_true rfl) d_LR_row_6 ⟨Nat.le_of_ble_eq_true rfl, Nat.le_of_ble_eq_true rfl⟩) (fun E9 ce9 q9 wx Hx locsx hpx hWx h1x h2x h3x => qx_out hWx hout hlk h1x h2x h3x (by obtain ⟨e1, e2, e3⟩ := hpx; subst e2; subst e1; exact ⟨Or.inr (Or.inl (⟨rfl, ⟨rfl, Or.inr ⟨hbt, Or.inl ⟨rfl, fun q => e3 q.1⟩⟩⟩⟩)), hX, fun _ _ => rfl⟩) (Nat.le_of_ble_eq_true rfl) (Nat.le_of_ble_eq_true rfl)) (fun w2 H2 locs2 hp2 hW2 => ?_)
  obtain ⟨hq2, hp2⟩ := hp2
  replace hq2 := hq2.symm
  subst hq2
  refine lv_aload_n F.1 F.2.1 d_LR_row_9 rfl (lv_at hl 0 rfl) ?_
  refine lv_iload_n F.1 F.2.1 d_LR_row_10 rfl (lv_at hl 2 rfl) ?_
  refine qx_callv hW2 (qx_cV (As := [.int y]) (rest := []) F hW2 hst cs_LR_54 hd_LR_needNode rfl (by omega) hro (k_LR_needNode l D τ A ad N w hlt hb v0 hro X.n X.bh X.wt hN y) rfl rfl ⟨by decide, by decide⟩ rfl hl.1 rfl (Nat.le_of_ble_eq_true rfl) d_LR_row_11 ⟨Nat.le_of_ble_eq_true rfl, Nat.le_of_ble_eq_true rfl⟩) (fun E9 ce9 q9 wx Hx locsx hpx hWx h1x h2x h3x => qx_out hWx hout hlk h1x h2x h3x (by obtain ⟨e1, e2, e3⟩ := hpx; subst e2; subst e1; exact ⟨Or.inr (Or.inl (⟨rfl, ⟨rfl, Or.inr ⟨hbt, Or.inl ⟨rfl, fun q => e3 q.2⟩⟩⟩⟩)), hX, fun _ _ => rfl⟩) (Nat.le_of_ble_eq_true rfl) (Nat.le_of_ble_eq_true rfl)) (fun w3 H3 locs3 hp3 hW3 => ?_)
  obtain ⟨hq3, hp3⟩ := hp3
  replace hq3 := hq3.symm
  subst hq3
  obtain ⟨a, hxa⟩ : ∃ a : Nat, x.toInt = (a : Int) := ⟨x.toInt.toNat, by omega⟩
  obtain ⟨c, hxc⟩ : ∃ c : Nat, y.toInt = (c : Int) := ⟨y.toInt.toNat, by omega⟩
  refine lv_aload_n F.1 F.2.1 d_LR_row_14 rfl (lv_at hl 0 rfl) ?_
  refine gf_LR_19 F hW3 (by omega) hro d_LR_row_15 ?_
  refine gn_LR_110 F hW3 hst (by omega) so d_LR_row_18 ?_
  refine lv_iload_n F.1 F.2.1 d_LR_row_21 rfl (lv_at hl 1 rfl) ?_
  refine lv_iload_n F.1 F.2.1 d_LR_row_22 rfl (lv_at hl 2 rfl) ?_
  refine q_calli hW3 (q_cV (As := [.int x, .int y]) (rest := []) F hW3 cs_LR_131 hd_La_hasRow rfl (by omega) lao (k_La_hasRow l D τ A ad N w hb S Bl Cl Ow IB hL hS40 x y a c hxa hxc (by omega) (by omega) (hCl a (by omega)).1) rfl rfl ⟨by decide, by decide⟩ rfl hl.1 rfl (Nat.le_of_ble_eq_true rfl) d_LR_row_23 ⟨Nat.le_of_ble_eq_true rfl, Nat.le_of_ble_eq_true rfl⟩) (fun v4 w4 H4 locs4 hp4 hW4 => ?_)
  obtain ⟨hq4, hp4⟩ := hp4
  replace hq4 := hq4.symm
  subst hq4
  have hiff : (S.testBit c = true ∨ (Cl a).testBit c = true) ↔ (X.mk c ∨ znr X.n (zd X.n X.Wo) X.mk a c) := by rw [hSm c, (hCl a (by omega)).2 c]; exact ⟨fun z => z.elim Or.inl (fun q => Or.inr q.2), fun z => z.elim Or.inl (fun q => Or.inr ⟨by omega, q⟩)⟩
  refine q_if_ne (tgt := 39) F d_LR_row_26 (by decide) (fun c26 => ?_) (fun c26 => ?_)
  · have hyes := hiff.mp (qb_t hp4 (by omega))
    refine lv_aload_n F.1 F.2.1 d_LR_row_39 rfl (lv_at hl 0 rfl) ?_
    refine gf_LR_19 F hW4 (by omega) hro d_LR_row_40 ?_
    refine lv_iload_n F.1 F.2.1 d_LR_row_43 rfl (lv_at hl 1 rfl) ?_
    refine lv_iload_n F.1 F.2.1 d_LR_row_44 rfl (lv_at hl 2 rfl) ?_
    refine q_calli hW4 (q_cV (As := [.int x, .int y]) (rest := []) F hW4 cs_LR_137 hd_Sc_rowPort rfl (by omega) so (k_Sc_rowPort l D τ A ad N w hb so X.n hm40 X.n X.bo X.wo hNo rfl X.Wo od hY hZo x y a c hxa hxc (by omega) (by omega)) rfl rfl ⟨by decide, by decide⟩ rfl hl.1 rfl (Nat.le_of_ble_eq_true rfl) d_LR_row_45 ⟨Nat.le_of_ble_eq_true rfl, Nat.le_of_ble_eq_true rfl⟩) (fun v5 w5 H5 locs5 hp5 hW5 => ?_)
    obtain ⟨hq5, hp5⟩ := hp5
    replace hq5 := hq5.symm
    subst hq5
    have h9 : (x.toInt = y.toInt ∧ v5.toInt = -1) ∨ (x.toInt ≠ y.toInt ∧ v5.toInt = zp X.bo a (ztw X.n X.Wo (zd X.n X.Wo) a c)) := by
      by_cases e : a = c
      · have h8 := ztw_self hZo.1 (show a < X.n by omega)
        rw [← e] at hp5
        rcases hp5 with ⟨-, z2⟩ | ⟨z1, -⟩
        · exact Or.inl ⟨by omega, z2⟩
        · exact absurd h8 z1
      · obtain ⟨c9, -, h8, -⟩ := ztw_some hZo.1 hallo (show a < X.n by omega) (show c < X.n by omega) e
        rcases hp5 with ⟨z1, -⟩ | ⟨-, z2⟩
        · omega
        · exact Or.inr ⟨by omega, z2⟩
    exact qx_iret F hr hlk hW5 (⟨X, ⟨rfl, Or.inr ⟨hbt, Or.inr ⟨⟨hp2, hp3⟩, Or.inr ⟨rfl, by rw [hxa, hxc]; simp only [Int.toNat_natCast]; exact hyes, by rw [hxa, hxc] at h9 ⊢; simp only [Int.toNat_natCast]; exact h9⟩⟩⟩⟩, hX, fun _ _ => rfl⟩) (Nat.le_of_ble_eq_true rfl) (Nat.le_of_ble_eq_true rfl) d_LR_row_48
  · exact qx_throw F hlt hW4 hst (cls := xIA) (ik := 41) (ic := 45) (by decide) xa_kIA xa_iIA (text := "there is no such row") (is := 135) (by decide) (xa_gd xa_in45) xa_bad45 xa_ot45 hl.1 hout hlk (⟨Or.inr (Or.inr (⟨rfl, ⟨rfl, Or.inr ⟨hbt, Or.inr ⟨⟨hp2, hp3⟩, Or.inl ⟨rfl, by rw [hxa, hxc]; simp only [Int.toNat_natCast]; exact fun z => qb_f hp4 (by omega) (hiff.mpr z)⟩⟩⟩⟩⟩)), hX, fun _ _ => rfl⟩) (Nat.le_of_ble_eq_true rfl) (Nat.le_of_ble_eq_true rfl) (Nat.le_of_ble_eq_true rfl) (Nat.le_of_ble_eq_true rfl) (Nat.le_of_ble_eq_true rfl) (Nat.le_of_ble_eq_true rfl) d_LR_row_29 d_LR_row_32 d_LR_row_33 d_LR_row_35 d_LR_row_38
set_option maxHeartbeats 4000000 in
set_option maxRecDepth 100000 in
/-- label -/
theorem k_LR_label (l : Launch) (D : va_G) (τ : Nat → ClassId) (A : Nat → Prop) (ad : Nat → Nat) (N : Nat) (w : Nat → va_E) (hlt : l.stackTraces = false) (hb : 469 ≤ N) (X : zSt) (B : Nat) (hX : qLR τ ad w X) (hO : zOK X B) (hB9 : B ≤ 1000) (x y : Int32) : vx_Met l y_LR_label (qws y_LR_label c_LR_label 3 (some .int)) ({ frames := 8, cells := 5, slots := 30, locals := 150 }) (qPx D τ A ad N w [.ref (ad 0), .int x, .int y]) (va_Qi (fun r1 w1 => ∃ X9, zR_label X x.toInt y.toInt 0 r1.toInt X9 ∧ qLR τ ad w1 X9 ∧ (∀ q, 469 ≤ q → w1 q = w q)) (qB D τ A ad N) A) (qXC D τ A ad N (fun E w1 => ((E = xIS ∧ zR_label X x.toInt y.toInt 1 0 X) ∨ (E = xIO ∧ zR_label X x.toInt y.toInt 2 0 X)) ∧ qLR τ ad w1 X ∧ (∀ q, 469 ≤ q → w1 q = w q))) 5 30 A := by
  refine qx_of (by decide) (Nat.le_of_ble_eq_true rfl) rfl ?_
  intro PP EE s MM below meth CC ls F hr hlk hout hl hW hst
  have hl : lv_has ls 3 [(0, .ref (ad 0)), (1, .int x), (2, .int y)] := hl
  obtain ⟨⟨v0, hro, hvb⟩, hN, hSh, hSc, hPk, ⟨F1, hF1⟩, F2, hF2⟩ := id hX
  obtain ⟨hm1, hm40, hZ, hBt, hpk16, hpkb, hpk9, hsn⟩ := id hO
  obtain ⟨⟨n32, nho, -⟩, -⟩ := id hN
  obtain ⟨⟨p1, p2, hpo, -⟩, -⟩ := id hPk
  obtain ⟨hso, -⟩ := id hSh
  refine lv_aload_n F.1 F.2.1 d_LR_label_0 rfl (lv_at hl 0 rfl) ?_
  refine qx_callv hW (qx_cV (As := []) (rest := []) F hW hst cs_LR_119 hd_LR_needBuilt rfl (by omega) hro (k_LR_needBuilt l D τ A ad N w hlt hb v0 hro X.bt hvb) rfl rfl ⟨by decide, by decide⟩ rfl hl.1 rfl (Nat.le_of_ble_eq_true rfl) d_LR_label_1 ⟨Nat.le_of_ble_eq_true rfl, Nat.le_of_ble_eq_true rfl⟩) (fun E9 ce9 q9 wx Hx locsx hpx hWx h1x h2x h3x => qx_out hWx hout hlk h1x h2x h3x (by obtain ⟨e1, e2, e3⟩ := hpx; subst e2; subst e1; exact ⟨Or.inl (⟨rfl, ⟨rfl, Or.inl ⟨rfl, e3⟩⟩⟩), hX, fun _ _ => rfl⟩) (Nat.le_of_ble_eq_true rfl) (Nat.le_of_ble_eq_true rfl)) (fun w1 H1 locs1 hp1 hW1 => ?_)
  obtain ⟨hq1, hp1⟩ := hp1
  replace hq1 := hq1.symm
  subst hq1
  have hbt : X.bt := hp1
  have hS := hSc hbt
  have hB := hBt hbt
  obtain ⟨so, hNo, ⟨od, hY⟩, ⟨S, Bl, Cl, Ow, IB, hL, hS40, hSm, hOw, hCl⟩, ⟨Pl, Sz, Hv, Lt, Pa, hF, hTr⟩, Lb, hG, hLb⟩ := id hS
  obtain ⟨-, -, hZo, hallo, hmk1, hmk2⟩ := id hB
  obtain ⟨fo, -⟩ := id hF
  obtain ⟨lao, -⟩ := id hL
  have hcn : zc (fun i => S.testBit i = true) 40 = zc X.mk X.n := zc_bits hSm hmk1 hm40
  refine lv_aload_n F.1 F.2.1 d_LR_label_4 rfl (lv_at hl 0 rfl) ?_
  refine lv_iload_n F.1 F.2.1 d_LR_label_5 rfl (lv_at hl 1 rfl) ?_
  refine qx_callv hW1 (qx_cV (As := [.int x]) (rest := []) F hW1 hst cs_LR_54 hd_LR_needNode rfl (by omega) hro (k_LR_needNode l D τ A ad N w hlt hb v0 hro X.n X.bh X.wt hN x) rfl rfl ⟨by decide, by decide⟩ rfl hl.1 rfl (Nat.le_of_ble_eq_true rfl) d_LR_label_6 ⟨Nat.le_of_ble_eq_true rfl, Nat.le_of_ble_eq_true rfl⟩) (fun E9 ce9 q9 wx Hx locsx hpx hWx h1x h2x h3x => qx_out hWx hout hlk h1x h2x h3x (by obtain ⟨e1, e2, e3⟩ := hpx; subst e2; subst e1; exact ⟨Or.inr (⟨rfl, ⟨rfl, Or.inr ⟨hbt, Or.inl ⟨rfl, fun q => e3 q.1⟩⟩⟩⟩), hX, fun _ _ => rfl⟩) (Nat.le_of_ble_eq_true rfl) (Nat.le_of_ble_eq_true rfl)) (fun w2 H2 locs2 hp2 hW2 => ?_)
  obtain ⟨hq2, hp2⟩ := hp2
  replace hq2 := hq2.symm
  subst hq2
  refine lv_aload_n F.1 F.2.1 d_LR_label_9 rfl (lv_at hl 0 rfl) ?_
  refine lv_iload_n F.1 F.2.1 d_LR_label_10 rfl (lv_at hl 2 rfl) ?_
  refine q_iconst F d_LR_label_11 (by decide) (fun v3 hv3 => ?_)
  refine qx_callv hW2 (qx_cV (As := [.int y, .int v3]) (rest := []) F hW2 hst cs_LR_88 hd_LR_needBelow rfl (by omega) hro (k_LR_needBelow l D τ A ad N w hlt y v3) rfl rfl ⟨by decide, by decide⟩ rfl hl.1 rfl (Nat.le_of_ble_eq_true rfl) d_LR_label_12 ⟨Nat.le_of_ble_eq_true rfl, Nat.le_of_ble_eq_true rfl⟩) (fun E9 ce9 q9 wx Hx locsx hpx hWx h1x h2x h3x => qx_out hWx hout hlk h1x h2x h3x (by obtain ⟨e1, e2, e3⟩ := hpx; subst e2; subst e1; exact ⟨Or.inr (⟨rfl, ⟨rfl, Or.inr ⟨hbt, Or.inl ⟨rfl, fun q => e3 (by omega)⟩⟩⟩⟩), hX, fun _ _ => rfl⟩) (Nat.le_of_ble_eq_true rfl) (Nat.le_of_ble_eq_true rfl)) (fun w4 H4 locs4 hp4 hW4 => ?_)
  obtain ⟨hq4, hp4⟩ := hp4
  replace hq4 := hq4.symm
  subst hq4
  obtain ⟨a, hxa⟩ : ∃ a : Nat, x.toInt = (a : Int) := ⟨x.toInt.toNat, by omega⟩
  obtain ⟨c, hxc⟩ : ∃ c : Nat, y.toInt = (c : Int) := ⟨y.toInt.toNat, by omega⟩
  refine lv_aload_n F.1 F.2.1 d_LR_label_15 rfl (lv_at hl 0 rfl) ?_
  refine gf_LR_19 F hW4 (by omega) hro d_LR_label_16 ?_
  refine lv_iload_n F.1 F.2.1 d_LR_label_19 rfl (lv_at hl 1 rfl) ?_
  refine q_callr hW4 (q_cV (As := [.int x]) (rest := []) F hW4 cs_LR_140 hd_Sc_labelOf rfl (by omega) so (k_Sc_labelOf l D τ A ad N w hb so Lb hG x a hxa (by omega)) rfl rfl ⟨by decide, by decide⟩ rfl hl.1 rfl (Nat.le_of_ble_eq_true rfl) d_LR_label_20 ⟨Nat.le_of_ble_eq_true rfl, Nat.le_of_ble_eq_true rfl⟩) (fun w5 H5 locs5 hp5 hW5 => ?_)
  subst hp5
  refine lv_iload_n F.1 F.2.1 d_LR_label_23 rfl (lv_at hl 2 rfl) ?_
  refine q_iald F hW5 (hG.2 a (by omega)) (by omega) c (by omega) (by omega) d_LR_label_24 (fun v6 hv6 => ?_)
  obtain ⟨f0, f1, f2, f3, f4⟩ := hLb a (by omega)
  have h9 : zlw X a y.toInt v6.toInt := by
    have hc9 : c = 0 ∨ c = 1 ∨ c = 2 ∨ c = 3 ∨ c = 4 := by omega
    unfold zlw
    rcases hc9 with z | z | z | z | z <;> subst z
    · exact Or.inl ⟨by omega, by omega⟩
    · exact Or.inr (Or.inl ⟨by omega, by omega⟩)
    · exact Or.inr (Or.inr (Or.inl ⟨by omega, by omega⟩))
    · exact Or.inr (Or.inr (Or.inr (Or.inl ⟨by omega, by omega⟩)))
    · exact Or.inr (Or.inr (Or.inr (Or.inr ⟨by omega, by omega⟩)))
  exact qx_iret F hr hlk hW5 (⟨X, ⟨rfl, Or.inr ⟨hbt, Or.inr ⟨rfl, ⟨hp2, by omega⟩, by rw [hxa]; simp only [Int.toNat_natCast]; exact h9⟩⟩⟩, hX, fun _ _ => rfl⟩) (Nat.le_of_ble_eq_true rfl) (Nat.le_of_ble_eq_true rfl) d_LR_label_25
set_option maxHeartbeats 4000000 in
set_option maxRecDepth 100000 in
/-- tree -/
theorem k_LR_tree (l : Launch) (D : va_G) (τ : Nat → ClassId) (A : Nat → Prop) (ad : Nat → Nat) (N : Nat) (w : Nat → va_E) (hlt : l.stackTraces = false) (hb : 469 ≤ N) (X : zSt) (B : Nat) (hX : qLR τ ad w X) (hO : zOK X B) (hB9 : B ≤ 1000) (x y z : Int32) : vx_Met l y_LR_tree (qws y_LR_tree c_LR_tree 4 (some .int)) ({ frames := 8, cells := 5, slots := 30, locals := 150 }) (qPx D τ A ad N w [.ref (ad 0), .int x, .int y, .int z]) (va_Qi (fun r1 w1 => ∃ X9, zR_tree X x.toInt y.toInt z.toInt 0 r1.toInt X9 ∧ qLR τ ad w1 X9 ∧ (∀ q, 469 ≤ q → w1 q = w q)) (qB D τ A ad N) A) (qXC D τ A ad N (fun E w1 => ((E = xIS ∧ zR_tree X x.toInt y.toInt z.toInt 1 0 X) ∨ (E = xIO ∧ zR_tree X x.toInt y.toInt z.toInt 2 0 X) ∨ (E = xIA ∧ zR_tree X x.toInt y.toInt z.toInt 3 0 X)) ∧ qLR τ ad w1 X ∧ (∀ q, 469 ≤ q → w1 q = w q))) 5 30 A := by
  refine qx_of (by decide) (Nat.le_of_ble_eq_true rfl) rfl ?_
  intro PP EE s MM below meth CC ls F hr hlk hout hl hW hst
  have hl : lv_has ls 4 [(0, .ref (ad 0)), (1, .int x), (2, .int y), (3, .int z)] := hl
  obtain ⟨⟨v0, hro, hvb⟩, hN, hSh, hSc, hPk, ⟨F1, hF1⟩, F2, hF2⟩ := id hX
  obtain ⟨hm1, hm40, hZ, hBt, hpk16, hpkb, hpk9, hsn⟩ := id hO
  obtain ⟨⟨n32, nho, -⟩, -⟩ := id hN
  obtain ⟨⟨p1, p2, hpo, -⟩, -⟩ := id hPk
  obtain ⟨hso, -⟩ := id hSh
  refine lv_aload_n F.1 F.2.1 d_LR_tree_0 rfl (lv_at hl 0 rfl) ?_
  refine qx_callv hW (qx_cV (As := []) (rest := []) F hW hst cs_LR_119 hd_LR_needBuilt rfl (by omega) hro (k_LR_needBuilt l D τ A ad N w hlt hb v0 hro X.bt hvb) rfl rfl ⟨by decide, by decide⟩ rfl hl.1 rfl (Nat.le_of_ble_eq_true rfl) d_LR_tree_1 ⟨Nat.le_of_ble_eq_true rfl, Nat.le_of_ble_eq_true rfl⟩) (fun E9 ce9 q9 wx Hx locsx hpx hWx h1x h2x h3x => qx_out hWx hout hlk h1x h2x h3x (by obtain ⟨e1, e2, e3⟩ := hpx; subst e2; subst e1; exact ⟨Or.inl (⟨rfl, ⟨rfl, Or.inl ⟨rfl, e3⟩⟩⟩), hX, fun _ _ => rfl⟩) (Nat.le_of_ble_eq_true rfl) (Nat.le_of_ble_eq_true rfl)) (fun w1 H1 locs1 hp1 hW1 => ?_)
  obtain ⟨hq1, hp1⟩ := hp1
  replace hq1 := hq1.symm
  subst hq1
  have hbt : X.bt := hp1
  have hS := hSc hbt
  have hB := hBt hbt
  obtain ⟨so, hNo, ⟨od, hY⟩, ⟨S, Bl, Cl, Ow, IB, hL, hS40, hSm, hOw, hCl⟩, ⟨Pl, Sz, Hv, Lt, Pa, hF, hTr⟩, Lb, hG, hLb⟩ := id hS
  obtain ⟨-, -, hZo, hallo, hmk1, hmk2⟩ := id hB
  obtain ⟨fo, -⟩ := id hF
  obtain ⟨lao, -⟩ := id hL
  have hcn : zc (fun i => S.testBit i = true) 40 = zc X.mk X.n := zc_bits hSm hmk1 hm40
  refine lv_aload_n F.1 F.2.1 d_LR_tree_4 rfl (lv_at hl 0 rfl) ?_
  refine lv_iload_n F.1 F.2.1 d_LR_tree_5 rfl (lv_at hl 1 rfl) ?_
  refine qx_callv hW1 (qx_cV (As := [.int x]) (rest := []) F hW1 hst cs_LR_54 hd_LR_needNode rfl (by omega) hro (k_LR_needNode l D τ A ad N w hlt hb v0 hro X.n X.bh X.wt hN x) rfl rfl ⟨by decide, by decide⟩ rfl hl.1 rfl (Nat.le_of_ble_eq_true rfl) d_LR_tree_6 ⟨Nat.le_of_ble_eq_true rfl, Nat.le_of_ble_eq_true rfl⟩) (fun E9 ce9 q9 wx Hx locsx hpx hWx h1x h2x h3x => qx_out hWx hout hlk h1x h2x h3x (by obtain ⟨e1, e2, e3⟩ := hpx; subst e2; subst e1; exact ⟨Or.inr (Or.inl (⟨rfl, ⟨rfl, Or.inr ⟨hbt, Or.inl ⟨rfl, fun q => e3 q.1⟩⟩⟩⟩)), hX, fun _ _ => rfl⟩) (Nat.le_of_ble_eq_true rfl) (Nat.le_of_ble_eq_true rfl)) (fun w2 H2 locs2 hp2 hW2 => ?_)
  obtain ⟨hq2, hp2⟩ := hp2
  replace hq2 := hq2.symm
  subst hq2
  refine lv_aload_n F.1 F.2.1 d_LR_tree_9 rfl (lv_at hl 0 rfl) ?_
  refine lv_iload_n F.1 F.2.1 d_LR_tree_10 rfl (lv_at hl 2 rfl) ?_
  refine qx_callv hW2 (qx_cV (As := [.int y]) (rest := []) F hW2 hst cs_LR_54 hd_LR_needNode rfl (by omega) hro (k_LR_needNode l D τ A ad N w hlt hb v0 hro X.n X.bh X.wt hN y) rfl rfl ⟨by decide, by decide⟩ rfl hl.1 rfl (Nat.le_of_ble_eq_true rfl) d_LR_tree_11 ⟨Nat.le_of_ble_eq_true rfl, Nat.le_of_ble_eq_true rfl⟩) (fun E9 ce9 q9 wx Hx locsx hpx hWx h1x h2x h3x => qx_out hWx hout hlk h1x h2x h3x (by obtain ⟨e1, e2, e3⟩ := hpx; subst e2; subst e1; exact ⟨Or.inr (Or.inl (⟨rfl, ⟨rfl, Or.inr ⟨hbt, Or.inl ⟨rfl, fun q => e3 q.2.1⟩⟩⟩⟩)), hX, fun _ _ => rfl⟩) (Nat.le_of_ble_eq_true rfl) (Nat.le_of_ble_eq_true rfl)) (fun w3 H3 locs3 hp3 hW3 => ?_)
  obtain ⟨hq3, hp3⟩ := hp3
  replace hq3 := hq3.symm
  subst hq3
  refine lv_aload_n F.1 F.2.1 d_LR_tree_14 rfl (lv_at hl 0 rfl) ?_
  refine lv_iload_n F.1 F.2.1 d_LR_tree_15 rfl (lv_at hl 3 rfl) ?_
  refine q_iconst F d_LR_tree_16 (by decide) (fun v4 hv4 => ?_)
  refine qx_callv hW3 (qx_cV (As := [.int z, .int v4]) (rest := []) F hW3 hst cs_LR_88 hd_LR_needBelow rfl (by omega) hro (k_LR_needBelow l D τ A ad N w hlt z v4) rfl rfl ⟨by decide, by decide⟩ rfl hl.1 rfl (Nat.le_of_ble_eq_true rfl) d_LR_tree_17 ⟨Nat.le_of_ble_eq_true rfl, Nat.le_of_ble_eq_true rfl⟩) (fun E9 ce9 q9 wx Hx locsx hpx hWx h1x h2x h3x => qx_out hWx hout hlk h1x h2x h3x (by obtain ⟨e1, e2, e3⟩ := hpx; subst e2; subst e1; exact ⟨Or.inr (Or.inl (⟨rfl, ⟨rfl, Or.inr ⟨hbt, Or.inl ⟨rfl, fun q => e3 ⟨q.2.2.1, by have := q.2.2.2; omega⟩⟩⟩⟩⟩)), hX, fun _ _ => rfl⟩) (Nat.le_of_ble_eq_true rfl) (Nat.le_of_ble_eq_true rfl)) (fun w5 H5 locs5 hp5 hW5 => ?_)
  obtain ⟨hq5, hp5⟩ := hp5
  replace hq5 := hq5.symm
  subst hq5
  obtain ⟨a, hxa⟩ : ∃ a : Nat, x.toInt = (a : Int) := ⟨x.toInt.toNat, by omega⟩
  obtain ⟨c, hxc⟩ : ∃ c : Nat, y.toInt = (c : Int) := ⟨y.toInt.toNat, by omega⟩
  refine lv_aload_n F.1 F.2.1 d_LR_tree_20 rfl (lv_at hl 0 rfl) ?_
  refine gf_LR_19 F hW5 (by omega) hro d_LR_tree_21 ?_
  refine gn_LR_110 F hW5 hst (by omega) so d_LR_tree_24 ?_
  refine lv_iload_n F.1 F.2.1 d_LR_tree_27 rfl (lv_at hl 1 rfl) ?_
  refine q_calli hW5 (q_cV (As := [.int x]) (rest := []) F hW5 cs_LR_144 hd_La_isLandmark rfl (by omega) lao (k_La_isLandmark l D τ A ad N w hb S Bl Cl Ow IB hL hS40 x a hxa (by omega)) rfl rfl ⟨by decide, by decide⟩ rfl hl.1 rfl (Nat.le_of_ble_eq_true rfl) d_LR_tree_28 ⟨Nat.le_of_ble_eq_true rfl, Nat.le_of_ble_eq_true rfl⟩) (fun v6 w6 H6 locs6 hp6 hW6 => ?_)
  obtain ⟨hq6, hp6⟩ := hp6
  replace hq6 := hq6.symm
  subst hq6
  have hok : zn X x.toInt ∧ zn X y.toInt ∧ 0 ≤ z.toInt ∧ z.toInt < 4 := ⟨hp2, hp3, hp5.1, by omega⟩
  refine q_if_ne (tgt := 44) F d_LR_tree_31 (by decide) (fun c31 => ?_) (fun c31 => ?_)
  · have hma : X.mk a := (hSm a).mp (qb_t hp6 (by omega))
    have htr := hTr a hma c (by omega)
    refine lv_iload_n F.1 F.2.1 d_LR_tree_44 rfl (lv_at hl 3 rfl) ?_
    have hz9 : z.toInt = 0 ∨ z.toInt = 1 ∨ z.toInt = 2 ∨ z.toInt = 3 := by omega
    rcases hz9 with hz9 | hz9 | hz9 | hz9
    · refine lv_tableIn (off := 27) (tgt := 72) F.1 F.2.1 d_LR_tree_45 (by omega) (by omega) (by rw [hz9]; rfl) (by decide) ?_
      refine lv_aload_n F.1 F.2.1 d_LR_tree_72 rfl (lv_at hl 0 rfl) ?_
      refine gf_LR_19 F hW6 (by omega) hro d_LR_tree_73 ?_
      refine gn_LR_150 F hW6 hst (by omega) so d_LR_tree_76 ?_
      refine lv_iload_n F.1 F.2.1 d_LR_tree_79 rfl (lv_at hl 1 rfl) ?_
      refine lv_iload_n F.1 F.2.1 d_LR_tree_80 rfl (lv_at hl 2 rfl) ?_
      refine q_calli hW6 (q_cV (As := [.int x, .int y]) (rest := []) F hW6 cs_LR_154 hd_Fo_placeOf rfl (by omega) fo (k_Fo_placeOf l D τ A ad N w hb Pl Sz Hv Lt Pa hF x y a c hxa hxc (by omega) (by omega)) rfl rfl ⟨by decide, by decide⟩ rfl hl.1 rfl (Nat.le_of_ble_eq_true rfl) d_LR_tree_81 ⟨Nat.le_of_ble_eq_true rfl, Nat.le_of_ble_eq_true rfl⟩) (fun v7 w7 H7 locs7 hp7 hW7 => ?_)
      obtain ⟨hq7, hp7⟩ := hp7
      replace hq7 := hq7.symm
      subst hq7
      exact qx_iret F hr hlk hW7 (⟨X, ⟨rfl, Or.inr ⟨hbt, Or.inr ⟨hok, Or.inr ⟨rfl, by rw [hxa]; simp only [Int.toNat_natCast]; exact hma, Or.inl (⟨hz9, by rw [hxa, hxc]; simp only [Int.toNat_natCast]; exact hp7.trans htr.1⟩)⟩⟩⟩⟩, hX, fun _ _ => rfl⟩) (Nat.le_of_ble_eq_true rfl) (Nat.le_of_ble_eq_true rfl) d_LR_tree_84
    · refine lv_tableIn (off := 40) (tgt := 85) F.1 F.2.1 d_LR_tree_45 (by omega) (by omega) (by rw [hz9]; rfl) (by decide) ?_
      refine lv_aload_n F.1 F.2.1 d_LR_tree_85 rfl (lv_at hl 0 rfl) ?_
      refine gf_LR_19 F hW6 (by omega) hro d_LR_tree_86 ?_
      refine gn_LR_150 F hW6 hst (by omega) so d_LR_tree_89 ?_
      refine lv_iload_n F.1 F.2.1 d_LR_tree_92 rfl (lv_at hl 1 rfl) ?_
      refine lv_iload_n F.1 F.2.1 d_LR_tree_93 rfl (lv_at hl 2 rfl) ?_
      refine q_calli hW6 (q_cV (As := [.int x, .int y]) (rest := []) F hW6 cs_LR_159 hd_Fo_sizeOf rfl (by omega) fo (k_Fo_sizeOf l D τ A ad N w hb Pl Sz Hv Lt Pa hF x y a c hxa hxc (by omega) (by omega)) rfl rfl ⟨by decide, by decide⟩ rfl hl.1 rfl (Nat.le_of_ble_eq_true rfl) d_LR_tree_94 ⟨Nat.le_of_ble_eq_true rfl, Nat.le_of_ble_eq_true rfl⟩) (fun v8 w8 H8 locs8 hp8 hW8 => ?_)
      obtain ⟨hq8, hp8⟩ := hp8
      replace hq8 := hq8.symm
      subst hq8
      exact qx_iret F hr hlk hW8 (⟨X, ⟨rfl, Or.inr ⟨hbt, Or.inr ⟨hok, Or.inr ⟨rfl, by rw [hxa]; simp only [Int.toNat_natCast]; exact hma, Or.inr (Or.inl (⟨hz9, by rw [hxa, hxc]; simp only [Int.toNat_natCast]; exact hp8.trans htr.2.1⟩))⟩⟩⟩⟩, hX, fun _ _ => rfl⟩) (Nat.le_of_ble_eq_true rfl) (Nat.le_of_ble_eq_true rfl) d_LR_tree_97
    · refine lv_tableIn (off := 53) (tgt := 98) F.1 F.2.1 d_LR_tree_45 (by omega) (by omega) (by rw [hz9]; rfl) (by decide) ?_
      refine lv_aload_n F.1 F.2.1 d_LR_tree_98 rfl (lv_at hl 0 rfl) ?_
      refine gf_LR_19 F hW6 (by omega) hro d_LR_tree_99 ?_
      refine gn_LR_150 F hW6 hst (by omega) so d_LR_tree_102 ?_
      refine lv_iload_n F.1 F.2.1 d_LR_tree_105 rfl (lv_at hl 1 rfl) ?_
      refine lv_iload_n F.1 F.2.1 d_LR_tree_106 rfl (lv_at hl 2 rfl) ?_
      refine q_calli hW6 (q_cV (As := [.int x, .int y]) (rest := []) F hW6 cs_LR_162 hd_Fo_heavyOf rfl (by omega) fo (k_Fo_heavyOf l D τ A ad N w hb Pl Sz Hv Lt Pa hF x y a c hxa hxc (by omega) (by omega)) rfl rfl ⟨by decide, by decide⟩ rfl hl.1 rfl (Nat.le_of_ble_eq_true rfl) d_LR_tree_107 ⟨Nat.le_of_ble_eq_true rfl, Nat.le_of_ble_eq_true rfl⟩) (fun v9 w9 H9 locs9 hp9 hW9 => ?_)
      obtain ⟨hq9, hp9⟩ := hp9
      replace hq9 := hq9.symm
      subst hq9
      exact qx_iret F hr hlk hW9 (⟨X, ⟨rfl, Or.inr ⟨hbt, Or.inr ⟨hok, Or.inr ⟨rfl, by rw [hxa]; simp only [Int.toNat_natCast]; exact hma, Or.inr (Or.inr (Or.inl (⟨hz9, by rw [hxa, hxc]; simp only [Int.toNat_natCast]; exact hp9.trans htr.2.2.1⟩)))⟩⟩⟩⟩, hX, fun _ _ => rfl⟩) (Nat.le_of_ble_eq_true rfl) (Nat.le_of_ble_eq_true rfl) d_LR_tree_110
    · refine lv_tableOut (tgt := 111) F.1 F.2.1 d_LR_tree_45 (by omega) (by decide) ?_
      refine lv_aload_n F.1 F.2.1 d_LR_tree_111 rfl (lv_at hl 0 rfl) ?_
      refine gf_LR_19 F hW6 (by omega) hro d_LR_tree_112 ?_
      refine gn_LR_150 F hW6 hst (by omega) so d_LR_tree_115 ?_
      refine lv_iload_n F.1 F.2.1 d_LR_tree_118 rfl (lv_at hl 1 rfl) ?_
      refine lv_iload_n F.1 F.2.1 d_LR_tree_119 rfl (lv_at hl 2 rfl) ?_
      refine q_calli hW6 (q_cV (As := [.int x, .int y]) (rest := []) F hW6 cs_LR_165 hd_Fo_parentOf rfl (by omega) fo (k_Fo_parentOf l D τ A ad N w hb fo X.n hm40 X.n X.bo X.wo hNo rfl X.Wo od hY hZo x y a c hxa hxc (by omega) (by omega)) rfl rfl ⟨by decide, by decide⟩ rfl hl.1 rfl (Nat.le_of_ble_eq_true rfl) d_LR_tree_120 ⟨Nat.le_of_ble_eq_true rfl, Nat.le_of_ble_eq_true rfl⟩) (fun v10 w10 H10 locs10 hp10 hW10 => ?_)
      obtain ⟨hq10, hp10⟩ := hp10
      replace hq10 := hq10.symm
      subst hq10
      exact qx_iret F hr hlk hW10 (⟨X, ⟨rfl, Or.inr ⟨hbt, Or.inr ⟨hok, Or.inr ⟨rfl, by rw [hxa]; simp only [Int.toNat_natCast]; exact hma, Or.inr (Or.inr (Or.inr (⟨hz9, by rw [hxa, hxc]; simp only [Int.toNat_natCast]; exact hp10⟩)))⟩⟩⟩⟩, hX, fun _ _ => rfl⟩) (Nat.le_of_ble_eq_true rfl) (Nat.le_of_ble_eq_true rfl) d_LR_tree_123
  · exact qx_throw F hlt hW6 hst (cls := xIA) (ik := 41) (ic := 45) (by decide) xa_kIA xa_iIA (text := "no landmark has that number") (is := 148) (by decide) (xa_gd xa_in45) xa_bad45 xa_ot45 hl.1 hout hlk (⟨Or.inr (Or.inr (⟨rfl, ⟨rfl, Or.inr ⟨hbt, Or.inr ⟨hok, Or.inl ⟨rfl, by rw [hxa]; simp only [Int.toNat_natCast]; exact fun q => qb_f hp6 (by omega) ((hSm a).mpr q)⟩⟩⟩⟩⟩)), hX, fun _ _ => rfl⟩) (Nat.le_of_ble_eq_true rfl) (Nat.le_of_ble_eq_true rfl) (Nat.le_of_ble_eq_true rfl) (Nat.le_of_ble_eq_true rfl) (Nat.le_of_ble_eq_true rfl) (Nat.le_of_ble_eq_true rfl) d_LR_tree_34 d_LR_tree_37 d_LR_tree_38 d_LR_tree_40 d_LR_tree_43
set_option maxHeartbeats 4000000 in
set_option maxRecDepth 100000 in
/-- send -/
theorem k_LR_send (l : Launch) (D : va_G) (τ : Nat → ClassId) (A : Nat → Prop) (ad : Nat → Nat) (N : Nat) (w : Nat → va_E) (hlt : l.stackTraces = false) (hb : 469 ≤ N) (X : zSt) (B : Nat) (hX : qLR τ ad w X) (hO : zOK X B) (hB9 : B ≤ 1000) (x y : Int32) : vx_Met l y_LR_send (qws y_LR_send c_LR_send 3 (some .int)) ({ frames := 8, cells := 5, slots := 30, locals := 150 }) (qPx D τ A ad N w [.ref (ad 0), .int x, .int y]) (va_Qi (fun r1 w1 => ∃ X9, zR_send X x.toInt y.toInt 0 r1.toInt X9 ∧ qLR τ ad w1 X9 ∧ (∀ q, 469 ≤ q → w1 q = w q)) (qB D τ A ad N) A) (qXC D τ A ad N (fun E w1 => ((E = xIS ∧ zR_send X x.toInt y.toInt 1 0 X) ∨ (E = xIO ∧ zR_send X x.toInt y.toInt 2 0 X)) ∧ qLR τ ad w1 X ∧ (∀ q, 469 ≤ q → w1 q = w q))) 5 30 A := by
  refine qx_of (by decide) (Nat.le_of_ble_eq_true rfl) rfl ?_
  intro PP EE s MM below meth CC ls F hr hlk hout hl hW hst
  have hl : lv_has ls 3 [(0, .ref (ad 0)), (1, .int x), (2, .int y)] := hl
  obtain ⟨⟨v0, hro, hvb⟩, hN, hSh, hSc, hPk, ⟨F1, hF1⟩, F2, hF2⟩ := id hX
  obtain ⟨hm1, hm40, hZ, hBt, hpk16, hpkb, hpk9, hsn⟩ := id hO
  obtain ⟨⟨n32, nho, -⟩, -⟩ := id hN
  obtain ⟨⟨p1, p2, hpo, -⟩, -⟩ := id hPk
  obtain ⟨hso, -⟩ := id hSh
  refine lv_aload_n F.1 F.2.1 d_LR_send_0 rfl (lv_at hl 0 rfl) ?_
  refine qx_callv hW (qx_cV (As := []) (rest := []) F hW hst cs_LR_119 hd_LR_needBuilt rfl (by omega) hro (k_LR_needBuilt l D τ A ad N w hlt hb v0 hro X.bt hvb) rfl rfl ⟨by decide, by decide⟩ rfl hl.1 rfl (Nat.le_of_ble_eq_true rfl) d_LR_send_1 ⟨Nat.le_of_ble_eq_true rfl, Nat.le_of_ble_eq_true rfl⟩) (fun E9 ce9 q9 wx Hx locsx hpx hWx h1x h2x h3x => qx_out hWx hout hlk h1x h2x h3x (by obtain ⟨e1, e2, e3⟩ := hpx; subst e2; subst e1; exact ⟨Or.inl (⟨rfl, Or.inl ⟨rfl, rfl, e3⟩⟩), hX, fun _ _ => rfl⟩) (Nat.le_of_ble_eq_true rfl) (Nat.le_of_ble_eq_true rfl)) (fun w1 H1 locs1 hp1 hW1 => ?_)
  obtain ⟨hq1, hp1⟩ := hp1
  replace hq1 := hq1.symm
  subst hq1
  have hbt : X.bt := hp1
  have hS := hSc hbt
  have hB := hBt hbt
  obtain ⟨so, hNo, ⟨od, hY⟩, ⟨S, Bl, Cl, Ow, IB, hL, hS40, hSm, hOw, hCl⟩, ⟨Pl, Sz, Hv, Lt, Pa, hF, hTr⟩, Lb, hG, hLb⟩ := id hS
  obtain ⟨-, -, hZo, hallo, hmk1, hmk2⟩ := id hB
  obtain ⟨fo, -⟩ := id hF
  obtain ⟨lao, -⟩ := id hL
  have hcn : zc (fun i => S.testBit i = true) 40 = zc X.mk X.n := zc_bits hSm hmk1 hm40
  refine lv_aload_n F.1 F.2.1 d_LR_send_4 rfl (lv_at hl 0 rfl) ?_
  refine lv_iload_n F.1 F.2.1 d_LR_send_5 rfl (lv_at hl 1 rfl) ?_
  refine qx_callv hW1 (qx_cV (As := [.int x]) (rest := []) F hW1 hst cs_LR_54 hd_LR_needNode rfl (by omega) hro (k_LR_needNode l D τ A ad N w hlt hb v0 hro X.n X.bh X.wt hN x) rfl rfl ⟨by decide, by decide⟩ rfl hl.1 rfl (Nat.le_of_ble_eq_true rfl) d_LR_send_6 ⟨Nat.le_of_ble_eq_true rfl, Nat.le_of_ble_eq_true rfl⟩) (fun E9 ce9 q9 wx Hx locsx hpx hWx h1x h2x h3x => qx_out hWx hout hlk h1x h2x h3x (by obtain ⟨e1, e2, e3⟩ := hpx; subst e2; subst e1; exact ⟨Or.inr (⟨rfl, Or.inr ⟨hbt, Or.inl ⟨rfl, rfl, fun q => e3 q.1⟩⟩⟩), hX, fun _ _ => rfl⟩) (Nat.le_of_ble_eq_true rfl) (Nat.le_of_ble_eq_true rfl)) (fun w2 H2 locs2 hp2 hW2 => ?_)
  obtain ⟨hq2, hp2⟩ := hp2
  replace hq2 := hq2.symm
  subst hq2
  refine lv_aload_n F.1 F.2.1 d_LR_send_9 rfl (lv_at hl 0 rfl) ?_
  refine lv_iload_n F.1 F.2.1 d_LR_send_10 rfl (lv_at hl 2 rfl) ?_
  refine qx_callv hW2 (qx_cV (As := [.int y]) (rest := []) F hW2 hst cs_LR_54 hd_LR_needNode rfl (by omega) hro (k_LR_needNode l D τ A ad N w hlt hb v0 hro X.n X.bh X.wt hN y) rfl rfl ⟨by decide, by decide⟩ rfl hl.1 rfl (Nat.le_of_ble_eq_true rfl) d_LR_send_11 ⟨Nat.le_of_ble_eq_true rfl, Nat.le_of_ble_eq_true rfl⟩) (fun E9 ce9 q9 wx Hx locsx hpx hWx h1x h2x h3x => qx_out hWx hout hlk h1x h2x h3x (by obtain ⟨e1, e2, e3⟩ := hpx; subst e2; subst e1; exact ⟨Or.inr (⟨rfl, Or.inr ⟨hbt, Or.inl ⟨rfl, rfl, fun q => e3 q.2⟩⟩⟩), hX, fun _ _ => rfl⟩) (Nat.le_of_ble_eq_true rfl) (Nat.le_of_ble_eq_true rfl)) (fun w3 H3 locs3 hp3 hW3 => ?_)
  obtain ⟨hq3, hp3⟩ := hp3
  replace hq3 := hq3.symm
  subst hq3
  refine lv_aload_n F.1 F.2.1 d_LR_send_14 rfl (lv_at hl 0 rfl) ?_
  refine gf_LR_26 F hW3 (by omega) hro d_LR_send_15 ?_
  refine lv_iload_n F.1 F.2.1 d_LR_send_18 rfl (lv_at hl 1 rfl) ?_
  refine lv_iload_n F.1 F.2.1 d_LR_send_19 rfl (lv_at hl 2 rfl) ?_
  refine q_calli hW3 (q_cV (As := [.int x, .int y]) (rest := []) F hW3 cs_LR_168 hd_Pa_add rfl (by omega) hpo (k_Pa_add l D τ A ad N w hb (X.sn % 16) X.pk X.P X.G X.U hPk (Nat.mod_lt _ (by decide)) (by rw [hpk16]; split <;> omega) x y) rfl rfl ⟨by decide, by decide⟩ rfl hl.1 rfl (Nat.le_of_ble_eq_true rfl) d_LR_send_20 ⟨Nat.le_of_ble_eq_true rfl, Nat.le_of_ble_eq_true rfl⟩) (fun v4 w4 H4 locs4 hp4 hW4 => ?_)
  obtain ⟨hr9, hP9, hfr4⟩ := hp4
  replace hro := (hfr4 _ (by omega)).trans hro
  replace hSh := hSh.keep (fun q h1 h2 => hfr4 _ (by omega))
  replace hN := hN.keep (fun q h1 h2 => hfr4 _ (by omega))
  replace hF1 := hF1.keep (hfr4 _ (by omega))
  replace hF2 := hF2.keep (hfr4 _ (by omega))
  replace hS := hS.keep (fun q h1 h2 => hfr4 _ (by omega))
  have hmod : (X.sn % 16 + 1) % 16 = (X.sn + 1) % 16 := by omega
  rw [hmod] at hP9
  exact qx_iret F hr hlk hW4 (⟨zs_send X x.toInt y.toInt, Or.inr ⟨hbt, Or.inr ⟨rfl, ⟨hp2, hp3⟩, hr9, rfl⟩⟩, ⟨⟨v0, hro, hvb⟩, hN, hSh, fun _ => hS, hP9, ⟨_, hF1⟩, _, hF2⟩, fun q hq => hfr4 q (by omega)⟩) (Nat.le_of_ble_eq_true rfl) (Nat.le_of_ble_eq_true rfl) d_LR_send_23
set_option maxHeartbeats 4000000 in
set_option maxRecDepth 100000 in
/-- hop -/
theorem k_LR_hop (l : Launch) (D : va_G) (τ : Nat → ClassId) (A : Nat → Prop) (ad : Nat → Nat) (N : Nat) (w : Nat → va_E) (hlt : l.stackTraces = false) (hb : 469 ≤ N) (X : zSt) (B : Nat) (hX : qLR τ ad w X) (hO : zOK X B) (hB9 : B ≤ 1000) (x : Int32) : vx_Met l y_LR_hop (qws y_LR_hop c_LR_hop 4 (some .int)) ({ frames := 8, cells := 5, slots := 30, locals := 150 }) (qPx D τ A ad N w [.ref (ad 0), .int x]) (va_Qi (fun r1 w1 => ∃ X9, zR_hop X x.toInt 0 r1.toInt X9 ∧ qLR τ ad w1 X9 ∧ (∀ q, 469 ≤ q → w1 q = w q)) (qB D τ A ad N) A) (qXC D τ A ad N (fun E w1 => ((E = xIA ∧ zR_hop X x.toInt 1 0 X)) ∧ qLR τ ad w1 X ∧ (∀ q, 469 ≤ q → w1 q = w q))) 5 30 A := by
  refine qx_of (by decide) (Nat.le_of_ble_eq_true rfl) rfl ?_
  intro PP EE s MM below meth CC ls F hr hlk hout hl hW hst
  have hl : lv_has ls 4 [(0, .ref (ad 0)), (1, .int x)] := hl
  obtain ⟨⟨v0, hro, hvb⟩, hN, hSh, hSc, hPk, ⟨F1, hF1⟩, F2, hF2⟩ := id hX
  obtain ⟨hm1, hm40, hZ, hBt, hpk16, hpkb, hpk9, hsn⟩ := id hO
  obtain ⟨⟨n32, nho, -⟩, -⟩ := id hN
  obtain ⟨⟨p1, p2, hpo, -⟩, -⟩ := id hPk
  obtain ⟨hso, -⟩ := id hSh
  refine lv_aload_n F.1 F.2.1 d_LR_hop_0 rfl (lv_at hl 0 rfl) ?_
  refine lv_iload_n F.1 F.2.1 d_LR_hop_1 rfl (lv_at hl 1 rfl) ?_
  refine qx_callv hW (qx_cV (As := [.int x]) (rest := []) F hW hst cs_LR_171 hd_LR_needPacket rfl (by omega) hro (k_LR_needPacket l D τ A ad N w hlt hb v0 hro (X.sn % 16) X.pk X.P X.G X.U hPk x) rfl rfl ⟨by decide, by decide⟩ rfl hl.1 rfl (Nat.le_of_ble_eq_true rfl) d_LR_hop_2 ⟨Nat.le_of_ble_eq_true rfl, Nat.le_of_ble_eq_true rfl⟩) (fun E9 ce9 q9 wx Hx locsx hpx hWx h1x h2x h3x => qx_out hWx hout hlk h1x h2x h3x (by obtain ⟨e1, e2, e3⟩ := hpx; subst e2; subst e1; exact ⟨⟨rfl, Or.inl ⟨rfl, rfl, e3⟩⟩, hX, fun _ _ => rfl⟩) (Nat.le_of_ble_eq_true rfl) (Nat.le_of_ble_eq_true rfl)) (fun w1 H1 locs1 hp1 hW1 => ?_)
  obtain ⟨hq1, hp1⟩ := hp1
  replace hq1 := hq1.symm
  subst hq1
  obtain ⟨a, hxa⟩ : ∃ a : Nat, x.toInt = (a : Int) := ⟨x.toInt.toNat, by omega⟩
  have hbt : X.bt := hpkb (by omega)
  have hS := hSc hbt
  have hB := hBt hbt
  obtain ⟨so, hNo, ⟨od, hY⟩, -⟩ := id hS
  obtain ⟨-, -, hZo, -⟩ := id hB
  have hpa := hpk9 a (by omega)
  have hpk17 : X.pk ≤ 16 := by rw [hpk16]; split <;> omega
  obtain ⟨c, c1, c2, c3, c4⟩ := hO.hop (show a < X.pk by omega)
  obtain ⟨f, hf9⟩ : ∃ f : Nat, X.P a = (f : Int) := ⟨(X.P a).toNat, by omega⟩
  obtain ⟨g, hg9⟩ : ∃ g : Nat, X.G a = (g : Int) := ⟨(X.G a).toNat, by omega⟩
  rw [hf9, hg9] at c2
  rw [hf9] at c3 c4
  simp only [Int.toNat_natCast] at c2 c3 c4
  refine lv_aload_n F.1 F.2.1 d_LR_hop_5 rfl (lv_at hl 0 rfl) ?_
  refine gf_LR_26 F hW1 (by omega) hro d_LR_hop_6 ?_
  refine lv_iload_n F.1 F.2.1 d_LR_hop_9 rfl (lv_at hl 1 rfl) ?_
  refine q_calli hW1 (q_cV (As := [.int x]) (rest := []) F hW1 cs_LR_174 hd_Pa_placeOf rfl (by omega) hpo (k_Pa_placeOf l D τ A ad N w hb (X.sn % 16) X.pk X.P X.G X.U hPk x a hxa (by omega)) rfl rfl ⟨by decide, by decide⟩ rfl hl.1 rfl (Nat.le_of_ble_eq_true rfl) d_LR_hop_10 ⟨Nat.le_of_ble_eq_true rfl, Nat.le_of_ble_eq_true rfl⟩) (fun v2 w2 H2 locs2 hp2 hW2 => ?_)
  obtain ⟨hq2, hp2⟩ := hp2
  replace hq2 := hq2.symm
  subst hq2
  rw [hf9] at hp2
  refine lv_istore_n (lv' := [(2, .int v2), (0, .ref (ad 0)), (1, .int x)]) F.1 F.2.1 d_LR_hop_13 rfl hl (by decide) rfl (fun ls3 hl3 => ?_)
  clear hl
  refine lv_aload_n F.1 F.2.1 d_LR_hop_14 rfl (lv_at hl3 1 rfl) ?_
  refine gf_LR_19 F hW2 (by omega) hro d_LR_hop_15 ?_
  refine lv_iload_n F.1 F.2.1 d_LR_hop_18 rfl (lv_at hl3 0 rfl) ?_
  refine lv_aload_n F.1 F.2.1 d_LR_hop_19 rfl (lv_at hl3 1 rfl) ?_
  refine gf_LR_26 F hW2 (by omega) hro d_LR_hop_20 ?_
  refine lv_iload_n F.1 F.2.1 d_LR_hop_23 rfl (lv_at hl3 2 rfl) ?_
  refine q_calli hW2 (q_cV (As := [.int x]) (rest := [.int v2, .ref (ad 84)]) F hW2 cs_LR_176 hd_Pa_aimOf rfl (by omega) hpo (k_Pa_aimOf l D τ A ad N w hb (X.sn % 16) X.pk X.P X.G X.U hPk x a hxa (by omega)) rfl rfl ⟨by decide, by decide⟩ rfl hl3.1 rfl (Nat.le_of_ble_eq_true rfl) d_LR_hop_24 ⟨Nat.le_of_ble_eq_true rfl, Nat.le_of_ble_eq_true rfl⟩) (fun v4 w4 H4 locs4 hp4 hW4 => ?_)
  obtain ⟨hq4, hp4⟩ := hp4
  replace hq4 := hq4.symm
  subst hq4
  rw [hg9] at hp4
  refine q_calli hW4 (q_cV (As := [.int v2, .int v4]) (rest := []) F hW4 cs_LR_179 hd_Sc_onward rfl (by omega) so (k_Sc_onward l D τ A ad N w hb X.n X.bo X.wo X.Wo X.mk hS hB v2 v4 f g hp2 hp4 (by omega) (by omega)) rfl rfl ⟨by decide, by decide⟩ rfl hl3.1 rfl (Nat.le_of_ble_eq_true rfl) d_LR_hop_27 ⟨Nat.le_of_ble_eq_true rfl, Nat.le_of_ble_eq_true rfl⟩) (fun v5 w5 H5 locs5 hp5 hW5 => ?_)
  obtain ⟨hq5, hp5⟩ := hp5
  replace hq5 := hq5.symm
  subst hq5
  rw [c2] at hp5
  refine lv_istore_n (lv' := [(3, .int v5), (2, .int v2), (0, .ref (ad 0)), (1, .int x)]) F.1 F.2.1 d_LR_hop_30 rfl hl3 (by decide) rfl (fun ls6 hl6 => ?_)
  clear hl3
  refine lv_aload_n F.1 F.2.1 d_LR_hop_31 rfl (lv_at hl6 2 rfl) ?_
  refine gf_LR_26 F hW5 (by omega) hro d_LR_hop_32 ?_
  refine lv_iload_n F.1 F.2.1 d_LR_hop_35 rfl (lv_at hl6 3 rfl) ?_
  refine lv_iload_n F.1 F.2.1 d_LR_hop_36 rfl (lv_at hl6 0 rfl) ?_
  refine lv_aload_n F.1 F.2.1 d_LR_hop_37 rfl (lv_at hl6 2 rfl) ?_
  refine gf_LR_19 F hW5 (by omega) hro d_LR_hop_38 ?_
  refine lv_iload_n F.1 F.2.1 d_LR_hop_41 rfl (lv_at hl6 1 rfl) ?_
  refine lv_iload_n F.1 F.2.1 d_LR_hop_42 rfl (lv_at hl6 0 rfl) ?_
  refine q_calli hW5 (q_cV (As := [.int v2, .int v5]) (rest := [.int v5, .int x, .ref (ad 463)]) F hW5 cs_LR_182 hd_Sc_hopWeight rfl (by omega) so (k_Sc_hopWeight l D τ A ad N w hb so X.n hm40 X.n X.bo X.wo hNo rfl X.Wo od hY hZo v2 v5 f c hp2 hp5 (by omega) c1) rfl rfl ⟨by decide, by decide⟩ rfl hl6.1 rfl (Nat.le_of_ble_eq_true rfl) d_LR_hop_43 ⟨Nat.le_of_ble_eq_true rfl, Nat.le_of_ble_eq_true rfl⟩) (fun v7 w7 H7 locs7 hp7 hW7 => ?_)
  obtain ⟨hq7, hp7⟩ := hp7
  replace hq7 := hq7.symm
  subst hq7
  refine q_callv hW7 (q_cV (As := [.int x, .int v5, .int v7]) (rest := []) F hW7 cs_LR_185 hd_Pa_move rfl (by omega) hpo (k_Pa_move l D τ A ad N w hb (X.sn % 16) X.pk X.P X.G X.U hPk x v5 v7 a hxa (by omega) (by omega)) rfl rfl ⟨by decide, by decide⟩ rfl hl6.1 rfl (Nat.le_of_ble_eq_true rfl) d_LR_hop_46 ⟨Nat.le_of_ble_eq_true rfl, Nat.le_of_ble_eq_true rfl⟩) (fun w8 H8 locs8 hp8 hW8 => ?_)
  obtain ⟨hP9, hfr8⟩ := hp8
  replace hro := (hfr8 _ (by omega)).trans hro
  replace hSh := hSh.keep (fun q h1 h2 => hfr8 _ (by omega))
  replace hN := hN.keep (fun q h1 h2 => hfr8 _ (by omega))
  replace hF1 := hF1.keep (hfr8 _ (by omega))
  replace hF2 := hF2.keep (hfr8 _ (by omega))
  replace hS := hS.keep (fun q h1 h2 => hfr8 _ (by omega))
  rw [hp5, hp7] at hP9
  refine lv_iload_n F.1 F.2.1 d_LR_hop_49 rfl (lv_at hl6 0 rfl) ?_
  exact qx_iret F hr hlk hW8 (⟨zs_hop X a (c : Int) (X.Wo f c), by rw [hxa, hp5]; exact Or.inr ⟨rfl, by omega, by simp only [Int.toNat_natCast]; rw [hf9, hg9]; exact c2.symm, by simp only [Int.toNat_natCast]; rw [hf9]; simp only [Int.toNat_natCast]⟩, ⟨⟨v0, hro, hvb⟩, hN, hSh, fun _ => hS, hP9, ⟨_, hF1⟩, _, hF2⟩, fun q hq => hfr8 q (by omega)⟩) (Nat.le_of_ble_eq_true rfl) (Nat.le_of_ble_eq_true rfl) d_LR_hop_50
set_option maxHeartbeats 4000000 in
set_option maxRecDepth 100000 in
/-- weight -/
theorem k_LR_weight (l : Launch) (D : va_G) (τ : Nat → ClassId) (A : Nat → Prop) (ad : Nat → Nat) (N : Nat) (w : Nat → va_E) (hlt : l.stackTraces = false) (hb : 469 ≤ N) (X : zSt) (B : Nat) (hX : qLR τ ad w X) (hO : zOK X B) (hB9 : B ≤ 1000) (x : Int32) : vx_Met l y_LR_weight (qws y_LR_weight c_LR_weight 2 (some .int)) ({ frames := 8, cells := 5, slots := 30, locals := 150 }) (qPx D τ A ad N w [.ref (ad 0), .int x]) (va_Qi (fun r1 w1 => ∃ X9, zR_weight X x.toInt 0 r1.toInt X9 ∧ qLR τ ad w1 X9 ∧ (∀ q, 469 ≤ q → w1 q = w q)) (qB D τ A ad N) A) (qXC D τ A ad N (fun E w1 => ((E = xIA ∧ zR_weight X x.toInt 1 0 X)) ∧ qLR τ ad w1 X ∧ (∀ q, 469 ≤ q → w1 q = w q))) 5 30 A := by
  refine qx_of (by decide) (Nat.le_of_ble_eq_true rfl) rfl ?_
  intro PP EE s MM below meth CC ls F hr hlk hout hl hW hst
  have hl : lv_has ls 2 [(0, .ref (ad 0)), (1, .int x)] := hl
  obtain ⟨⟨v0, hro, hvb⟩, hN, hSh, hSc, hPk, ⟨F1, hF1⟩, F2, hF2⟩ := id hX
  obtain ⟨hm1, hm40, hZ, hBt, hpk16, hpkb, hpk9, hsn⟩ := id hO
  obtain ⟨⟨n32, nho, -⟩, -⟩ := id hN
  obtain ⟨⟨p1, p2, hpo, -⟩, -⟩ := id hPk
  obtain ⟨hso, -⟩ := id hSh
  refine lv_aload_n F.1 F.2.1 d_LR_weight_0 rfl (lv_at hl 0 rfl) ?_
  refine lv_iload_n F.1 F.2.1 d_LR_weight_1 rfl (lv_at hl 1 rfl) ?_
  refine qx_callv hW (qx_cV (As := [.int x]) (rest := []) F hW hst cs_LR_171 hd_LR_needPacket rfl (by omega) hro (k_LR_needPacket l D τ A ad N w hlt hb v0 hro (X.sn % 16) X.pk X.P X.G X.U hPk x) rfl rfl ⟨by decide, by decide⟩ rfl hl.1 rfl (Nat.le_of_ble_eq_true rfl) d_LR_weight_2 ⟨Nat.le_of_ble_eq_true rfl, Nat.le_of_ble_eq_true rfl⟩) (fun E9 ce9 q9 wx Hx locsx hpx hWx h1x h2x h3x => qx_out hWx hout hlk h1x h2x h3x (by obtain ⟨e1, e2, e3⟩ := hpx; subst e2; subst e1; exact ⟨⟨rfl, ⟨rfl, Or.inl ⟨rfl, e3⟩⟩⟩, hX, fun _ _ => rfl⟩) (Nat.le_of_ble_eq_true rfl) (Nat.le_of_ble_eq_true rfl)) (fun w1 H1 locs1 hp1 hW1 => ?_)
  obtain ⟨hq1, hp1⟩ := hp1
  replace hq1 := hq1.symm
  subst hq1
  obtain ⟨a, hxa⟩ : ∃ a : Nat, x.toInt = (a : Int) := ⟨x.toInt.toNat, by omega⟩
  have hpk17 : X.pk ≤ 16 := by rw [hpk16]; split <;> omega
  refine lv_aload_n F.1 F.2.1 d_LR_weight_5 rfl (lv_at hl 0 rfl) ?_
  refine gf_LR_26 F hW1 (by omega) hro d_LR_weight_6 ?_
  refine lv_iload_n F.1 F.2.1 d_LR_weight_9 rfl (lv_at hl 1 rfl) ?_
  refine q_calli hW1 (q_cV (As := [.int x]) (rest := []) F hW1 cs_LR_188 hd_Pa_weighed rfl (by omega) hpo (k_Pa_weighed l D τ A ad N w hb (X.sn % 16) X.pk X.P X.G X.U hPk x a hxa (by omega)) rfl rfl ⟨by decide, by decide⟩ rfl hl.1 rfl (Nat.le_of_ble_eq_true rfl) d_LR_weight_10 ⟨Nat.le_of_ble_eq_true rfl, Nat.le_of_ble_eq_true rfl⟩) (fun v2 w2 H2 locs2 hp2 hW2 => ?_)
  obtain ⟨hq2, hp2⟩ := hp2
  replace hq2 := hq2.symm
  subst hq2
  exact qx_iret F hr hlk hW2 (⟨X, ⟨rfl, Or.inr ⟨rfl, hp1, by rw [hxa]; simp only [Int.toNat_natCast]; exact hp2⟩⟩, hX, fun _ _ => rfl⟩) (Nat.le_of_ble_eq_true rfl) (Nat.le_of_ble_eq_true rfl) d_LR_weight_13
set_option maxHeartbeats 4000000 in
set_option maxRecDepth 100000 in
/-- distance -/
theorem k_LR_distance (l : Launch) (D : va_G) (τ : Nat → ClassId) (A : Nat → Prop) (ad : Nat → Nat) (N : Nat) (w : Nat → va_E) (hlt : l.stackTraces = false) (hb : 469 ≤ N) (X : zSt) (B : Nat) (hX : qLR τ ad w X) (hO : zOK X B) (hB9 : B ≤ 1000) (x y : Int32) : vx_Met l y_LR_distance (qws y_LR_distance c_LR_distance 3 (some .int)) ({ frames := 8, cells := 5, slots := 30, locals := 150 }) (qPx D τ A ad N w [.ref (ad 0), .int x, .int y]) (va_Qi (fun r1 w1 => ∃ X9, zR_distance X x.toInt y.toInt 0 r1.toInt X9 ∧ qLR τ ad w1 X9 ∧ (∀ q, 469 ≤ q → w1 q = w q)) (qB D τ A ad N) A) (qXC D τ A ad N (fun E w1 => ((E = xIO ∧ zR_distance X x.toInt y.toInt 1 0 X)) ∧ qLR τ ad w1 X ∧ (∀ q, 469 ≤ q → w1 q = w q))) 5 30 A := by
  refine qx_of (by decide) (Nat.le_of_ble_eq_true rfl) rfl ?_
  intro PP EE s MM below meth CC ls F hr hlk hout hl hW hst
  have hl : lv_has ls 3 [(0, .ref (ad 0)), (1, .int x), (2, .int y)] := hl
  obtain ⟨⟨v0, hro, hvb⟩, hN, hSh, hSc, hPk, ⟨F1, hF1⟩, F2, hF2⟩ := id hX
  obtain ⟨hm1, hm40, hZ, hBt, hpk16, hpkb, hpk9, hsn⟩ := id hO
  obtain ⟨⟨n32, nho, -⟩, -⟩ := id hN
  obtain ⟨⟨p1, p2, hpo, -⟩, -⟩ := id hPk
  obtain ⟨hso, -⟩ := id hSh
  refine lv_aload_n F.1 F.2.1 d_LR_distance_0 rfl (lv_at hl 0 rfl) ?_
  refine lv_iload_n F.1 F.2.1 d_LR_distance_1 rfl (lv_at hl 1 rfl) ?_
  refine qx_callv hW (qx_cV (As := [.int x]) (rest := []) F hW hst cs_LR_54 hd_LR_needNode rfl (by omega) hro (k_LR_needNode l D τ A ad N w hlt hb v0 hro X.n X.bh X.wt hN x) rfl rfl ⟨by decide, by decide⟩ rfl hl.1 rfl (Nat.le_of_ble_eq_true rfl) d_LR_distance_2 ⟨Nat.le_of_ble_eq_true rfl, Nat.le_of_ble_eq_true rfl⟩) (fun E9 ce9 q9 wx Hx locsx hpx hWx h1x h2x h3x => qx_out hWx hout hlk h1x h2x h3x (by obtain ⟨e1, e2, e3⟩ := hpx; subst e2; subst e1; exact ⟨⟨rfl, ⟨rfl, Or.inl ⟨rfl, fun q => e3 q.1⟩⟩⟩, hX, fun _ _ => rfl⟩) (Nat.le_of_ble_eq_true rfl) (Nat.le_of_ble_eq_true rfl)) (fun w1 H1 locs1 hp1 hW1 => ?_)
  obtain ⟨hq1, hp1⟩ := hp1
  replace hq1 := hq1.symm
  subst hq1
  refine lv_aload_n F.1 F.2.1 d_LR_distance_5 rfl (lv_at hl 0 rfl) ?_
  refine lv_iload_n F.1 F.2.1 d_LR_distance_6 rfl (lv_at hl 2 rfl) ?_
  refine qx_callv hW1 (qx_cV (As := [.int y]) (rest := []) F hW1 hst cs_LR_54 hd_LR_needNode rfl (by omega) hro (k_LR_needNode l D τ A ad N w hlt hb v0 hro X.n X.bh X.wt hN y) rfl rfl ⟨by decide, by decide⟩ rfl hl.1 rfl (Nat.le_of_ble_eq_true rfl) d_LR_distance_7 ⟨Nat.le_of_ble_eq_true rfl, Nat.le_of_ble_eq_true rfl⟩) (fun E9 ce9 q9 wx Hx locsx hpx hWx h1x h2x h3x => qx_out hWx hout hlk h1x h2x h3x (by obtain ⟨e1, e2, e3⟩ := hpx; subst e2; subst e1; exact ⟨⟨rfl, ⟨rfl, Or.inl ⟨rfl, fun q => e3 q.2⟩⟩⟩, hX, fun _ _ => rfl⟩) (Nat.le_of_ble_eq_true rfl) (Nat.le_of_ble_eq_true rfl)) (fun w2 H2 locs2 hp2 hW2 => ?_)
  obtain ⟨hq2, hp2⟩ := hp2
  replace hq2 := hq2.symm
  subst hq2
  obtain ⟨a, hxa⟩ : ∃ a : Nat, x.toInt = (a : Int) := ⟨x.toInt.toNat, by omega⟩
  obtain ⟨c, hxc⟩ : ∃ c : Nat, y.toInt = (c : Int) := ⟨y.toInt.toNat, by omega⟩
  refine lv_aload_n F.1 F.2.1 d_LR_distance_10 rfl (lv_at hl 0 rfl) ?_
  refine gf_LR_10 F hW2 (by omega) hro d_LR_distance_11 ?_
  refine lv_iload_n F.1 F.2.1 d_LR_distance_14 rfl (lv_at hl 1 rfl) ?_
  refine lv_aload_n F.1 F.2.1 d_LR_distance_15 rfl (lv_at hl 0 rfl) ?_
  refine gf_LR_30 F hW2 (by omega) hro d_LR_distance_16 ?_
  refine lv_aload_n F.1 F.2.1 d_LR_distance_19 rfl (lv_at hl 0 rfl) ?_
  refine gf_LR_34 F hW2 (by omega) hro d_LR_distance_20 ?_
  refine q_calli hW2 (q_cV (As := [.int x, .ref (ad 467), .ref (ad 468)]) (rest := []) F hW2 cs_LR_96 hd_Ne_spread rfl (by omega) nho (k_Ne_spread l D τ A ad N w 1 (by omega) X.n X.bh X.wt hN 467 468 (by omega) (by omega) (by omega) (by omega) (by omega) F1 F2 hF1 hF2 X.n rfl hm40 X.Wt hZ x a hxa (by omega)) rfl rfl ⟨by decide, by decide⟩ rfl hl.1 rfl (Nat.le_of_ble_eq_true rfl) d_LR_distance_23 ⟨Nat.le_of_ble_eq_true rfl, Nat.le_of_ble_eq_true rfl⟩) (fun v3 w3 H3 locs3 hp3 hW3 => ?_)
  obtain ⟨⟨r1, Fa, O9, hr1, hr1m, hF1n, ⟨G1, hF2n, -⟩, hzl, hzo, hall1⟩, hfr3⟩ := hp3
  clear hF1 hF2
  replace hfr3 : ∀ q, (q ≠ 467 ∧ q ≠ 468) → w3 q = w q := fun q hq => hfr3 q hq.1 hq.2
  replace hro := (hfr3 _ (by omega)).trans hro
  replace hSh := hSh.keep (fun q h1 h2 => hfr3 _ (by omega))
  replace hPk := hPk.keep (fun q h1 h2 => hfr3 _ (by omega))
  replace hN := hN.keep (fun q h1 h2 => hfr3 _ (by omega))
  refine lv_pop F.1 F.2.1 d_LR_distance_26 rfl ?_
  refine lv_aload_n F.1 F.2.1 d_LR_distance_27 rfl (lv_at hl 0 rfl) ?_
  refine gf_LR_30 F hW3 (by omega) hro d_LR_distance_28 ?_
  refine lv_iload_n F.1 F.2.1 d_LR_distance_31 rfl (lv_at hl 2 rfl) ?_
  refine q_iald F hW3 hF1n (by omega) c (by omega) (by omega) d_LR_distance_32 (fun v4 hv4 => ?_)
  have h9 := zl_eq hZ.1 (show a < X.n by omega) hzl (show c < X.n by omega)
  rw [← hv4] at h9
  have h8 : (zd X.n X.Wt a c < 1000000 ∧ v4.toInt = zd X.n X.Wt a c) ∨ (¬ zd X.n X.Wt a c < 1000000 ∧ v4.toInt = -1) := by
    by_cases e : zd X.n X.Wt a c < 1000000
    · rw [if_pos e] at h9; exact Or.inl ⟨e, h9⟩
    · rw [if_neg e] at h9; exact Or.inr ⟨e, h9⟩
  exact qx_iret F hr hlk hW3 (⟨X, ⟨rfl, Or.inr ⟨rfl, ⟨hp1, hp2⟩, by rw [hxa, hxc]; simp only [Int.toNat_natCast]; exact h8⟩⟩, ⟨⟨v0, hro, hvb⟩, hN, hSh, fun b => (hSc b).keep (fun q _ _ => hfr3 q (by omega)), hPk, ⟨_, hF1n⟩, _, hF2n⟩, fun q hq => hfr3 q (by omega)⟩) (Nat.le_of_ble_eq_true rfl) (Nat.le_of_ble_eq_true rfl) d_LR_distance_33
set_option maxHeartbeats 4000000 in
set_option maxRecDepth 100000 in
/-- walk -/
theorem k_LR_walk (l : Launch) (D : va_G) (τ : Nat → ClassId) (A : Nat → Prop) (ad : Nat → Nat) (N : Nat) (w : Nat → va_E) (hlt : l.stackTraces = false) (hb : 469 ≤ N) (X : zSt) (B : Nat) (hX : qLR τ ad w X) (hO : zOK X B) (hB9 : B ≤ 1000) (x y z : Int32) : vx_Met l y_LR_walk (qws y_LR_walk c_LR_walk 4 (some .int)) ({ frames := 8, cells := 5, slots := 30, locals := 150 }) (qPx D τ A ad N w [.ref (ad 0), .int x, .int y, .int z]) (va_Qi (fun r1 w1 => ∃ X9, zR_walk X x.toInt y.toInt z.toInt 0 r1.toInt X9 ∧ qLR τ ad w1 X9 ∧ (∀ q, 469 ≤ q → w1 q = w q)) (qB D τ A ad N) A) (qXC D τ A ad N (fun E w1 => ((E = xIS ∧ zR_walk X x.toInt y.toInt z.toInt 1 0 X) ∨ (E = xIO ∧ zR_walk X x.toInt y.toInt z.toInt 2 0 X)) ∧ qLR τ ad w1 X ∧ (∀ q, 469 ≤ q → w1 q = w q))) 5 30 A := by
  refine qx_of (by decide) (Nat.le_of_ble_eq_true rfl) rfl ?_
  intro PP EE s MM below meth CC ls F hr hlk hout hl hW hst
  have hl : lv_has ls 4 [(0, .ref (ad 0)), (1, .int x), (2, .int y), (3, .int z)] := hl
  obtain ⟨⟨v0, hro, hvb⟩, hN, hSh, hSc, hPk, ⟨F1, hF1⟩, F2, hF2⟩ := id hX
  obtain ⟨hm1, hm40, hZ, hBt, hpk16, hpkb, hpk9, hsn⟩ := id hO
  obtain ⟨⟨n32, nho, -⟩, -⟩ := id hN
  obtain ⟨⟨p1, p2, hpo, -⟩, -⟩ := id hPk
  obtain ⟨hso, -⟩ := id hSh
  refine lv_aload_n F.1 F.2.1 d_LR_walk_0 rfl (lv_at hl 0 rfl) ?_
  refine qx_callv hW (qx_cV (As := []) (rest := []) F hW hst cs_LR_119 hd_LR_needBuilt rfl (by omega) hro (k_LR_needBuilt l D τ A ad N w hlt hb v0 hro X.bt hvb) rfl rfl ⟨by decide, by decide⟩ rfl hl.1 rfl (Nat.le_of_ble_eq_true rfl) d_LR_walk_1 ⟨Nat.le_of_ble_eq_true rfl, Nat.le_of_ble_eq_true rfl⟩) (fun E9 ce9 q9 wx Hx locsx hpx hWx h1x h2x h3x => qx_out hWx hout hlk h1x h2x h3x (by obtain ⟨e1, e2, e3⟩ := hpx; subst e2; subst e1; exact ⟨Or.inl (⟨rfl, ⟨rfl, Or.inl ⟨rfl, e3⟩⟩⟩), hX, fun _ _ => rfl⟩) (Nat.le_of_ble_eq_true rfl) (Nat.le_of_ble_eq_true rfl)) (fun w1 H1 locs1 hp1 hW1 => ?_)
  obtain ⟨hq1, hp1⟩ := hp1
  replace hq1 := hq1.symm
  subst hq1
  have hbt : X.bt := hp1
  have hS := hSc hbt
  have hB := hBt hbt
  obtain ⟨so, hNo, ⟨od, hY⟩, ⟨S, Bl, Cl, Ow, IB, hL, hS40, hSm, hOw, hCl⟩, ⟨Pl, Sz, Hv, Lt, Pa, hF, hTr⟩, Lb, hG, hLb⟩ := id hS
  obtain ⟨-, -, hZo, hallo, hmk1, hmk2⟩ := id hB
  obtain ⟨fo, -⟩ := id hF
  obtain ⟨lao, -⟩ := id hL
  have hcn : zc (fun i => S.testBit i = true) 40 = zc X.mk X.n := zc_bits hSm hmk1 hm40
  refine lv_aload_n F.1 F.2.1 d_LR_walk_4 rfl (lv_at hl 0 rfl) ?_
  refine lv_iload_n F.1 F.2.1 d_LR_walk_5 rfl (lv_at hl 1 rfl) ?_
  refine qx_callv hW1 (qx_cV (As := [.int x]) (rest := []) F hW1 hst cs_LR_54 hd_LR_needNode rfl (by omega) hro (k_LR_needNode l D τ A ad N w hlt hb v0 hro X.n X.bh X.wt hN x) rfl rfl ⟨by decide, by decide⟩ rfl hl.1 rfl (Nat.le_of_ble_eq_true rfl) d_LR_walk_6 ⟨Nat.le_of_ble_eq_true rfl, Nat.le_of_ble_eq_true rfl⟩) (fun E9 ce9 q9 wx Hx locsx hpx hWx h1x h2x h3x => qx_out hWx hout hlk h1x h2x h3x (by obtain ⟨e1, e2, e3⟩ := hpx; subst e2; subst e1; exact ⟨Or.inr (⟨rfl, ⟨rfl, Or.inr ⟨hbt, Or.inl ⟨rfl, fun q => e3 q.1⟩⟩⟩⟩), hX, fun _ _ => rfl⟩) (Nat.le_of_ble_eq_true rfl) (Nat.le_of_ble_eq_true rfl)) (fun w2 H2 locs2 hp2 hW2 => ?_)
  obtain ⟨hq2, hp2⟩ := hp2
  replace hq2 := hq2.symm
  subst hq2
  refine lv_aload_n F.1 F.2.1 d_LR_walk_9 rfl (lv_at hl 0 rfl) ?_
  refine lv_iload_n F.1 F.2.1 d_LR_walk_10 rfl (lv_at hl 2 rfl) ?_
  refine qx_callv hW2 (qx_cV (As := [.int y]) (rest := []) F hW2 hst cs_LR_54 hd_LR_needNode rfl (by omega) hro (k_LR_needNode l D τ A ad N w hlt hb v0 hro X.n X.bh X.wt hN y) rfl rfl ⟨by decide, by decide⟩ rfl hl.1 rfl (Nat.le_of_ble_eq_true rfl) d_LR_walk_11 ⟨Nat.le_of_ble_eq_true rfl, Nat.le_of_ble_eq_true rfl⟩) (fun E9 ce9 q9 wx Hx locsx hpx hWx h1x h2x h3x => qx_out hWx hout hlk h1x h2x h3x (by obtain ⟨e1, e2, e3⟩ := hpx; subst e2; subst e1; exact ⟨Or.inr (⟨rfl, ⟨rfl, Or.inr ⟨hbt, Or.inl ⟨rfl, fun q => e3 q.2.1⟩⟩⟩⟩), hX, fun _ _ => rfl⟩) (Nat.le_of_ble_eq_true rfl) (Nat.le_of_ble_eq_true rfl)) (fun w3 H3 locs3 hp3 hW3 => ?_)
  obtain ⟨hq3, hp3⟩ := hp3
  replace hq3 := hq3.symm
  subst hq3
  refine lv_aload_n F.1 F.2.1 d_LR_walk_14 rfl (lv_at hl 0 rfl) ?_
  refine lv_iload_n F.1 F.2.1 d_LR_walk_15 rfl (lv_at hl 3 rfl) ?_
  refine q_iconst F d_LR_walk_16 (by decide) (fun v4 hv4 => ?_)
  refine qx_callv hW3 (qx_cV (As := [.int z, .int v4]) (rest := []) F hW3 hst cs_LR_88 hd_LR_needBelow rfl (by omega) hro (k_LR_needBelow l D τ A ad N w hlt z v4) rfl rfl ⟨by decide, by decide⟩ rfl hl.1 rfl (Nat.le_of_ble_eq_true rfl) d_LR_walk_17 ⟨Nat.le_of_ble_eq_true rfl, Nat.le_of_ble_eq_true rfl⟩) (fun E9 ce9 q9 wx Hx locsx hpx hWx h1x h2x h3x => qx_out hWx hout hlk h1x h2x h3x (by obtain ⟨e1, e2, e3⟩ := hpx; subst e2; subst e1; exact ⟨Or.inr (⟨rfl, ⟨rfl, Or.inr ⟨hbt, Or.inl ⟨rfl, fun q => e3 ⟨q.2.2.1, by have := q.2.2.2; omega⟩⟩⟩⟩⟩), hX, fun _ _ => rfl⟩) (Nat.le_of_ble_eq_true rfl) (Nat.le_of_ble_eq_true rfl)) (fun w5 H5 locs5 hp5 hW5 => ?_)
  obtain ⟨hq5, hp5⟩ := hp5
  replace hq5 := hq5.symm
  subst hq5
  obtain ⟨a, hxa⟩ : ∃ a : Nat, x.toInt = (a : Int) := ⟨x.toInt.toNat, by omega⟩
  obtain ⟨c, hxc⟩ : ∃ c : Nat, y.toInt = (c : Int) := ⟨y.toInt.toNat, by omega⟩
  have hok : zn X x.toInt ∧ zn X y.toInt ∧ 0 ≤ z.toInt ∧ z.toInt < 3 := ⟨hp2, hp3, hp5.1, by omega⟩
  refine lv_iload_n F.1 F.2.1 d_LR_walk_20 rfl (lv_at hl 3 rfl) ?_
  have hz9 : z.toInt = 0 ∨ z.toInt = 1 ∨ z.toInt = 2 := by omega
  rcases hz9 with hz9 | hz9 | hz9
  · refine lv_lookup (tgt := 48) F.1 F.2.1 d_LR_walk_21 (by decide) (by rw [hz9]) (by decide) ?_
    refine lv_aload_n F.1 F.2.1 d_LR_walk_48 rfl (lv_at hl 0 rfl) ?_
    refine gf_LR_19 F hW5 (by omega) hro d_LR_walk_49 ?_
    refine lv_iload_n F.1 F.2.1 d_LR_walk_52 rfl (lv_at hl 1 rfl) ?_
    refine lv_iload_n F.1 F.2.1 d_LR_walk_53 rfl (lv_at hl 2 rfl) ?_
    refine q_iconst F d_LR_walk_54 (by decide) (fun v6 hv6 => ?_)
    refine q_calli hW5 (q_cV (As := [.int x, .int y, .int v6]) (rest := []) F hW5 cs_LR_191 hd_Sc_wayTotal rfl (by omega) so (k_Sc_wayTotal l D τ A ad N w hb X.n X.bo X.wo X.Wo X.mk hS hB x y a c hxa hxc (by omega) (by omega) v6) rfl rfl ⟨by decide, by decide⟩ rfl hl.1 rfl (Nat.le_of_ble_eq_true rfl) d_LR_walk_55 ⟨Nat.le_of_ble_eq_true rfl, Nat.le_of_ble_eq_true rfl⟩) (fun v7 w7 H7 locs7 hp7 hW7 => ?_)
    obtain ⟨hq7, hp7⟩ := hp7
    replace hq7 := hq7.symm
    subst hq7
    rw [hv6] at hp7
    exact qx_iret F hr hlk hW7 (⟨X, ⟨rfl, Or.inr ⟨hbt, Or.inr ⟨rfl, hok, Or.inl (⟨hz9, by rw [hxa, hxc]; simp only [Int.toNat_natCast]; exact hp7⟩)⟩⟩⟩, hX, fun _ _ => rfl⟩) (Nat.le_of_ble_eq_true rfl) (Nat.le_of_ble_eq_true rfl) d_LR_walk_58
  · refine lv_lookup (tgt := 59) F.1 F.2.1 d_LR_walk_21 (by decide) (by rw [hz9]) (by decide) ?_
    refine lv_aload_n F.1 F.2.1 d_LR_walk_59 rfl (lv_at hl 0 rfl) ?_
    refine gf_LR_19 F hW5 (by omega) hro d_LR_walk_60 ?_
    refine lv_iload_n F.1 F.2.1 d_LR_walk_63 rfl (lv_at hl 1 rfl) ?_
    refine lv_iload_n F.1 F.2.1 d_LR_walk_64 rfl (lv_at hl 2 rfl) ?_
    refine q_iconst F d_LR_walk_65 (by decide) (fun v8 hv8 => ?_)
    refine q_calli hW5 (q_cV (As := [.int x, .int y, .int v8]) (rest := []) F hW5 cs_LR_191 hd_Sc_wayTotal rfl (by omega) so (k_Sc_wayTotal l D τ A ad N w hb X.n X.bo X.wo X.Wo X.mk hS hB x y a c hxa hxc (by omega) (by omega) v8) rfl rfl ⟨by decide, by decide⟩ rfl hl.1 rfl (Nat.le_of_ble_eq_true rfl) d_LR_walk_66 ⟨Nat.le_of_ble_eq_true rfl, Nat.le_of_ble_eq_true rfl⟩) (fun v9 w9 H9 locs9 hp9 hW9 => ?_)
    obtain ⟨hq9, hp9⟩ := hp9
    replace hq9 := hq9.symm
    subst hq9
    rw [hv8] at hp9
    exact qx_iret F hr hlk hW9 (⟨X, ⟨rfl, Or.inr ⟨hbt, Or.inr ⟨rfl, hok, Or.inr (Or.inl (⟨hz9, by rw [hxa, hxc]; simp only [Int.toNat_natCast]; exact hp9⟩))⟩⟩⟩, hX, fun _ _ => rfl⟩) (Nat.le_of_ble_eq_true rfl) (Nat.le_of_ble_eq_true rfl) d_LR_walk_69
  · refine lv_lookup (tgt := 70) F.1 F.2.1 d_LR_walk_21 (by decide) (by rw [hz9]) (by decide) ?_
    refine lv_aload_n F.1 F.2.1 d_LR_walk_70 rfl (lv_at hl 0 rfl) ?_
    refine gf_LR_19 F hW5 (by omega) hro d_LR_walk_71 ?_
    refine lv_iload_n F.1 F.2.1 d_LR_walk_74 rfl (lv_at hl 1 rfl) ?_
    refine lv_iload_n F.1 F.2.1 d_LR_walk_75 rfl (lv_at hl 2 rfl) ?_
    refine q_calli hW5 (q_cV (As := [.int x, .int y]) (rest := []) F hW5 cs_LR_195 hd_Sc_wayStretch rfl (by omega) so (k_Sc_wayStretch l D τ A ad N w hb X.n X.bo X.wo X.Wo X.mk hS hB x y a c hxa hxc (by omega) (by omega)) rfl rfl ⟨by decide, by decide⟩ rfl hl.1 rfl (Nat.le_of_ble_eq_true rfl) d_LR_walk_76 ⟨Nat.le_of_ble_eq_true rfl, Nat.le_of_ble_eq_true rfl⟩) (fun v10 w10 H10 locs10 hp10 hW10 => ?_)
    obtain ⟨hq10, hp10⟩ := hp10
    replace hq10 := hq10.symm
    subst hq10
    exact qx_iret F hr hlk hW10 (⟨X, ⟨rfl, Or.inr ⟨hbt, Or.inr ⟨rfl, hok, Or.inr (Or.inr (⟨hz9, by rw [hxa, hxc]; simp only [Int.toNat_natCast]; exact hp10⟩))⟩⟩⟩, hX, fun _ _ => rfl⟩) (Nat.le_of_ble_eq_true rfl) (Nat.le_of_ble_eq_true rfl) d_LR_walk_79
