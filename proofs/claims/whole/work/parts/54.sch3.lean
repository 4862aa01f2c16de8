theorem zN_lt {m most : Nat} {d : Nat → Nat → Int} {M0 : Nat → Prop} (h0 : ∀ v, M0 v → v < m) : ∀ (k v : Nat), zN m d most M0 k v → v < m := by
  intro k
  induction k with
  | zero => exact h0
  | succ k ih =>
    intro v h
    rcases (zN_s k v).mp h with q | q
    · exact ih v q
    · by_cases e : zcd m d most (zN m d most M0 k) = -1
      · omega
      · obtain ⟨b, b1, b2, -⟩ := zcd_some e
        omega
theorem zMK_lt {m bk v : Nat} {Wt : Nat → Nat → Int} (h : zMK m Wt bk v) : v < m := zN_lt (fun _ q => zM_lt q) m v h
theorem zMK_ne {m bk : Nat} {Wt : Nat → Nat → Int} (hg : zg_ok m Wt) (hm : 1 ≤ m) (hb : 1 ≤ bk) : ∃ v, zMK m Wt bk v := by
  obtain ⟨v, -, v2, -⟩ := zM_served (n := m) (ball := zbl m Wt bk) (fun a ha => zbl_self hg ha hb) 0 (by omega)
  exact ⟨v, zN_sub v2⟩
theorem zMK_Bt {m bk : Nat} {bh wt Wt : Nat → Nat → Int} (hm : 1 ≤ m) (hm40 : m ≤ 40) (hZ : zn_ok m bh wt Wt) (hall : zall m Wt) (hb : 1 ≤ bk) : zBt m bh wt Wt (zMK m Wt bk) := ⟨hm, hm40, hZ, hall, fun _ h => zMK_lt h, zMK_ne hZ.1 hm hb⟩
theorem ztre_ne {m r i : Nat} {Wt Pl Sz Hv Lt : Nat → Nat → Int} {P S H L : Nat → Int} (h : ztre m Wt r Pl Sz Hv Lt) (hne : r ≠ i) : ztre m Wt r (q_row Pl i P) (q_row Sz i S) (q_row Hv i H) (q_row Lt i L) := fun a ha => by rw [q_row_ne hne, q_row_ne hne, q_row_ne hne, q_row_ne hne]; exact h a ha
theorem ztre_eq {m i : Nat} {Wt Pl Sz Hv Lt : Nat → Nat → Int} {P S H L : Nat → Int} (h : ∀ a, a < m → P a = zpl m (zpa m Wt i) a ∧ S a = (zS m (zpa m Wt i) a : Int) ∧ H a = zh m (zpa m Wt i) a ∧ L a = zli m (zpa m Wt i) a) : ztre m Wt i (q_row Pl i P) (q_row Sz i S) (q_row Hv i H) (q_row Lt i L) := fun a ha => by rw [q_row_eq, q_row_eq, q_row_eq, q_row_eq]; exact h a ha
set_option maxHeartbeats 4000000 in
set_option maxRecDepth 100000 in
/-- all is built -/
theorem k_Sc_rebuild (l : Launch) (D : va_G) (τ : Nat → ClassId) (A : Nat → Prop) (ad : Nat → Nat) (N : Nat) (w : Nat → va_E) (hb : 469 ≤ N) (hS : qSh τ ad w) (m : Nat) (hm1 : 1 ≤ m) (hm40 : m ≤ 40) (n : Int) (bh wt Wt : Nat → Nat → Int) (hN1 : qNet τ ad w 1 n bh wt) (hn : n = m) (hZ : zn_ok m bh wt Wt) (hall : zall m Wt) (y : Int32) (bk : Nat) (hy : y.toInt = bk) (hbk : 1 ≤ bk) : Met l y_Sc_rebuild (qws y_Sc_rebuild c_Sc_rebuild 4 none) ({ frames := 5, cells := 0, slots := 0, locals := 118 }) (qPc D τ A ad N w [.ref (ad 84), .ref (ad 1), .int y]) (va_Qv (fun w1 => qSch τ ad w1 m bh wt Wt (zMK m Wt bk) ∧ (∀ q, (q < 85 ∨ 463 ≤ q) → w1 q = w q)) (qB D τ A ad N) A) 0 0 A := by
  refine q_of (by decide) (Nat.le_of_ble_eq_true rfl) rfl ?_
  intro PP EE s MM below meth CC ls F hr hlk hnm hex hl hW
  have hl : lv_has ls 4 [(0, .ref (ad 84)), (1, .ref (ad 1)), (2, .int y)] := hl
  obtain ⟨so, ⟨n0, bh0, wt0, hN0⟩, hyo, ⟨F0, hF0⟩, ⟨O0, hO0⟩, ⟨S0, Bl0, Cl0, Ow0, IB0, hL0⟩, ⟨Pl0, Sz0, Hv0, Lt0, Pa0, hF00⟩, Lb0, hG⟩ := id hS
  have hBt := zMK_Bt (bk := bk) hm1 hm40 hZ hall hbk
  obtain ⟨⟨l32, lho, -⟩, -⟩ := id hN0
  refine lv_aload_n F.1 F.2.1 d_Sc_rebuild_0 rfl (lv_at hl 0 rfl) ?_
  refine gf_Sc_12 F hW (by omega) so d_Sc_rebuild_1 ?_
  refine lv_aload_n F.1 F.2.1 d_Sc_rebuild_4 rfl (lv_at hl 1 rfl) ?_
  refine q_callv hW (q_cV (As := [.ref (ad 1)]) (rest := []) F hW cs_Sc_48 hd_Ne_copyFrom rfl (by omega) lho (k_Ne_copyFrom l D τ A ad N w 85 (by omega) n0 bh0 wt0 hN0 1 (by omega) (by omega) n bh wt hN1) rfl rfl ⟨by decide, by decide⟩ rfl hl.1 rfl (Nat.le_of_ble_eq_true rfl) d_Sc_rebuild_5 ⟨Nat.le_refl _, Nat.le_refl _⟩) (fun w1 H1 locs1 hp1 hW1 => ?_)
  obtain ⟨hN, hfr1⟩ := hp1
  replace so := (hfr1 _ (by omega)).trans so
  replace hyo := (hfr1 _ (by omega)).trans hyo
  replace hF0 := hF0.keep (fun i hi => hfr1 _ (by omega))
  replace hO0 := hO0.keep (fun i hi => hfr1 _ (by omega))
  replace hL0 := hL0.keep (fun q h1 h2 => hfr1 _ (by omega))
  replace hF00 := hF00.keep (fun q h1 h2 => hfr1 _ (by omega))
  replace hG := hG.keep (fun i hi => hfr1 _ (by omega))
  have hfa : (∀ q, (q < 85 ∨ 463 ≤ q) → w1 q = w q) := fun q hq => hfr1 q (by omega)
  refine lv_aload_n F.1 F.2.1 d_Sc_rebuild_8 rfl (lv_at hl 0 rfl) ?_
  refine gf_Sc_23 F hW1 (by omega) so d_Sc_rebuild_9 ?_
  refine q_callv hW1 (q_cV (As := []) (rest := []) F hW1 cs_Sc_51 hd_Wa_measure rfl (by omega) hyo (k_Wa_measure l D τ A ad N w1 hb m hm40 Wt hall hyo F0 O0 hF0 hO0 n bh wt hN hn hZ) rfl rfl ⟨by decide, by decide⟩ rfl hl.1 rfl (Nat.le_of_ble_eq_true rfl) d_Sc_rebuild_12 ⟨Nat.le_refl _, Nat.le_refl _⟩) (fun w2 H2 locs2 hp2 hW2 => ?_)
  obtain ⟨⟨od, hY⟩, hfr2⟩ := hp2
  replace so := (hfr2 _ (by omega)).trans so
  replace hN := hN.keep (fun q h1 h2 => hfr2 _ (by omega))
  replace hL0 := hL0.keep (fun q h1 h2 => hfr2 _ (by omega))
  replace hF00 := hF00.keep (fun q h1 h2 => hfr2 _ (by omega))
  replace hG := hG.keep (fun i hi => hfr2 _ (by omega))
  replace hfa : (∀ q, (q < 85 ∨ 463 ≤ q) → w2 q = w q) := fun q hq => (hfr2 q (by omega)).trans (hfa q hq)
  obtain ⟨lao, -⟩ := id hL0
  refine lv_aload_n F.1 F.2.1 d_Sc_rebuild_15 rfl (lv_at hl 0 rfl) ?_
  refine gf_Sc_32 F hW2 (by omega) so d_Sc_rebuild_16 ?_
  refine lv_iload_n F.1 F.2.1 d_Sc_rebuild_19 rfl (lv_at hl 2 rfl) ?_
  refine q_callv hW2 (q_cV (As := [.int y]) (rest := []) F hW2 cs_Sc_54 hd_La_choose rfl (by omega) lao (k_La_choose l D τ A ad N w2 hb S0 Bl0 Cl0 Ow0 IB0 hL0 m hm40 n bh wt hN hn hm1 Wt od hY hZ y bk hy hbk) rfl rfl ⟨by decide, by decide⟩ rfl hl.1 rfl (Nat.le_of_ble_eq_true rfl) d_Sc_rebuild_20 ⟨Nat.le_refl _, Nat.le_refl _⟩) (fun w3 H3 locs3 hp3 hW3 => ?_)
  obtain ⟨⟨S, Bl, Cl, Ow, IB, hL, hS40, hSm, hOw, hCl⟩, hfr3⟩ := hp3
  replace so := (hfr3 _ (by omega)).trans so
  replace hN := hN.keep (fun q h1 h2 => hfr3 _ (by omega))
  replace hY := hY.keep (fun q h1 h2 => hfr3 _ (by omega))
  replace hF00 := hF00.keep (fun q h1 h2 => hfr3 _ (by omega))
  replace hG := hG.keep (fun i hi => hfr3 _ (by omega))
  replace hfa : (∀ q, (q < 85 ∨ 463 ≤ q) → w3 q = w q) := fun q hq => (hfr3 q (by omega)).trans (hfa q hq)
  refine q_iconst F d_Sc_rebuild_23 (by decide) (fun v4 hv4 => ?_)
  refine lv_istore_n (lv' := [(3, .int v4), (0, .ref (ad 84)), (1, .ref (ad 1)), (2, .int y)]) F.1 F.2.1 d_Sc_rebuild_24 rfl hl (by decide) rfl (fun ls5 hl5 => ?_)
  clear hl
  clear lho lao
  obtain ⟨i, hi0⟩ : ∃ i : Nat, i = 0 := ⟨_, rfl⟩
  have hiv : v4.toInt = (i : Int) := by omega
  have hib : i ≤ m := by omega
  obtain ⟨wl, hwl⟩ : ∃ x : Nat → va_E, x = w3 := ⟨_, rfl⟩
  have hWl : qW D τ A s H3 locs3 ad N wl := by rw [hwl]; exact hW3
  have so : wl 84 = .inr (4, [.ref (ad 85), .ref (ad 168), .ref (ad 251), .ref (ad 256), .ref (ad 422)]) := by rw [hwl]; exact so
  have hN : qNet τ ad wl 85 n bh wt := by rw [hwl]; exact hN
  have hY : qWay τ ad wl m Wt od := by rw [hwl]; exact hY
  have hL : qLan τ ad wl S Bl Cl Ow IB := by rw [hwl]; exact hL
  have hG : q_G τ ad wl 422 40 5 Lb0 := by rw [hwl]; exact hG
  have hfa : (∀ q, (q < 85 ∨ 463 ≤ q) → wl q = w q) := by rw [hwl]; exact hfa
  have hF : ∃ Pl Sz Hv Lt Pa, qFor τ ad wl Pl Sz Hv Lt Pa ∧ ∀ r, r < i → zMK m Wt bk r → ztre m Wt r Pl Sz Hv Lt := ⟨_, _, _, _, _, by rw [hwl]; exact hF00, fun r h => absurd h (by omega)⟩
  clear hi0 hv4 hwl
  generalize H3 = Hl at hWl ⊢
  generalize locs3 = locsl at hWl ⊢
  obtain ⟨f, hf⟩ : ∃ f : Nat, m + 1 ≤ i + f := ⟨m + 1, by omega⟩
  induction f generalizing i v4 ls5 wl Hl locsl with
  | zero => exact absurd hf (by omega)
  | succ f ihi =>
    obtain ⟨Pl, Sz, Hv, Lt, Pa, hF, hTr⟩ := hF
    obtain ⟨⟨l32, lho, -⟩, -⟩ := id hN
    obtain ⟨lao, -⟩ := id hL
    obtain ⟨fo, -⟩ := id hF
    refine lv_iload_n F.1 F.2.1 d_Sc_rebuild_25 rfl (lv_at hl5 0 rfl) ?_
    refine lv_aload_n F.1 F.2.1 d_Sc_rebuild_26 rfl (lv_at hl5 1 rfl) ?_
    refine gf_Sc_12 F hWl (by omega) so d_Sc_rebuild_27 ?_
    refine q_calli hWl (q_cV (As := []) (rest := [.int v4]) F hWl cs_Sc_58 hd_Ne_size rfl (by omega) lho (k_Ne_size l D τ A ad N wl 85 (by omega) n bh wt hN) rfl rfl ⟨by decide, by decide⟩ rfl hl5.1 rfl (Nat.le_of_ble_eq_true rfl) d_Sc_rebuild_30 ⟨Nat.le_refl _, Nat.le_refl _⟩) (fun v6 w6 H6 locs6 hp6 hW6 => ?_)
    obtain ⟨hq6, hp6⟩ := hp6
    replace hq6 := hq6.symm
    subst hq6
    refine q_icmp_ge (tgt := 61) F d_Sc_rebuild_33 (by decide) (fun c33 => ?_) (fun c33 => ?_)
    · have hTr2 : ∀ r, zMK m Wt bk r → ztre m Wt r Pl Sz Hv Lt := fun r h => hTr r (by have := zMK_lt h; omega) h
      clear hTr lho lao fo ihi hf hib hiv
      refine q_iconst F d_Sc_rebuild_61 (by decide) (fun v7 hv7 => ?_)
      refine lv_istore_n (lv' := [(3, .int v7), (0, .ref (ad 84)), (1, .ref (ad 1)), (2, .int y)]) F.1 F.2.1 d_Sc_rebuild_62 rfl hl5 (by decide) rfl (fun ls8 hl8 => ?_)
      clear hl5
      obtain ⟨j, hj0⟩ : ∃ j : Nat, j = 0 := ⟨_, rfl⟩
      have hjv : v7.toInt = (j : Int) := by omega
      have hjb : j ≤ m := by omega
      obtain ⟨wk, hwk⟩ : ∃ x : Nat → va_E, x = wl := ⟨_, rfl⟩
      have hWk : qW D τ A s H6 locs6 ad N wk := by rw [hwk]; exact hW6
      have so : wk 84 = .inr (4, [.ref (ad 85), .ref (ad 168), .ref (ad 251), .ref (ad 256), .ref (ad 422)]) := by rw [hwk]; exact so
      have hN : qNet τ ad wk 85 n bh wt := by rw [hwk]; exact hN
      have hY : qWay τ ad wk m Wt od := by rw [hwk]; exact hY
      have hL : qLan τ ad wk S Bl Cl Ow IB := by rw [hwk]; exact hL
      have hfa : (∀ q, (q < 85 ∨ 463 ≤ q) → wk q = w q) := by rw [hwk]; exact hfa
      have hF : qFor τ ad wk Pl Sz Hv Lt Pa := by rw [hwk]; exact hF
      have hB9 : ∃ Lb, q_G τ ad wk 422 40 5 Lb ∧ ∀ a, a < j → zlab m bh Wt (zMK m Wt bk) a (Lb a) := ⟨_, by rw [hwk]; exact hG, fun r h => absurd h (by omega)⟩
      clear hj0 hv7 hwk
      generalize H6 = Hk at hWk ⊢
      generalize locs6 = locsk at hWk ⊢
      obtain ⟨g, hg⟩ : ∃ g : Nat, m + 1 ≤ j + g := ⟨m + 1, by omega⟩
      induction g generalizing j v7 ls8 wk Hk locsk with
      | zero => exact absurd hg (by omega)
      | succ g ihj =>
        obtain ⟨Lb, hG, hLb⟩ := hB9
        obtain ⟨⟨l32, lho, -⟩, -⟩ := id hN
        obtain ⟨lao, -⟩ := id hL
        refine lv_iload_n F.1 F.2.1 d_Sc_rebuild_63 rfl (lv_at hl8 0 rfl) ?_
        refine lv_aload_n F.1 F.2.1 d_Sc_rebuild_64 rfl (lv_at hl8 1 rfl) ?_
        refine gf_Sc_12 F hWk (by omega) so d_Sc_rebuild_65 ?_
        refine q_calli hWk (q_cV (As := []) (rest := [.int v7]) F hWk cs_Sc_58 hd_Ne_size rfl (by omega) lho (k_Ne_size l D τ A ad N wk 85 (by omega) n bh wt hN) rfl rfl ⟨by decide, by decide⟩ rfl hl8.1 rfl (Nat.le_of_ble_eq_true rfl) d_Sc_rebuild_68 ⟨Nat.le_refl _, Nat.le_refl _⟩) (fun v9 w9 H9 locs9 hp9 hW9 => ?_)
        obtain ⟨hq9, hp9⟩ := hp9
        replace hq9 := hq9.symm
        subst hq9
        refine q_icmp_ge (tgt := 93) F d_Sc_rebuild_71 (by decide) (fun c71 => ?_) (fun c71 => ?_)
        · exact q_vret F hr hlk hW9 ⟨⟨so, hn ▸ hN, ⟨od, hY⟩, ⟨S, Bl, Cl, Ow, IB, hL, hS40, hSm, hOw, hCl⟩, ⟨Pl, Sz, Hv, Lt, Pa, hF, hTr2⟩, Lb, hG, fun a ha => hLb a (by omega)⟩, hfa⟩ d_Sc_rebuild_93
        · refine lv_aload_n F.1 F.2.1 d_Sc_rebuild_74 rfl (lv_at hl8 1 rfl) ?_
          refine lv_iload_n F.1 F.2.1 d_Sc_rebuild_75 rfl (lv_at hl8 0 rfl) ?_
          refine lv_aload_n F.1 F.2.1 d_Sc_rebuild_76 rfl (lv_at hl8 1 rfl) ?_
          refine gf_Sc_32 F hW9 (by omega) so d_Sc_rebuild_77 ?_
          refine lv_iload_n F.1 F.2.1 d_Sc_rebuild_80 rfl (lv_at hl8 0 rfl) ?_
          refine q_calli hW9 (q_cV (As := [.int v7]) (rest := [.int v7, .ref (ad 84)]) F hW9 cs_Sc_69 hd_La_ownOf rfl (by omega) lao (k_La_ownOf l D τ A ad N wk hb S Bl Cl Ow IB hL v7 j hjv (by omega)) rfl rfl ⟨by decide, by decide⟩ rfl hl8.1 rfl (Nat.le_of_ble_eq_true rfl) d_Sc_rebuild_81 ⟨Nat.le_refl _, Nat.le_refl _⟩) (fun v10 w10 H10 locs10 hp10 hW10 => ?_)
          obtain ⟨hq10, hp10⟩ := hp10
          replace hq10 := hq10.symm
          subst hq10
          obtain ⟨r, hrm, hrow, hrk⟩ := hBt.own j
          rw [hOw j (by omega), hrow] at hp10
          refine q_callv hW10 (q_cV (As := [.int v7, .int v10]) (rest := []) F hW10 cs_Sc_73 hd_Sc_writeLabel rfl (by omega) so (k_Sc_writeLabel l D τ A ad N wk hb so Pl Sz Hv Lt Pa hF m hm40 n bh wt hN hn Wt od hY hZ hall Lb hG v7 v10 j r hjv hp10 (by omega) hrm (hTr2 r hrk)) rfl rfl ⟨by decide, by decide⟩ rfl hl8.1 rfl (Nat.le_of_ble_eq_true rfl) d_Sc_rebuild_84 ⟨Nat.le_refl _, Nat.le_refl _⟩) (fun w11 H11 locs11 hp11 hW11 => ?_)
          obtain ⟨⟨La, hG1, e0, e1, e2, e3, e4⟩, hfr11⟩ := hp11
          replace so := (hfr11 _ (by omega)).trans so
          replace hN := hN.keep (fun q h1 h2 => hfr11 _ (by omega))
          replace hY := hY.keep (fun q h1 h2 => hfr11 _ (by omega))
          replace hL := hL.keep (fun q h1 h2 => hfr11 _ (by omega))
          replace hF := hF.keep (fun q h1 h2 => hfr11 _ (by omega))
          replace hfa : (∀ q, (q < 85 ∨ 463 ≤ q) → w11 q = w q) := fun q hq => (hfr11 q (by omega)).trans (hfa q hq)
          have hLb1 : ∀ a, a < j + 1 → zlab m bh Wt (zMK m Wt bk) a (q_row Lb j La a) := by
            intro a ha
            by_cases e : a = j
            · subst e; rw [q_row_self]; unfold zlab; rw [hrow]; simp only [Int.toNat_natCast]; exact ⟨e0, e1, e2, e3, e4⟩
            · rw [show q_row Lb j La a = Lb a from funext (fun b => q_row_ne e)]; exact hLb a (by omega)
          refine q_iinc (lv' := fun v12 => [(3, .int v12), (0, .ref (ad 84)), (1, .ref (ad 1)), (2, .int y)]) F d_Sc_rebuild_87 hl8 (k := 0) rfl (by decide) (by omega) (by decide) (fun _ => rfl) (fun v12 lsv12 hv12 hlv12 => ?_)
          clear hl8
          refine lv_goto (tgt := 63) F.1 F.2.1 d_Sc_rebuild_90 (by decide) ?_
          exact ihj (j := j + 1) (v7 := v12) (ls8 := lsv12) (wk := w11) (Hk := H11) (locsk := locs11) (hjv := by omega) (hjb := by omega) (hWk := hW11) (so := so) (hN := hN) (hY := hY) (hL := hL) (hfa := hfa) (hF := hF) (hB9 := ⟨_, hG1, hLb1⟩) (hg := by omega) (hl8 := (lv_sub hlv12 [0, 1, 2, 3] rfl))
    · refine lv_aload_n F.1 F.2.1 d_Sc_rebuild_36 rfl (lv_at hl5 1 rfl) ?_
      refine gf_Sc_32 F hW6 (by omega) so d_Sc_rebuild_37 ?_
      refine lv_iload_n F.1 F.2.1 d_Sc_rebuild_40 rfl (lv_at hl5 0 rfl) ?_
      refine q_calli hW6 (q_cV (As := [.int v4]) (rest := []) F hW6 cs_Sc_62 hd_La_isLandmark rfl (by omega) lao (k_La_isLandmark l D τ A ad N wl hb S Bl Cl Ow IB hL hS40 v4 i hiv (by omega)) rfl rfl ⟨by decide, by decide⟩ rfl hl5.1 rfl (Nat.le_of_ble_eq_true rfl) d_Sc_rebuild_41 ⟨Nat.le_refl _, Nat.le_refl _⟩) (fun v13 w13 H13 locs13 hp13 hW13 => ?_)
      obtain ⟨hq13, hp13⟩ := hp13
      replace hq13 := hq13.symm
      subst hq13
      refine q_if_eq (tgt := 55) F d_Sc_rebuild_44 (by decide) (fun c44 => ?_) (fun c44 => ?_)
      · have hni : ¬ zMK m Wt bk i := fun z => qb_f hp13 (by omega) ((hSm i).mpr z)
        refine q_iinc (lv' := fun v14 => [(3, .int v14), (0, .ref (ad 84)), (1, .ref (ad 1)), (2, .int y)]) F d_Sc_rebuild_55 hl5 (k := 0) rfl (by decide) (by omega) (by decide) (fun _ => rfl) (fun v14 lsv14 hv14 hlv14 => ?_)
        clear hl5
        refine lv_goto (tgt := 25) F.1 F.2.1 d_Sc_rebuild_58 (by decide) ?_
        exact ihi (i := i + 1) (v4 := v14) (ls5 := lsv14) (wl := wl) (Hl := H13) (locsl := locs13) (hiv := by omega) (hib := by omega) (hWl := hW13) (so := so) (hN := hN) (hY := hY) (hL := hL) (hG := hG) (hfa := hfa) (hF := ⟨Pl, Sz, Hv, Lt, Pa, hF, fun r hr h => hTr r ((Nat.lt_or_ge r i).elim id (fun q => absurd ((show r = i by omega) ▸ h) hni)) h⟩) (hf := by omega) (hl5 := (lv_sub hlv14 [0, 1, 2, 3] rfl))
      · refine lv_aload_n F.1 F.2.1 d_Sc_rebuild_47 rfl (lv_at hl5 1 rfl) ?_
        refine gf_Sc_39 F hW13 (by omega) so d_Sc_rebuild_48 ?_
        refine lv_iload_n F.1 F.2.1 d_Sc_rebuild_51 rfl (lv_at hl5 0 rfl) ?_
        refine q_callv hW13 (q_cV (As := [.int v4]) (rest := []) F hW13 cs_Sc_66 hd_Fo_grow rfl (by omega) fo (k_Fo_grow l D τ A ad N wl hb Pl Sz Hv Lt Pa hF m hm40 n bh wt hN hn Wt od hY hZ v4 i hiv (by omega) hm1 hall) rfl rfl ⟨by decide, by decide⟩ rfl hl5.1 rfl (Nat.le_of_ble_eq_true rfl) d_Sc_rebuild_52 ⟨Nat.le_refl _, Nat.le_refl _⟩) (fun w15 H15 locs15 hp15 hW15 => ?_)
        obtain ⟨⟨Pr, Sr, Hr, Lr, Pa1, hF1, hnew⟩, hfr15⟩ := hp15
        replace so := (hfr15 _ (by omega)).trans so
        replace hN := hN.keep (fun q h1 h2 => hfr15 _ (by omega))
        replace hY := hY.keep (fun q h1 h2 => hfr15 _ (by omega))
        replace hL := hL.keep (fun q h1 h2 => hfr15 _ (by omega))
        replace hG := hG.keep (fun i hi => hfr15 _ (by omega))
        replace hfa : (∀ q, (q < 85 ∨ 463 ≤ q) → w15 q = w q) := fun q hq => (hfr15 q (by omega)).trans (hfa q hq)
        refine q_iinc (lv' := fun v16 => [(3, .int v16), (0, .ref (ad 84)), (1, .ref (ad 1)), (2, .int y)]) F d_Sc_rebuild_55 hl5 (k := 0) rfl (by decide) (by omega) (by decide) (fun _ => rfl) (fun v16 lsv16 hv16 hlv16 => ?_)
        clear hl5
        refine lv_goto (tgt := 25) F.1 F.2.1 d_Sc_rebuild_58 (by decide) ?_
        exact ihi (i := i + 1) (v4 := v16) (ls5 := lsv16) (wl := w15) (Hl := H15) (locsl := locs15) (hiv := by omega) (hib := by omega) (hWl := hW15) (so := so) (hN := hN) (hY := hY) (hL := hL) (hG := hG) (hfa := hfa) (hF := ⟨_, _, _, _, _, hF1, fun r hr h => (Classical.em (r = i)).elim (fun z => by rw [z]; exact ztre_eq hnew) (fun z => ztre_ne (hTr r (by omega) h) z)⟩) (hf := by omega) (hl5 := (lv_sub hlv16 [0, 1, 2, 3] rfl))
