theorem zt_ns {n m a : Nat} {par : Nat → Int} {rk : Nat → Nat} (h : zt_ok n m par rk) (ha : a < n) : par a ≠ (a : Int) := by
  intro z
  by_cases e : a = m
  · have := h.2.1
    rw [← e] at this
    omega
  · obtain ⟨q, q1, q2, q3⟩ := h.2.2.1 a ha e
    have : q = a := by omega
    subst this
    omega
theorem zpl_of_none {m x : Nat} {par : Nat → Int} {P L : Nat → Int} (h : zh m par x = -1) : zpl_of m par x P L P L := fun c hc => ⟨fun q => absurd q (zh_none h c hc), fun _ => ⟨rfl, rfl⟩⟩
theorem zpl_at_w {m x i b : Nat} {par : Nat → Int} {P L : Nat → Int} {y y' z z' : Int} (h : zpl_at m par x i P L (q_up P b y) (q_up L b z)) (hy : y' = y) (hz : z' = z) : zpl_at m par x i P L (q_up P b y') (q_up L b z') := by rw [hy, hz]; exact h
set_option maxHeartbeats 4000000 in
set_option maxRecDepth 100000 in
/-- the places of the children -/
theorem k_Fo_placeChildren (l : Launch) (D : va_G) (τ : Nat → ClassId) (A : Nat → Prop) (ad : Nat → Nat) (N : Nat) (w : Nat → va_E) (hb : 469 ≤ N) (Pl Sz Hv Lt : Nat → Nat → Int) (Pa : Nat → Int) (hF : qFor τ ad w Pl Sz Hv Lt Pa) (m : Nat) (hm40 : m ≤ 40) (n : Int) (bh wt : Nat → Nat → Int) (hN : qNet τ ad w 85 n bh wt) (hn : n = m) (Wt : Nat → Nat → Int) (od : Nat → Nat → Nat) (hY : qWay τ ad w m Wt od) (hZ : zn_ok m bh wt Wt) (x : Int32) (r : Nat) (hx : x.toInt = r) (hr9 : r < m) (hm1 : 1 ≤ m) (hall : zall m Wt) (hPa : ∀ a, a < m → Pa a = zpa m Wt r a) (hSz : ∀ a, a < m → Sz r a = (zS m (zpa m Wt r) a : Int)) (y : Int32) (a : Nat) (hy : y.toInt = a) (ha : a < m) (hHv : ∀ c, c < m → Hv r c = zh m (zpa m Wt r) c) (hbP : 0 ≤ Pl r a ∧ Pl r a ≤ 40) (hbL : 0 ≤ Lt r a ∧ Lt r a ≤ 40) : Met l y_Fo_placeChildren (qws y_Fo_placeChildren c_Fo_placeChildren 6 none) ({ frames := 1, cells := 0, slots := 0, locals := 23 }) (qPc D τ A ad N w [.ref (ad 256), .int x, .int y]) (va_Qv (fun w1 => (∃ Pr Lr, qFor τ ad w1 (q_row Pl r Pr) Sz Hv (q_row Lt r Lr) Pa ∧ zpl_of m (zpa m Wt r) a (Pl r) (Lt r) Pr Lr) ∧ (∀ q, (q < 256 ∨ 422 ≤ q) → w1 q = w q)) (qB D τ A ad N) A) 0 0 A := by
  refine q_of (by decide) (Nat.le_of_ble_eq_true rfl) rfl ?_
  intro PP EE s MM below meth CC ls F hr hlk hnm hex hl hW
  have hl : lv_has ls 6 [(0, .ref (ad 256)), (1, .int x), (2, .int y)] := hl
  obtain ⟨fo, fP, fS, fH, fL, fA⟩ := id hF
  obtain ⟨⟨l32, lho, hl32⟩, lhB, lhT⟩ := id hN
  obtain ⟨hyo, ⟨FF, hyF, hyd⟩, OO, hyO, hyo2⟩ := id hY
  have T := zpa_ok hZ.1 hall hr9
  have hxx := zt_ns T ha
  replace fP := fP.row0 (i := r)
  replace fL := fL.row0 (i := r)
  have hHa := hHv a ha
  refine lv_aload_n F.1 F.2.1 d_Fo_placeChildren_0 rfl (lv_at hl 0 rfl) ?_
  refine gf_Fo_19 F hW (by omega) fo d_Fo_placeChildren_1 ?_
  refine lv_iload_n F.1 F.2.1 d_Fo_placeChildren_4 rfl (lv_at hl 1 rfl) ?_
  refine q_aald F hW fH (by omega) r (by omega) (by omega) d_Fo_placeChildren_5 ?_
  refine lv_iload_n F.1 F.2.1 d_Fo_placeChildren_6 rfl (lv_at hl 2 rfl) ?_
  refine q_iald F hW (fH.2 r (by omega)) (by omega) a (by omega) (by omega) d_Fo_placeChildren_7 (fun v1 hv1 => ?_)
  refine lv_istore_n (lv' := [(3, .int v1), (0, .ref (ad 256)), (1, .int x), (2, .int y)]) F.1 F.2.1 d_Fo_placeChildren_8 rfl hl (by decide) rfl (fun ls2 hl2 => ?_)
  clear hl
  refine lv_iload_n F.1 F.2.1 d_Fo_placeChildren_9 rfl (lv_at hl2 0 rfl) ?_
  refine q_iconst F d_Fo_placeChildren_10 (by decide) (fun v3 hv3 => ?_)
  refine q_icmp_ne (tgt := 15) F d_Fo_placeChildren_11 (by decide) (fun c11 => ?_) (fun c11 => ?_)
  · have hz9 : zh m (zpa m Wt r) a ≠ -1 := by omega
    obtain ⟨b, hb9, hzb, hpb, -⟩ := zh_some hz9
    have hSb := hSz b hb9
    have hb0 := zbf_0 T hb9 hpb hzb
    have hle := zSx_le T ha (zbf m (zpa m Wt r) a 0)
    refine lv_aload_n F.1 F.2.1 d_Fo_placeChildren_15 rfl (lv_at hl2 1 rfl) ?_
    refine gf_Fo_11 F hW (by omega) fo d_Fo_placeChildren_16 ?_
    refine lv_iload_n F.1 F.2.1 d_Fo_placeChildren_19 rfl (lv_at hl2 2 rfl) ?_
    refine q_aald F hW fP (by omega) r (by omega) (by omega) d_Fo_placeChildren_20 ?_
    refine lv_iload_n F.1 F.2.1 d_Fo_placeChildren_21 rfl (lv_at hl2 3 rfl) ?_
    refine q_iald F hW (fP.rowI (i := r) (by omega)) (by omega) a (by omega) (by omega) d_Fo_placeChildren_22 (fun v4 hv4 => ?_)
    refine q_iconst F d_Fo_placeChildren_23 (by decide) (fun v5 hv5 => ?_)
    refine q_iadd F d_Fo_placeChildren_24 (by omega) (fun v6 hv6 => ?_)
    refine lv_istore (lv' := [(4, .int v6), (3, .int v1), (0, .ref (ad 256)), (1, .int x), (2, .int y)]) F.1 F.2.1 d_Fo_placeChildren_25 hl2 (by decide) rfl (fun ls7 hl7 => ?_)
    clear hl2
    refine lv_aload_n F.1 F.2.1 d_Fo_placeChildren_27 rfl (lv_at hl7 2 rfl) ?_
    refine gf_Fo_11 F hW (by omega) fo d_Fo_placeChildren_28 ?_
    refine lv_iload_n F.1 F.2.1 d_Fo_placeChildren_31 rfl (lv_at hl7 3 rfl) ?_
    refine q_aald F hW fP (by omega) r (by omega) (by omega) d_Fo_placeChildren_32 ?_
    refine lv_iload_n F.1 F.2.1 d_Fo_placeChildren_33 rfl (lv_at hl7 1 rfl) ?_
    refine lv_iload F.1 F.2.1 d_Fo_placeChildren_34 (lv_at hl7 0 rfl) ?_
    refine q_iast F hW (fP.rowI (i := r) (by omega)) (by omega) b (by omega) (by omega) d_Fo_placeChildren_36 (fun H8 locs8 w8 hW8 hI8 hfr8 => ?_)
    replace fo := (hfr8 _ (by omega)).trans fo
    replace lho := (hfr8 _ (by omega)).trans lho
    replace hyo := (hfr8 _ (by omega)).trans hyo
    replace hN := hN.keep (fun q h1 h2 => hfr8 _ (by omega))
    replace hY := hY.keep (fun q h1 h2 => hfr8 _ (by omega))
    replace fP := fP.row (by omega) hI8 hfr8
    replace fS := fS.keep (fun i hi => hfr8 _ (by omega))
    replace fH := fH.keep (fun i hi => hfr8 _ (by omega))
    replace fL := fL.keep (fun i hi => hfr8 _ (by omega))
    replace fA := fA.keep (hfr8 _ (by omega))
    refine lv_aload_n F.1 F.2.1 d_Fo_placeChildren_37 rfl (lv_at hl7 2 rfl) ?_
    refine gf_Fo_22 F hW8 (by omega) fo d_Fo_placeChildren_38 ?_
    refine lv_iload_n F.1 F.2.1 d_Fo_placeChildren_41 rfl (lv_at hl7 3 rfl) ?_
    refine q_aald F hW8 fL (by omega) r (by omega) (by omega) d_Fo_placeChildren_42 ?_
    refine lv_iload_n F.1 F.2.1 d_Fo_placeChildren_43 rfl (lv_at hl7 1 rfl) ?_
    refine lv_aload_n F.1 F.2.1 d_Fo_placeChildren_44 rfl (lv_at hl7 2 rfl) ?_
    refine gf_Fo_22 F hW8 (by omega) fo d_Fo_placeChildren_45 ?_
    refine lv_iload_n F.1 F.2.1 d_Fo_placeChildren_48 rfl (lv_at hl7 3 rfl) ?_
    refine q_aald F hW8 fL (by omega) r (by omega) (by omega) d_Fo_placeChildren_49 ?_
    refine lv_iload_n F.1 F.2.1 d_Fo_placeChildren_50 rfl (lv_at hl7 4 rfl) ?_
    refine q_iald F hW8 (fL.rowI (i := r) (by omega)) (by omega) a (by omega) (by omega) d_Fo_placeChildren_51 (fun v9 hv9 => ?_)
    refine q_iast F hW8 (fL.rowI (i := r) (by omega)) (by omega) b (by omega) (by omega) d_Fo_placeChildren_52 (fun H10 locs10 w10 hW10 hI10 hfr10 => ?_)
    replace fo := (hfr10 _ (by omega)).trans fo
    replace lho := (hfr10 _ (by omega)).trans lho
    replace hyo := (hfr10 _ (by omega)).trans hyo
    replace hN := hN.keep (fun q h1 h2 => hfr10 _ (by omega))
    replace hY := hY.keep (fun q h1 h2 => hfr10 _ (by omega))
    replace fP := fP.keep (fun i hi => hfr10 _ (by omega))
    replace fS := fS.keep (fun i hi => hfr10 _ (by omega))
    replace fH := fH.keep (fun i hi => hfr10 _ (by omega))
    replace fL := fL.row (by omega) hI10 hfr10
    replace fA := fA.keep (hfr10 _ (by omega))
    have hfr0 : (∀ q, (q < 256 ∨ 422 ≤ q) → w10 q = w q) := fun q hq => (hfr10 q (by omega)).trans (hfr8 q (by omega))
    refine lv_iload F.1 F.2.1 d_Fo_placeChildren_53 (lv_at hl7 0 rfl) ?_
    refine lv_aload_n F.1 F.2.1 d_Fo_placeChildren_55 rfl (lv_at hl7 2 rfl) ?_
    refine gf_Fo_16 F hW10 (by omega) fo d_Fo_placeChildren_56 ?_
    refine lv_iload_n F.1 F.2.1 d_Fo_placeChildren_59 rfl (lv_at hl7 3 rfl) ?_
    refine q_aald F hW10 fS (by omega) r (by omega) (by omega) d_Fo_placeChildren_60 ?_
    refine lv_iload_n F.1 F.2.1 d_Fo_placeChildren_61 rfl (lv_at hl7 1 rfl) ?_
    refine q_iald F hW10 (fS.2 r (by omega)) (by omega) b (by omega) (by omega) d_Fo_placeChildren_62 (fun v11 hv11 => ?_)
    refine q_iadd F d_Fo_placeChildren_63 (by omega) (fun v12 hv12 => ?_)
    refine lv_istore (lv' := [(4, .int v12), (3, .int v1), (0, .ref (ad 256)), (1, .int x), (2, .int y)]) F.1 F.2.1 d_Fo_placeChildren_64 hl7 (by decide) rfl (fun ls13 hl13 => ?_)
    clear hl7
    refine q_iconst F d_Fo_placeChildren_66 (by decide) (fun v14 hv14 => ?_)
    refine lv_istore (lv' := [(5, .int v14), (4, .int v12), (3, .int v1), (0, .ref (ad 256)), (1, .int x), (2, .int y)]) F.1 F.2.1 d_Fo_placeChildren_67 hl13 (by decide) rfl (fun ls15 hl15 => ?_)
    clear hl13
    obtain ⟨i, hi0⟩ : ∃ i : Nat, i = 0 := ⟨_, rfl⟩
    have hiv : v14.toInt = (i : Int) := by omega
    have hib : i ≤ m := by omega
    obtain ⟨wl, hwl⟩ : ∃ x : Nat → va_E, x = w10 := ⟨_, rfl⟩
    have hWl : qW D τ A s H10 locs10 ad N wl := by rw [hwl]; exact hW10
    have fo : wl 256 = .inr (0, [.ref (ad 85), .ref (ad 168), .ref (ad 257), .ref (ad 298), .ref (ad 339), .ref (ad 380), .ref (ad 421)]) := by rw [hwl]; exact fo
    have fS : q_G τ ad wl 298 40 40 Sz := by rw [hwl]; exact fS
    have fH : q_G τ ad wl 339 40 40 Hv := by rw [hwl]; exact fH
    have fA : q_I τ wl 421 40 Pa := by rw [hwl]; exact fA
    have hN : qNet τ ad wl 85 n bh wt := by rw [hwl]; exact hN
    have hY : qWay τ ad wl m Wt od := by rw [hwl]; exact hY
    have hfl : (∀ q, (q < 256 ∨ 422 ≤ q) → wl q = w q) := by rw [hwl]; exact hfr0
    have hP : ∃ Pr Lr, q_G τ ad wl 257 40 40 (q_row Pl r Pr) ∧ q_G τ ad wl 380 40 40 (q_row Lt r Lr) ∧ zpl_at m (zpa m Wt r) a i (Pl r) (Lt r) Pr Lr := ⟨_, _, by rw [hwl]; exact fP, by rw [hwl]; exact fL, by rw [hi0]; exact zpl_at_w (zpl_at_0 T hzb hpb) (by omega) (by omega)⟩
    have hpl : v12.toInt = Pl r a + 1 + (zSx m (zpa m Wt r) a (zbf m (zpa m Wt r) a i) m : Int) := by rw [hi0]; omega
    clear hi0 hv14 hwl hv12
    generalize H10 = Hl at hWl ⊢
    generalize locs10 = locsl at hWl ⊢
    obtain ⟨f, hf⟩ : ∃ f : Nat, m + 1 ≤ i + f := ⟨m + 1, by omega⟩
    induction f generalizing i v14 ls15 wl Hl locsl v12 with
    | zero => exact absurd hf (by omega)
    | succ f ihi =>
      obtain ⟨Pr, Lr, fP, fL, hPL⟩ := hP
      have hself := zpl_at_self hPL ha hxx
      obtain ⟨⟨l32, lho, hl32⟩, lhB, lhT⟩ := id hN
      obtain ⟨hyo, ⟨FF, hyF, hyd⟩, OO, hyO, hyo2⟩ := id hY
      refine lv_iload F.1 F.2.1 d_Fo_placeChildren_69 (lv_at hl15 0 rfl) ?_
      refine lv_aload_n F.1 F.2.1 d_Fo_placeChildren_71 rfl (lv_at hl15 3 rfl) ?_
      refine gf_Fo_29 F hWl (by omega) fo d_Fo_placeChildren_72 ?_
      refine q_calli hWl (q_cV (As := []) (rest := [.int v14]) F hWl cs_Fo_56 hd_Ne_size rfl (by omega) lho (k_Ne_size l D τ A ad N wl 85 (by omega) n bh wt hN) rfl rfl ⟨by decide, by decide⟩ rfl hl15.1 rfl (Nat.le_of_ble_eq_true rfl) d_Fo_placeChildren_75 ⟨Nat.le_refl _, Nat.le_refl _⟩) (fun v16 w16 H16 locs16 hp16 hW16 => ?_)
      obtain ⟨hq16, hp16⟩ := hp16
      replace hq16 := hq16.symm
      subst hq16
      refine q_icmp_ge (tgt := 148) F d_Fo_placeChildren_78 (by decide) (fun c78 => ?_) (fun c78 => ?_)
      · exact q_vret F hr hlk hW16 ⟨⟨Pr, Lr, ⟨fo, fP, fS, fH, fL, fA⟩, zpl_at_end ((show i = m by omega) ▸ hPL)⟩, hfl⟩ d_Fo_placeChildren_148
      · have hPi := hPa i (by omega)
        have hSi := hSz i (by omega)
        have hle := zSx_le T ha (zbf m (zpa m Wt r) a i)
        have hle1 := zSx_le T ha (zbf m (zpa m Wt r) a (i + 1))
        refine lv_aload_n F.1 F.2.1 d_Fo_placeChildren_81 rfl (lv_at hl15 3 rfl) ?_
        refine gf_Fo_25 F hW16 (by omega) fo d_Fo_placeChildren_82 ?_
        refine lv_iload F.1 F.2.1 d_Fo_placeChildren_85 (lv_at hl15 0 rfl) ?_
        refine q_iald F hW16 fA (by omega) i (by omega) (by omega) d_Fo_placeChildren_87 (fun v17 hv17 => ?_)
        refine lv_iload_n F.1 F.2.1 d_Fo_placeChildren_88 rfl (lv_at hl15 5 rfl) ?_
        refine q_icmp_ne (tgt := 142) F d_Fo_placeChildren_89 (by decide) (fun c89 => ?_) (fun c89 => ?_)
        · refine q_iinc (lv' := fun v18 => [(5, .int v18), (4, .int v12), (3, .int v1), (0, .ref (ad 256)), (1, .int x), (2, .int y)]) F d_Fo_placeChildren_142 hl15 (k := 0) rfl (by decide) (by omega) (by decide) (fun _ => rfl) (fun v18 lsv18 hv18 hlv18 => ?_)
          clear hl15
          refine lv_goto (tgt := 69) F.1 F.2.1 d_Fo_placeChildren_145 (by decide) ?_
          have hn9 := zbf_n (n := m) (par := zpa m Wt r) (p := a) (i := i) (Or.inl (by omega))
          exact ihi (i := i + 1) (v14 := v18) (ls15 := lsv18) (wl := wl) (Hl := H16) (locsl := locs16) (v12 := v12) (hiv := by omega) (hib := by omega) (hWl := hW16) (fo := fo) (fS := fS) (fH := fH) (fA := fA) (hN := hN) (hY := hY) (hfl := hfl) (hP := ⟨Pr, Lr, fP, fL, zpl_at_n hPL (Or.inl (by omega))⟩) (hpl := by omega) (hf := by omega) (hl15 := (lv_sub hlv18 [0, 1, 2, 3, 4, 5] rfl))
        · refine lv_iload F.1 F.2.1 d_Fo_placeChildren_92 (lv_at hl15 0 rfl) ?_
          refine lv_iload_n F.1 F.2.1 d_Fo_placeChildren_94 rfl (lv_at hl15 2 rfl) ?_
          refine q_icmp_eq (tgt := 142) F d_Fo_placeChildren_95 (by decide) (fun c95 => ?_) (fun c95 => ?_)
          · refine q_iinc (lv' := fun v19 => [(5, .int v19), (4, .int v12), (3, .int v1), (0, .ref (ad 256)), (1, .int x), (2, .int y)]) F d_Fo_placeChildren_142 hl15 (k := 0) rfl (by decide) (by omega) (by decide) (fun _ => rfl) (fun v19 lsv19 hv19 hlv19 => ?_)
            clear hl15
            refine lv_goto (tgt := 69) F.1 F.2.1 d_Fo_placeChildren_145 (by decide) ?_
            have hn9 := zbf_n (n := m) (par := zpa m Wt r) (p := a) (i := i) (Or.inr (by omega))
            exact ihi (i := i + 1) (v14 := v19) (ls15 := lsv19) (wl := wl) (Hl := H16) (locsl := locs16) (v12 := v12) (hiv := by omega) (hib := by omega) (hWl := hW16) (fo := fo) (fS := fS) (fH := fH) (fA := fA) (hN := hN) (hY := hY) (hfl := hfl) (hP := ⟨Pr, Lr, fP, fL, zpl_at_n hPL (Or.inr (by omega))⟩) (hpl := by omega) (hf := by omega) (hl15 := (lv_sub hlv19 [0, 1, 2, 3, 4, 5] rfl))
          · have hs9 := zbf_s T (show i < m by omega) (show zpa m Wt r i = (a : Int) by omega) (show (i : Int) ≠ zh m (zpa m Wt r) a by omega)
            have hbl := zbh_l (n := m) (par := zpa m Wt r) (p := a) (v := i) (by omega)
            refine lv_aload_n F.1 F.2.1 d_Fo_placeChildren_98 rfl (lv_at hl15 3 rfl) ?_
            refine gf_Fo_11 F hW16 (by omega) fo d_Fo_placeChildren_99 ?_
            refine lv_iload_n F.1 F.2.1 d_Fo_placeChildren_102 rfl (lv_at hl15 4 rfl) ?_
            refine q_aald F hW16 fP (by omega) r (by omega) (by omega) d_Fo_placeChildren_103 ?_
            refine lv_iload F.1 F.2.1 d_Fo_placeChildren_104 (lv_at hl15 0 rfl) ?_
            refine lv_iload F.1 F.2.1 d_Fo_placeChildren_106 (lv_at hl15 1 rfl) ?_
            refine q_iast F hW16 (fP.rowI (i := r) (by omega)) (by omega) i (by omega) (by omega) d_Fo_placeChildren_108 (fun H20 locs20 w20 hW20 hI20 hfr20 => ?_)
            replace fo := (hfr20 _ (by omega)).trans fo
            replace lho := (hfr20 _ (by omega)).trans lho
            replace hyo := (hfr20 _ (by omega)).trans hyo
            replace hN := hN.keep (fun q h1 h2 => hfr20 _ (by omega))
            replace hY := hY.keep (fun q h1 h2 => hfr20 _ (by omega))
            replace fP := fP.row (by omega) hI20 hfr20
            replace fS := fS.keep (fun i hi => hfr20 _ (by omega))
            replace fH := fH.keep (fun i hi => hfr20 _ (by omega))
            replace fL := fL.keep (fun i hi => hfr20 _ (by omega))
            replace fA := fA.keep (hfr20 _ (by omega))
            refine lv_aload_n F.1 F.2.1 d_Fo_placeChildren_109 rfl (lv_at hl15 3 rfl) ?_
            refine gf_Fo_22 F hW20 (by omega) fo d_Fo_placeChildren_110 ?_
            refine lv_iload_n F.1 F.2.1 d_Fo_placeChildren_113 rfl (lv_at hl15 4 rfl) ?_
            refine q_aald F hW20 fL (by omega) r (by omega) (by omega) d_Fo_placeChildren_114 ?_
            refine lv_iload F.1 F.2.1 d_Fo_placeChildren_115 (lv_at hl15 0 rfl) ?_
            refine lv_aload_n F.1 F.2.1 d_Fo_placeChildren_117 rfl (lv_at hl15 3 rfl) ?_
            refine gf_Fo_22 F hW20 (by omega) fo d_Fo_placeChildren_118 ?_
            refine lv_iload_n F.1 F.2.1 d_Fo_placeChildren_121 rfl (lv_at hl15 4 rfl) ?_
            refine q_aald F hW20 fL (by omega) r (by omega) (by omega) d_Fo_placeChildren_122 ?_
            refine lv_iload_n F.1 F.2.1 d_Fo_placeChildren_123 rfl (lv_at hl15 5 rfl) ?_
            refine q_iald F hW20 (fL.rowI (i := r) (by omega)) (by omega) a (by omega) (by omega) d_Fo_placeChildren_124 (fun v21 hv21 => ?_)
            refine q_iconst F d_Fo_placeChildren_125 (by decide) (fun v22 hv22 => ?_)
            refine q_iadd F d_Fo_placeChildren_126 (by omega) (fun v23 hv23 => ?_)
            refine q_iast F hW20 (fL.rowI (i := r) (by omega)) (by omega) i (by omega) (by omega) d_Fo_placeChildren_127 (fun H24 locs24 w24 hW24 hI24 hfr24 => ?_)
            replace fo := (hfr24 _ (by omega)).trans fo
            replace lho := (hfr24 _ (by omega)).trans lho
            replace hyo := (hfr24 _ (by omega)).trans hyo
            replace hN := hN.keep (fun q h1 h2 => hfr24 _ (by omega))
            replace hY := hY.keep (fun q h1 h2 => hfr24 _ (by omega))
            replace fP := fP.keep (fun i hi => hfr24 _ (by omega))
            replace fS := fS.keep (fun i hi => hfr24 _ (by omega))
            replace fH := fH.keep (fun i hi => hfr24 _ (by omega))
            replace fL := fL.row (by omega) hI24 hfr24
            replace fA := fA.keep (hfr24 _ (by omega))
            replace hfl : (∀ q, (q < 256 ∨ 422 ≤ q) → w24 q = w q) := fun q hq => by rw [hfr24 q (by omega), hfr20 q (by omega)]; exact hfl q hq
            refine lv_iload F.1 F.2.1 d_Fo_placeChildren_128 (lv_at hl15 1 rfl) ?_
            refine lv_aload_n F.1 F.2.1 d_Fo_placeChildren_130 rfl (lv_at hl15 3 rfl) ?_
            refine gf_Fo_16 F hW24 (by omega) fo d_Fo_placeChildren_131 ?_
            refine lv_iload_n F.1 F.2.1 d_Fo_placeChildren_134 rfl (lv_at hl15 4 rfl) ?_
            refine q_aald F hW24 fS (by omega) r (by omega) (by omega) d_Fo_placeChildren_135 ?_
            refine lv_iload F.1 F.2.1 d_Fo_placeChildren_136 (lv_at hl15 0 rfl) ?_
            refine q_iald F hW24 (fS.2 r (by omega)) (by omega) i (by omega) (by omega) d_Fo_placeChildren_138 (fun v25 hv25 => ?_)
            refine q_iadd F d_Fo_placeChildren_139 (by omega) (fun v26 hv26 => ?_)
            refine lv_istore (lv' := [(4, .int v26), (5, .int v14), (3, .int v1), (0, .ref (ad 256)), (1, .int x), (2, .int y)]) F.1 F.2.1 d_Fo_placeChildren_140 hl15 (by decide) rfl (fun ls27 hl27 => ?_)
            clear hl15
            refine q_iinc (lv' := fun v28 => [(5, .int v28), (4, .int v26), (3, .int v1), (0, .ref (ad 256)), (1, .int x), (2, .int y)]) F d_Fo_placeChildren_142 hl27 (k := 1) rfl (by decide) (by omega) (by decide) (fun _ => rfl) (fun v28 lsv28 hv28 hlv28 => ?_)
            clear hl27
            refine lv_goto (tgt := 69) F.1 F.2.1 d_Fo_placeChildren_145 (by decide) ?_
            exact ihi (i := i + 1) (v14 := v28) (ls15 := lsv28) (wl := w24) (Hl := H24) (locsl := locs24) (v12 := v26) (hiv := by omega) (hib := by omega) (hWl := hW24) (fo := fo) (fS := fS) (fH := fH) (fA := fA) (hN := hN) (hY := hY) (hfl := hfl) (hP := ⟨_, _, fP, fL, zpl_at_s hPL hzb (by omega) (by omega) (by omega) (by omega)⟩) (hpl := by omega) (hf := by omega) (hl15 := (lv_sub hlv28 [0, 1, 2, 3, 4, 5] rfl))
  · exact q_vret F hr hlk hW ⟨⟨Pl r, Lt r, ⟨fo, fP, fS, fH, fL, fA⟩, zpl_of_none (by omega)⟩, fun _ _ => rfl⟩ d_Fo_placeChildren_14
theorem q_row_self {M : Nat → Nat → Int} {i : Nat} {G : Nat → Int} : q_row M i G i = G := by funext b; exact q_row_eq
theorem q_row_row {M : Nat → Nat → Int} {i : Nat} {G G' : Nat → Int} : q_row (q_row M i G) i G' = q_row M i G' := by
  funext a b
  unfold q_row
  by_cases z : a = i <;> simp [z]
theorem zpl_0 {m r : Nat} {Wt : Nat → Nat → Int} {O : Nat → Nat} {P L : Nat → Int} (hg : zg_ok m Wt) (hall : zall m Wt) (hr : r < m) : ∀ v, v < m → (v = r ∨ ∃ j, j < 0 ∧ zpa m Wt r v = (O j : Int)) → q_up P r 0 v = zpl m (zpa m Wt r) v ∧ q_up L r 0 v = zli m (zpa m Wt r) v := by
  intro v hv h
  have T := zpa_ok hg hall hr
  rcases h with z | ⟨j, j1, -⟩
  · subst z
    unfold q_up
    rw [if_pos rfl, if_pos rfl, zpl_root T, zli_root T]
    exact ⟨rfl, rfl⟩
  · exact absurd j1 (Nat.not_lt_zero j)
theorem zpl_all {m r : Nat} {Wt : Nat → Nat → Int} {O : Nat → Nat} {P L : Nat → Int} (hg : zg_ok m Wt) (hall : zall m Wt) (hr : r < m) (ho : zo_ok m (zd m Wt r) m O) (h : ∀ v, v < m → (v = r ∨ ∃ j, j < m ∧ zpa m Wt r v = (O j : Int)) → P v = zpl m (zpa m Wt r) v ∧ L v = zli m (zpa m Wt r) v) : ∀ v, v < m → P v = zpl m (zpa m Wt r) v ∧ L v = zli m (zpa m Wt r) v := by
  intro v hv
  refine h v hv ?_
  obtain ⟨i, i1, i2⟩ := ho.2.1 v hv (by have := zd_bd hg hr hv; omega)
  rcases zpl_turn hg hall hr ho i1 with z | ⟨j, j1, j2⟩
  · exact Or.inl (by omega)
  · exact Or.inr ⟨j, by omega, by rw [← i2]; exact j2⟩
set_option maxHeartbeats 4000000 in
set_option maxRecDepth 100000 in
/-- all places -/
theorem k_Fo_givePlaces (l : Launch) (D : va_G) (τ : Nat → ClassId) (A : Nat → Prop) (ad : Nat → Nat) (N : Nat) (w : Nat → va_E) (hb : 469 ≤ N) (Pl Sz Hv Lt : Nat → Nat → Int) (Pa : Nat → Int) (hF : qFor τ ad w Pl Sz Hv Lt Pa) (m : Nat) (hm40 : m ≤ 40) (n : Int) (bh wt : Nat → Nat → Int) (hN : qNet τ ad w 85 n bh wt) (hn : n = m) (Wt : Nat → Nat → Int) (od : Nat → Nat → Nat) (hY : qWay τ ad w m Wt od) (hZ : zn_ok m bh wt Wt) (x : Int32) (r : Nat) (hx : x.toInt = r) (hr9 : r < m) (hm1 : 1 ≤ m) (hall : zall m Wt) (hPa : ∀ a, a < m → Pa a = zpa m Wt r a) (hSz : ∀ a, a < m → Sz r a = (zS m (zpa m Wt r) a : Int)) (hHv : ∀ c, c < m → Hv r c = zh m (zpa m Wt r) c) : Met l y_Fo_givePlaces (qws y_Fo_givePlaces c_Fo_givePlaces 3 none) ({ frames := 2, cells := 0, slots := 0, locals := 48 }) (qPc D τ A ad N w [.ref (ad 256), .int x]) (va_Qv (fun w1 => (∃ Pr Lr, qFor τ ad w1 (q_row Pl r Pr) Sz Hv (q_row Lt r Lr) Pa ∧ ∀ a, a < m → Pr a = zpl m (zpa m Wt r) a ∧ Lr a = zli m (zpa m Wt r) a) ∧ (∀ q, (q < 256 ∨ 422 ≤ q) → w1 q = w q)) (qB D τ A ad N) A) 0 0 A := by
  refine q_of (by decide) (Nat.le_of_ble_eq_true rfl) rfl ?_
  intro PP EE s MM below meth CC ls F hr hlk hnm hex hl hW
  have hl : lv_has ls 3 [(0, .ref (ad 256)), (1, .int x)] := hl
  obtain ⟨fo, fP, fS, fH, fL, fA⟩ := id hF
  obtain ⟨⟨l32, lho, hl32⟩, lhB, lhT⟩ := id hN
  obtain ⟨hyo, ⟨FF, hyF, hyd⟩, OO, hyO, hyo2⟩ := id hY
  have T := zpa_ok hZ.1 hall hr9
  have hO := (hyo2 r hr9).1
  replace fP := fP.row0 (i := r)
  replace fL := fL.row0 (i := r)
  refine lv_aload_n F.1 F.2.1 d_Fo_givePlaces_0 rfl (lv_at hl 0 rfl) ?_
  refine gf_Fo_11 F hW (by omega) fo d_Fo_givePlaces_1 ?_
  refine lv_iload_n F.1 F.2.1 d_Fo_givePlaces_4 rfl (lv_at hl 1 rfl) ?_
  refine q_aald F hW fP (by omega) r (by omega) (by omega) d_Fo_givePlaces_5 ?_
  refine lv_iload_n F.1 F.2.1 d_Fo_givePlaces_6 rfl (lv_at hl 1 rfl) ?_
  refine q_iconst F d_Fo_givePlaces_7 (by decide) (fun v1 hv1 => ?_)
  refine q_iast F hW (fP.rowI (i := r) (by omega)) (by omega) r (by omega) (by omega) d_Fo_givePlaces_8 (fun H2 locs2 w2 hW2 hI2 hfr2 => ?_)
  replace fo := (hfr2 _ (by omega)).trans fo
  replace lho := (hfr2 _ (by omega)).trans lho
  replace hyo := (hfr2 _ (by omega)).trans hyo
  replace hN := hN.keep (fun q h1 h2 => hfr2 _ (by omega))
  replace hY := hY.keep (fun q h1 h2 => hfr2 _ (by omega))
  replace fP := fP.row (by omega) hI2 hfr2
  replace fS := fS.keep (fun i hi => hfr2 _ (by omega))
  replace fH := fH.keep (fun i hi => hfr2 _ (by omega))
  replace fL := fL.keep (fun i hi => hfr2 _ (by omega))
  replace fA := fA.keep (hfr2 _ (by omega))
  rw [hv1] at fP
  refine lv_aload_n F.1 F.2.1 d_Fo_givePlaces_9 rfl (lv_at hl 0 rfl) ?_
  refine gf_Fo_22 F hW2 (by omega) fo d_Fo_givePlaces_10 ?_
  refine lv_iload_n F.1 F.2.1 d_Fo_givePlaces_13 rfl (lv_at hl 1 rfl) ?_
  refine q_aald F hW2 fL (by omega) r (by omega) (by omega) d_Fo_givePlaces_14 ?_
  refine lv_iload_n F.1 F.2.1 d_Fo_givePlaces_15 rfl (lv_at hl 1 rfl) ?_
  refine q_iconst F d_Fo_givePlaces_16 (by decide) (fun v3 hv3 => ?_)
  refine q_iast F hW2 (fL.rowI (i := r) (by omega)) (by omega) r (by omega) (by omega) d_Fo_givePlaces_17 (fun H4 locs4 w4 hW4 hI4 hfr4 => ?_)
  replace fo := (hfr4 _ (by omega)).trans fo
  replace lho := (hfr4 _ (by omega)).trans lho
  replace hyo := (hfr4 _ (by omega)).trans hyo
  replace hN := hN.keep (fun q h1 h2 => hfr4 _ (by omega))
  replace hY := hY.keep (fun q h1 h2 => hfr4 _ (by omega))
  replace fP := fP.keep (fun i hi => hfr4 _ (by omega))
  replace fS := fS.keep (fun i hi => hfr4 _ (by omega))
  replace fH := fH.keep (fun i hi => hfr4 _ (by omega))
  replace fL := fL.row (by omega) hI4 hfr4
  replace fA := fA.keep (hfr4 _ (by omega))
  rw [hv3] at fL
  have hfr0 : (∀ q, (q < 256 ∨ 422 ≤ q) → w4 q = w q) := fun q hq => (hfr4 q (by omega)).trans (hfr2 q (by omega))
  refine q_iconst F d_Fo_givePlaces_18 (by decide) (fun v5 hv5 => ?_)
  refine lv_istore_n (lv' := [(2, .int v5), (0, .ref (ad 256)), (1, .int x)]) F.1 F.2.1 d_Fo_givePlaces_19 rfl hl (by decide) rfl (fun ls6 hl6 => ?_)
  clear hl
  obtain ⟨i, hi0⟩ : ∃ i : Nat, i = 0 := ⟨_, rfl⟩
  have hiv : v5.toInt = (i : Int) := by omega
  have hib : i ≤ m := by omega
  obtain ⟨wl, hwl⟩ : ∃ x : Nat → va_E, x = w4 := ⟨_, rfl⟩
  have hWl : qW D τ A s H4 locs4 ad N wl := by rw [hwl]; exact hW4
  have fo : wl 256 = .inr (0, [.ref (ad 85), .ref (ad 168), .ref (ad 257), .ref (ad 298), .ref (ad 339), .ref (ad 380), .ref (ad 421)]) := by rw [hwl]; exact fo
  have fS : q_G τ ad wl 298 40 40 Sz := by rw [hwl]; exact fS
  have fH : q_G τ ad wl 339 40 40 Hv := by rw [hwl]; exact fH
  have fA : q_I τ wl 421 40 Pa := by rw [hwl]; exact fA
  have hN : qNet τ ad wl 85 n bh wt := by rw [hwl]; exact hN
  have hY : qWay τ ad wl m Wt od := by rw [hwl]; exact hY
  have hfl : (∀ q, (q < 256 ∨ 422 ≤ q) → wl q = w q) := by rw [hwl]; exact hfr0
  have hP : ∃ Pr Lr, q_G τ ad wl 257 40 40 (q_row Pl r Pr) ∧ q_G τ ad wl 380 40 40 (q_row Lt r Lr) ∧ ∀ v, v < m → (v = r ∨ ∃ j, j < i ∧ zpa m Wt r v = (od r j : Int)) → Pr v = zpl m (zpa m Wt r) v ∧ Lr v = zli m (zpa m Wt r) v := ⟨_, _, by rw [hwl]; exact fP, by rw [hwl]; exact fL, by rw [hi0]; exact zpl_0 hZ.1 hall hr9⟩
  clear hi0 hv5 hwl
  generalize H4 = Hl at hWl ⊢
  generalize locs4 = locsl at hWl ⊢
  obtain ⟨f, hf⟩ : ∃ f : Nat, m + 1 ≤ i + f := ⟨m + 1, by omega⟩
  induction f generalizing i v5 ls6 wl Hl locsl with
  | zero => exact absurd hf (by omega)
  | succ f ihi =>
    obtain ⟨Pr, Lr, fP, fL, hPL⟩ := hP
    obtain ⟨⟨l32, lho, hl32⟩, lhB, lhT⟩ := id hN
    obtain ⟨hyo, ⟨FF, hyF, hyd⟩, OO, hyO, hyo2⟩ := id hY
    refine lv_iload_n F.1 F.2.1 d_Fo_givePlaces_20 rfl (lv_at hl6 0 rfl) ?_
    refine lv_aload_n F.1 F.2.1 d_Fo_givePlaces_21 rfl (lv_at hl6 1 rfl) ?_
    refine gf_Fo_29 F hWl (by omega) fo d_Fo_givePlaces_22 ?_
    refine q_calli hWl (q_cV (As := []) (rest := [.int v5]) F hWl cs_Fo_56 hd_Ne_size rfl (by omega) lho (k_Ne_size l D τ A ad N wl 85 (by omega) n bh wt hN) rfl rfl ⟨by decide, by decide⟩ rfl hl6.1 rfl (Nat.le_of_ble_eq_true rfl) d_Fo_givePlaces_25 ⟨Nat.le_refl _, Nat.le_refl _⟩) (fun v7 w7 H7 locs7 hp7 hW7 => ?_)
    obtain ⟨hq7, hp7⟩ := hp7
    replace hq7 := hq7.symm
    subst hq7
    refine q_icmp_ge (tgt := 51) F d_Fo_givePlaces_28 (by decide) (fun c28 => ?_) (fun c28 => ?_)
    · exact q_vret F hr hlk hW7 ⟨⟨Pr, Lr, ⟨fo, fP, fS, fH, fL, fA⟩, zpl_all hZ.1 hall hr9 hO ((show i = m by omega) ▸ hPL)⟩, hfl⟩ d_Fo_givePlaces_51
    · refine lv_aload_n F.1 F.2.1 d_Fo_givePlaces_31 rfl (lv_at hl6 1 rfl) ?_
      refine lv_iload_n F.1 F.2.1 d_Fo_givePlaces_32 rfl (lv_at hl6 2 rfl) ?_
      refine lv_aload_n F.1 F.2.1 d_Fo_givePlaces_33 rfl (lv_at hl6 1 rfl) ?_
      refine gf_Fo_33 F hW7 (by omega) fo d_Fo_givePlaces_34 ?_
      refine lv_iload_n F.1 F.2.1 d_Fo_givePlaces_37 rfl (lv_at hl6 2 rfl) ?_
      refine lv_iload_n F.1 F.2.1 d_Fo_givePlaces_38 rfl (lv_at hl6 0 rfl) ?_
      refine q_calli hW7 (q_cV (As := [.int x, .int v5]) (rest := [.int x, .ref (ad 256)]) F hW7 cs_Fo_71 hd_Wa_nearest rfl (by omega) hyo (k_Wa_nearest l D τ A ad N wl hb m hm40 Wt od hY x v5 r i hx hiv hr9 (by omega)) rfl rfl ⟨by decide, by decide⟩ rfl hl6.1 rfl (Nat.le_of_ble_eq_true rfl) d_Fo_givePlaces_39 ⟨Nat.le_refl _, Nat.le_refl _⟩) (fun v8 w8 H8 locs8 hp8 hW8 => ?_)
      obtain ⟨hq8, hp8⟩ := hp8
      replace hq8 := hq8.symm
      subst hq8
      have hxm := (hO.1 i (by omega)).1
      have hx9 := hPL _ hxm (zpl_turn hZ.1 hall hr9 hO (show i < m by omega))
      have hq1 := zpl_bd T hm40 hxm
      obtain ⟨q2, hq2, hq3⟩ := zli_bd T hm40 hxm
      have hra : q_row Pl r Pr r (od r i) = Pr (od r i) := q_row_eq
      have hrb : q_row Lt r Lr r (od r i) = Lr (od r i) := q_row_eq
      refine q_callv hW8 (q_cV (As := [.int x, .int v8]) (rest := []) F hW8 cs_Fo_74 hd_Fo_placeChildren rfl (by omega) fo (k_Fo_placeChildren l D τ A ad N wl hb (q_row Pl r Pr) Sz Hv (q_row Lt r Lr) Pa ⟨fo, fP, fS, fH, fL, fA⟩ m hm40 n bh wt hN hn Wt od hY hZ x r hx hr9 hm1 hall hPa hSz v8 (od r i) hp8 hxm hHv (by omega) (by omega)) rfl rfl ⟨by decide, by decide⟩ rfl hl6.1 rfl (Nat.le_of_ble_eq_true rfl) d_Fo_givePlaces_42 ⟨Nat.le_refl _, Nat.le_refl _⟩) (fun w9 H9 locs9 hp9 hW9 => ?_)
      obtain ⟨⟨Pr1, Lr1, hF1, hpo⟩, hfr9⟩ := hp9
      rw [q_row_row, q_row_row] at hF1
      rw [q_row_self, q_row_self] at hpo
      obtain ⟨fo1, fP1, fS1, fH1, fL1, fA1⟩ := hF1
      replace hfl : (∀ q, (q < 256 ∨ 422 ≤ q) → w9 q = w q) := fun q hq => by rw [hfr9 q hq]; exact hfl q hq
      replace hN := hN.keep (fun q h1 h2 => hfr9 _ (by omega))
      replace hY := hY.keep (fun q h1 h2 => hfr9 _ (by omega))
      refine q_iinc (lv' := fun v10 => [(2, .int v10), (0, .ref (ad 256)), (1, .int x)]) F d_Fo_givePlaces_45 hl6 (k := 0) rfl (by decide) (by omega) (by decide) (fun _ => rfl) (fun v10 lsv10 hv10 hlv10 => ?_)
      clear hl6
      refine lv_goto (tgt := 20) F.1 F.2.1 d_Fo_givePlaces_48 (by decide) ?_
      exact ihi (i := i + 1) (v5 := v10) (ls6 := lsv10) (wl := w9) (Hl := H9) (locsl := locs9) (hiv := by omega) (hib := by omega) (hWl := hW9) (fo := fo1) (fS := fS1) (fH := fH1) (fA := fA1) (hN := hN) (hY := hY) (hfl := hfl) (hP := ⟨_, _, fP1, fL1, zpl_go hZ.1 hall hr9 hm40 hO (show i < m by omega) hPL hx9 hpo⟩) (hf := by omega) (hl6 := (lv_sub hlv10 [0, 1, 2] rfl))
set_option maxHeartbeats 4000000 in
set_option maxRecDepth 100000 in
/-- a tree grows -/
theorem k_Fo_grow (l : Launch) (D : va_G) (τ : Nat → ClassId) (A : Nat → Prop) (ad : Nat → Nat) (N : Nat) (w : Nat → va_E) (hb : 469 ≤ N) (Pl Sz Hv Lt : Nat → Nat → Int) (Pa : Nat → Int) (hF : qFor τ ad w Pl Sz Hv Lt Pa) (m : Nat) (hm40 : m ≤ 40) (n : Int) (bh wt : Nat → Nat → Int) (hN : qNet τ ad w 85 n bh wt) (hn : n = m) (Wt : Nat → Nat → Int) (od : Nat → Nat → Nat) (hY : qWay τ ad w m Wt od) (hZ : zn_ok m bh wt Wt) (x : Int32) (r : Nat) (hx : x.toInt = r) (hr9 : r < m) (hm1 : 1 ≤ m) (hall : zall m Wt) : Met l y_Fo_grow (qws y_Fo_grow c_Fo_grow 2 none) ({ frames := 4, cells := 0, slots := 0, locals := 91 }) (qPc D τ A ad N w [.ref (ad 256), .int x]) (va_Qv (fun w1 => (∃ Pr Sr Hr Lr Pa1, qFor τ ad w1 (q_row Pl r Pr) (q_row Sz r Sr) (q_row Hv r Hr) (q_row Lt r Lr) Pa1 ∧ ∀ a, a < m → Pr a = zpl m (zpa m Wt r) a ∧ Sr a = (zS m (zpa m Wt r) a : Int) ∧ Hr a = zh m (zpa m Wt r) a ∧ Lr a = zli m (zpa m Wt r) a) ∧ (∀ q, (q < 256 ∨ 422 ≤ q) → w1 q = w q)) (qB D τ A ad N) A) 0 0 A := by
  refine q_of (by decide) (Nat.le_of_ble_eq_true rfl) rfl ?_
  intro PP EE s MM below meth CC ls F hr hlk hnm hex hl hW
  have hl : lv_has ls 2 [(0, .ref (ad 256)), (1, .int x)] := hl
  obtain ⟨fo, -⟩ := id hF
  refine lv_aload_n F.1 F.2.1 d_Fo_grow_0 rfl (lv_at hl 0 rfl) ?_
  refine lv_iload_n F.1 F.2.1 d_Fo_grow_1 rfl (lv_at hl 1 rfl) ?_
  refine q_callv hW (q_cV (As := [.int x]) (rest := []) F hW cs_Fo_37 hd_Fo_findParents rfl (by omega) fo (k_Fo_findParents l D τ A ad N w hb Pl Sz Hv Lt Pa hF m hm40 n bh wt hN hn Wt od hY hZ x r hx hr9) rfl rfl ⟨by decide, by decide⟩ rfl hl.1 rfl (Nat.le_of_ble_eq_true rfl) d_Fo_grow_2 ⟨Nat.le_refl _, Nat.le_refl _⟩) (fun w1 H1 locs1 hp1 hW1 => ?_)
  clear hF
  obtain ⟨⟨Pa1, hF, hPa⟩, hfr1⟩ := hp1
  replace hN := hN.keep (fun q h1 h2 => hfr1 _ (by omega))
  replace hY := hY.keep (fun q h1 h2 => hfr1 _ (by omega))
  obtain ⟨fo1, -⟩ := id hF
  refine lv_aload_n F.1 F.2.1 d_Fo_grow_5 rfl (lv_at hl 0 rfl) ?_
  refine lv_iload_n F.1 F.2.1 d_Fo_grow_6 rfl (lv_at hl 1 rfl) ?_
  refine q_callv hW1 (q_cV (As := [.int x]) (rest := []) F hW1 cs_Fo_41 hd_Fo_addSizes rfl (by omega) fo1 (k_Fo_addSizes l D τ A ad N w1 hb Pl Sz Hv Lt Pa1 hF m hm40 n bh wt hN hn Wt od hY hZ x r hx hr9 hm1 hall hPa) rfl rfl ⟨by decide, by decide⟩ rfl hl.1 rfl (Nat.le_of_ble_eq_true rfl) d_Fo_grow_7 ⟨Nat.le_refl _, Nat.le_refl _⟩) (fun w2 H2 locs2 hp2 hW2 => ?_)
  clear hF
  obtain ⟨⟨Sr, hF, hSr⟩, hfr2⟩ := hp2
  replace hN := hN.keep (fun q h1 h2 => hfr2 _ (by omega))
  replace hY := hY.keep (fun q h1 h2 => hfr2 _ (by omega))
  obtain ⟨fo2, -⟩ := id hF
  refine lv_aload_n F.1 F.2.1 d_Fo_grow_10 rfl (lv_at hl 0 rfl) ?_
  refine lv_iload_n F.1 F.2.1 d_Fo_grow_11 rfl (lv_at hl 1 rfl) ?_
  have hSz : ∀ a, a < m → q_row Sz r Sr r a = (zS m (zpa m Wt r) a : Int) := fun a ha => by rw [q_row_eq]; exact hSr a ha
  refine q_callv hW2 (q_cV (As := [.int x]) (rest := []) F hW2 cs_Fo_44 hd_Fo_findHeavies rfl (by omega) fo2 (k_Fo_findHeavies l D τ A ad N w2 hb Pl (q_row Sz r Sr) Hv Lt Pa1 hF m hm40 n bh wt hN hn Wt od hY hZ x r hx hr9 hm1 hall hPa hSz) rfl rfl ⟨by decide, by decide⟩ rfl hl.1 rfl (Nat.le_of_ble_eq_true rfl) d_Fo_grow_12 ⟨Nat.le_refl _, Nat.le_refl _⟩) (fun w3 H3 locs3 hp3 hW3 => ?_)
  clear hF
  obtain ⟨⟨Hr, hF, hHr⟩, hfr3⟩ := hp3
  replace hN := hN.keep (fun q h1 h2 => hfr3 _ (by omega))
  replace hY := hY.keep (fun q h1 h2 => hfr3 _ (by omega))
  obtain ⟨fo3, -⟩ := id hF
  refine lv_aload_n F.1 F.2.1 d_Fo_grow_15 rfl (lv_at hl 0 rfl) ?_
  refine lv_iload_n F.1 F.2.1 d_Fo_grow_16 rfl (lv_at hl 1 rfl) ?_
  have hHv : ∀ a, a < m → q_row Hv r Hr r a = zh m (zpa m Wt r) a := fun a ha => by rw [q_row_eq]; exact hHr a ha
  refine q_callv hW3 (q_cV (As := [.int x]) (rest := []) F hW3 cs_Fo_47 hd_Fo_givePlaces rfl (by omega) fo3 (k_Fo_givePlaces l D τ A ad N w3 hb Pl (q_row Sz r Sr) (q_row Hv r Hr) Lt Pa1 hF m hm40 n bh wt hN hn Wt od hY hZ x r hx hr9 hm1 hall hPa hSz hHv) rfl rfl ⟨by decide, by decide⟩ rfl hl.1 rfl (Nat.le_of_ble_eq_true rfl) d_Fo_grow_17 ⟨Nat.le_refl _, Nat.le_refl _⟩) (fun w4 H4 locs4 hp4 hW4 => ?_)
  clear hF
  obtain ⟨⟨Pr, Lr, hF, hPL⟩, hfr4⟩ := hp4
  replace hN := hN.keep (fun q h1 h2 => hfr4 _ (by omega))
  replace hY := hY.keep (fun q h1 h2 => hfr4 _ (by omega))
  obtain ⟨fo4, -⟩ := id hF
  exact q_vret F hr hlk hW4 ⟨⟨Pr, Sr, Hr, Lr, Pa1, hF, fun a ha => ⟨(hPL a ha).1, hSr a ha, hHr a ha, (hPL a ha).2⟩⟩, fun q hq => by rw [hfr4 q hq, hfr3 q hq, hfr2 q hq, hfr1 q hq]⟩ d_Fo_grow_20
