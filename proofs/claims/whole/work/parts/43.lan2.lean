theorem q_J.congr {τ : Nat → ClassId} {w : Nat → va_E} {k n : Nat} {G G' : Nat → Nat} (h : q_J τ w k n G) (e : ∀ j, j < n → G j = G' j) : q_J τ w k n G' := by
  obtain ⟨g, h1, h2⟩ := h
  exact ⟨g, h1, fun j hj => by rw [h2 j hj, e j hj]⟩
theorem q_upN_eq {G : Nat → Nat} {j z : Nat} : q_upN G j z j = z := if_pos rfl
theorem q_upN_ne {G : Nat → Nat} {i j z : Nat} (h : i ≠ j) : q_upN G j z i = G i := if_neg h
theorem q_ex_s {P : Nat → Nat} {j v : Nat} : ((∃ u, u < j ∧ P u = v) ∨ v = P j) ↔ ∃ u, u < j + 1 ∧ P u = v := by
  constructor
  · rintro (⟨u, h1, h2⟩ | h)
    · exact ⟨u, by omega, h2⟩
    · exact ⟨j, by omega, h.symm⟩
  · rintro ⟨u, h1, h2⟩
    by_cases e : u = j
    · subst e; exact Or.inr h2.symm
    · exact Or.inl ⟨u, by omega, h2⟩
set_option maxHeartbeats 4000000 in
set_option maxRecDepth 100000 in
/-- the balls -/
theorem k_La_fillBalls (l : Launch) (D : va_G) (τ : Nat → ClassId) (A : Nat → Prop) (ad : Nat → Nat) (N : Nat) (w : Nat → va_E) (hb : 469 ≤ N) (S : Nat) (Bl Cl : Nat → Nat) (Ow IB : Nat → Int) (hL : qLan τ ad w S Bl Cl Ow IB) (m : Nat) (hm40 : m ≤ 40) (n : Int) (bh wt : Nat → Nat → Int) (hN : qNet τ ad w 85 n bh wt) (hn : n = m) (Wt : Nat → Nat → Int) (od : Nat → Nat → Nat) (hY : qWay τ ad w m Wt od) (hZ : zn_ok m bh wt Wt) (x : Int32) (bk : Nat) (hx : x.toInt = bk) : Met l y_La_fillBalls (qws y_La_fillBalls c_La_fillBalls 5 none) ({ frames := 1, cells := 0, slots := 0, locals := 22 }) (qPc D τ A ad N w [.ref (ad 251), .int x]) (va_Qv (fun w1 => (∃ Bl1, qLan τ ad w1 S Bl1 Cl Ow IB ∧ ∀ a, a < m → Bl1 a < 2 ^ 40 ∧ ∀ v, ((Bl1 a).testBit v = true ↔ zbl m Wt bk a v)) ∧ (∀ q, (q < 251 ∨ 256 ≤ q) → w1 q = w q)) (qB D τ A ad N) A) 0 0 A := by
  refine q_of (by decide) (Nat.le_of_ble_eq_true rfl) rfl ?_
  intro PP EE s MM below meth CC ls F hr hlk hnm hex hl hW
  have hl : lv_has ls 5 [(0, .ref (ad 251)), (1, .int x)] := hl
  obtain ⟨lo, lB, lC, lO, lI⟩ := id hL
  obtain ⟨⟨nn32, nho, hnn32⟩, nhB, nhT⟩ := id hN
  obtain ⟨hyo, ⟨FF, hyF, hyd⟩, OO, hyO, hyo2⟩ := id hY
  refine lv_iload_n F.1 F.2.1 d_La_fillBalls_0 rfl (lv_at hl 1 rfl) ?_
  refine lv_aload_n F.1 F.2.1 d_La_fillBalls_1 rfl (lv_at hl 0 rfl) ?_
  refine gf_La_25 F hW (by omega) lo d_La_fillBalls_2 ?_
  refine q_calli hW (q_cV (As := []) (rest := [.int x]) F hW cs_La_53 hd_Ne_size rfl (by omega) nho (k_Ne_size l D τ A ad N w 85 (by omega) n bh wt hN) rfl rfl ⟨by decide, by decide⟩ rfl hl.1 rfl (Nat.le_of_ble_eq_true rfl) d_La_fillBalls_5 ⟨Nat.le_refl _, Nat.le_refl _⟩) (fun v1 w1 H1 locs1 hp1 hW1 => ?_)
  obtain ⟨hq1, hp1⟩ := hp1
  replace hq1 := hq1.symm
  subst hq1
  refine q_min F hl.1 tw_431 (by decide) (Nat.le_of_ble_eq_true rfl) (by decide) (by decide) d_La_fillBalls_8 (fun v2 hv2 => ?_)
  obtain ⟨sz, hsz⟩ : ∃ sz : Nat, sz = (if bk < m then bk else m) := ⟨_, rfl⟩
  have hszv : v2.toInt = (sz : Int) := by split at hsz <;> split at hv2 <;> omega
  have hszm : sz ≤ m := by split at hsz <;> omega
  refine lv_istore_n (lv' := [(2, .int v2), (0, .ref (ad 251)), (1, .int x)]) F.1 F.2.1 d_La_fillBalls_11 rfl hl (by decide) rfl (fun ls3 hl3 => ?_)
  clear hl
  refine q_iconst F d_La_fillBalls_12 (by decide) (fun v4 hv4 => ?_)
  refine lv_istore_n (lv' := [(3, .int v4), (2, .int v2), (0, .ref (ad 251)), (1, .int x)]) F.1 F.2.1 d_La_fillBalls_13 rfl hl3 (by decide) rfl (fun ls5 hl5 => ?_)
  clear hl3
  obtain ⟨i, hi0⟩ : ∃ i : Nat, i = 0 := ⟨_, rfl⟩
  have hiv : v4.toInt = (i : Int) := by omega
  have hib : i ≤ m := by omega
  obtain ⟨wl, hwl⟩ : ∃ x : Nat → va_E, x = w := ⟨_, rfl⟩
  have hWl : qW D τ A s H1 locs1 ad N wl := by rw [hwl]; exact hW1
  have lo : wl 251 = .inr (1, [.ref (ad 85), .ref (ad 168), .ref (ad 252), .ref (ad 253), .ref (ad 254), .ref (ad 255), .long (lN S)]) := by rw [hwl]; exact lo
  have lC : q_J τ wl 253 40 Cl := by rw [hwl]; exact lC
  have lO : q_I τ wl 254 40 Ow := by rw [hwl]; exact lO
  have lI : q_I τ wl 255 40 IB := by rw [hwl]; exact lI
  have hN : qNet τ ad wl 85 n bh wt := by rw [hwl]; exact hN
  have hY : qWay τ ad wl m Wt od := by rw [hwl]; exact hY
  have hfl : (∀ q, (q < 251 ∨ 256 ≤ q) → wl q = w q) := fun q _ => by rw [hwl]
  have hB : ∃ Bl1, q_J τ wl 252 40 Bl1 ∧ ∀ a, a < i → Bl1 a < 2 ^ 40 ∧ ∀ v, ((Bl1 a).testBit v = true ↔ zbl m Wt bk a v) := ⟨Bl, by rw [hwl]; exact lB, fun a ha => absurd ha (by omega)⟩
  clear hi0 hv4 hwl
  generalize H1 = Hl at hWl ⊢
  generalize locs1 = locsl at hWl ⊢
  obtain ⟨f, hf⟩ : ∃ f : Nat, m + 1 ≤ i + f := ⟨m + 1, by omega⟩
  induction f generalizing i v4 ls5 wl Hl locsl with
  | zero => exact absurd hf (by omega)
  | succ f ihi =>
    obtain ⟨Bl1, lB, hB1⟩ := hB
    obtain ⟨⟨l32, lho, hl32⟩, lhB, lhT⟩ := id hN
    obtain ⟨hyo, ⟨FF, hyF, hyd⟩, OO, hyO, hyo2⟩ := id hY
    refine lv_iload_n F.1 F.2.1 d_La_fillBalls_14 rfl (lv_at hl5 0 rfl) ?_
    refine lv_aload_n F.1 F.2.1 d_La_fillBalls_15 rfl (lv_at hl5 2 rfl) ?_
    refine gf_La_25 F hWl (by omega) lo d_La_fillBalls_16 ?_
    refine q_calli hWl (q_cV (As := []) (rest := [.int v4]) F hWl cs_La_53 hd_Ne_size rfl (by omega) lho (k_Ne_size l D τ A ad N wl 85 (by omega) n bh wt hN) rfl rfl ⟨by decide, by decide⟩ rfl hl5.1 rfl (Nat.le_of_ble_eq_true rfl) d_La_fillBalls_19 ⟨Nat.le_refl _, Nat.le_refl _⟩) (fun v6 w6 H6 locs6 hp6 hW6 => ?_)
    obtain ⟨hq6, hp6⟩ := hp6
    replace hq6 := hq6.symm
    subst hq6
    refine q_icmp_ge (tgt := 74) F d_La_fillBalls_22 (by decide) (fun c22 => ?_) (fun c22 => ?_)
    · exact q_vret F hr hlk hW6 ⟨⟨Bl1, ⟨lo, lB, lC, lO, lI⟩, fun a ha => hB1 a (by omega)⟩, hfl⟩ d_La_fillBalls_74
    · refine lv_aload_n F.1 F.2.1 d_La_fillBalls_25 rfl (lv_at hl5 2 rfl) ?_
      refine gf_La_9 F hW6 (by omega) lo d_La_fillBalls_26 ?_
      refine lv_iload_n F.1 F.2.1 d_La_fillBalls_29 rfl (lv_at hl5 0 rfl) ?_
      refine lv_lconst (v := lN 0) F.1 F.2.1 d_La_fillBalls_30 rfl ?_
      refine q_last F hW6 lB (by omega) i (by omega) (by omega) d_La_fillBalls_31 (fun H7 locs7 w7 hW7 hI7 hfr7 => ?_)
      replace lo := (hfr7 _ (by omega)).trans lo
      replace lho := (hfr7 _ (by omega)).trans lho
      replace hyo := (hfr7 _ (by omega)).trans hyo
      replace lB := hI7
      replace lC := lC.keep (hfr7 _ (by omega))
      replace lO := lO.keep (hfr7 _ (by omega))
      replace lI := lI.keep (hfr7 _ (by omega))
      replace hN := hN.keep (fun q h1 h2 => hfr7 _ (by omega))
      replace hY := hY.keep (fun q h1 h2 => hfr7 _ (by omega))
      replace hfl : (∀ q, (q < 251 ∨ 256 ≤ q) → w7 q = w q) := fun q hq => by rw [hfr7 q (by omega)]; exact hfl q hq
      refine q_iconst F d_La_fillBalls_32 (by decide) (fun v8 hv8 => ?_)
      refine lv_istore (lv' := [(4, .int v8), (3, .int v4), (2, .int v2), (0, .ref (ad 251)), (1, .int x)]) F.1 F.2.1 d_La_fillBalls_33 hl5 (by decide) rfl (fun ls9 hl9 => ?_)
      clear hl5
      obtain ⟨j, hj0⟩ : ∃ j : Nat, j = 0 := ⟨_, rfl⟩
      have hjv : v8.toInt = (j : Int) := by omega
      have hjb : j ≤ sz := by omega
      obtain ⟨wk, hwk⟩ : ∃ x : Nat → va_E, x = w7 := ⟨_, rfl⟩
      have hWk : qW D τ A s H7 locs7 ad N wk := by rw [hwk]; exact hW7
      have lo : wk 251 = .inr (1, [.ref (ad 85), .ref (ad 168), .ref (ad 252), .ref (ad 253), .ref (ad 254), .ref (ad 255), .long (lN S)]) := by rw [hwk]; exact lo
      have lC : q_J τ wk 253 40 Cl := by rw [hwk]; exact lC
      have lO : q_I τ wk 254 40 Ow := by rw [hwk]; exact lO
      have lI : q_I τ wk 255 40 IB := by rw [hwk]; exact lI
      have hN : qNet τ ad wk 85 n bh wt := by rw [hwk]; exact hN
      have hY : qWay τ ad wk m Wt od := by rw [hwk]; exact hY
      have hfl : (∀ q, (q < 251 ∨ 256 ≤ q) → wk q = w q) := by rw [hwk]; exact hfl
      have hB : ∃ (Bl2 : Nat → Nat), q_J τ wk 252 40 Bl2 ∧ (∀ a, a < i → Bl2 a < 2 ^ 40 ∧ ∀ v, ((Bl2 a).testBit v = true ↔ zbl m Wt bk a v)) ∧ Bl2 i < 2 ^ 40 ∧ ∀ v, ((Bl2 i).testBit v = true ↔ ∃ u, u < j ∧ od i u = v) := ⟨_, by rw [hwk]; exact lB, fun a ha => by rw [q_upN_ne (by omega)]; exact hB1 a ha, by rw [q_upN_eq]; decide, fun v => by rw [q_upN_eq, hj0]; simp⟩
      clear hj0 hv8 hwk
      generalize H7 = Hk at hWk ⊢
      generalize locs7 = locsk at hWk ⊢
      obtain ⟨g, hg⟩ : ∃ g : Nat, sz + 1 ≤ j + g := ⟨sz + 1, by omega⟩
      induction g generalizing j v8 ls9 wk Hk locsk with
      | zero => exact absurd hg (by omega)
      | succ g ihj =>
        obtain ⟨Bl2, lB, hB2, hB3, hB4⟩ := hB
        obtain ⟨⟨l32, lho, hl32⟩, lhB, lhT⟩ := id hN
        obtain ⟨hyo, ⟨FF, hyF, hyd⟩, OO, hyO, hyo2⟩ := id hY
        refine lv_iload F.1 F.2.1 d_La_fillBalls_35 (lv_at hl9 0 rfl) ?_
        refine lv_iload_n F.1 F.2.1 d_La_fillBalls_37 rfl (lv_at hl9 2 rfl) ?_
        refine q_icmp_ge (tgt := 68) F d_La_fillBalls_38 (by decide) (fun c38 => ?_) (fun c38 => ?_)
        · refine q_iinc (lv' := fun v10 => [(3, .int v10), (4, .int v8), (2, .int v2), (0, .ref (ad 251)), (1, .int x)]) F d_La_fillBalls_68 hl9 (k := 1) rfl (by decide) (by omega) (by decide) (fun _ => rfl) (fun v10 lsv10 hv10 hlv10 => ?_)
          clear hl9
          refine lv_goto (tgt := 14) F.1 F.2.1 d_La_fillBalls_71 (by decide) ?_
          exact ihi (i := i + 1) (v4 := v10) (ls5 := lsv10) (wl := wk) (Hl := Hk) (locsl := locsk) (hiv := by omega) (hib := by omega) (hWl := hWk) (lo := lo) (lC := lC) (lO := lO) (lI := lI) (hN := hN) (hY := hY) (hfl := hfl) (hB := ⟨Bl2, lB, lt_s hB2 ⟨hB3, fun v => (hB4 v).trans (by rw [show j = sz by omega]; exact zbl_iff hZ.1 (by omega) (hyo2 i (by omega)).1 hsz v)⟩⟩) (hf := by omega) (hl5 := (lv_sub hlv10 [0, 2, 3, 4] rfl))
        · refine lv_aload_n F.1 F.2.1 d_La_fillBalls_41 rfl (lv_at hl9 3 rfl) ?_
          refine gf_La_9 F hWk (by omega) lo d_La_fillBalls_42 ?_
          refine lv_iload_n F.1 F.2.1 d_La_fillBalls_45 rfl (lv_at hl9 1 rfl) ?_
          refine lv_dup2_11 F.1 F.2.1 d_La_fillBalls_46 rfl rfl ?_
          refine q_lald F hWk lB (by omega) i (by omega) (by omega) d_La_fillBalls_47 ?_
          refine lv_lconst (v := lN 1) F.1 F.2.1 d_La_fillBalls_48 rfl ?_
          refine lv_aload_n F.1 F.2.1 d_La_fillBalls_49 rfl (lv_at hl9 3 rfl) ?_
          refine gf_La_29 F hWk (by omega) lo d_La_fillBalls_50 ?_
          refine lv_iload_n F.1 F.2.1 d_La_fillBalls_53 rfl (lv_at hl9 1 rfl) ?_
          refine lv_iload F.1 F.2.1 d_La_fillBalls_54 (lv_at hl9 0 rfl) ?_
          refine q_calli hWk (q_cV (As := [.int v4, .int v8]) (rest := [.long (lN 1), .long (lN (Bl2 i)), .int v4, .ref (ad 252)]) F hWk cs_La_73 hd_Wa_nearest rfl (by omega) hyo (k_Wa_nearest l D τ A ad N wk hb m hm40 Wt od hY v4 v8 i j hiv hjv (by omega) (by omega)) rfl rfl ⟨by decide, by decide⟩ rfl hl9.1 rfl (Nat.le_of_ble_eq_true rfl) d_La_fillBalls_56 ⟨Nat.le_refl _, Nat.le_refl _⟩) (fun v11 w11 H11 locs11 hp11 hW11 => ?_)
          obtain ⟨hq11, hp11⟩ := hp11
          replace hq11 := hq11.symm
          subst hq11
          have hod := ((hyo2 i (by omega)).1.1 j (by omega)).1
          refine q_lshl1 F (od i j) (by omega) (by omega) d_La_fillBalls_59 ?_
          refine q_lor F (by omega) (Nat.pow_lt_pow_right (by decide) (by omega)) d_La_fillBalls_60 ?_
          refine q_last F hW11 lB (by omega) i (by omega) (by omega) d_La_fillBalls_61 (fun H12 locs12 w12 hW12 hI12 hfr12 => ?_)
          replace lo := (hfr12 _ (by omega)).trans lo
          replace lho := (hfr12 _ (by omega)).trans lho
          replace hyo := (hfr12 _ (by omega)).trans hyo
          replace lB := hI12
          replace lC := lC.keep (hfr12 _ (by omega))
          replace lO := lO.keep (hfr12 _ (by omega))
          replace lI := lI.keep (hfr12 _ (by omega))
          replace hN := hN.keep (fun q h1 h2 => hfr12 _ (by omega))
          replace hY := hY.keep (fun q h1 h2 => hfr12 _ (by omega))
          replace hfl : (∀ q, (q < 251 ∨ 256 ≤ q) → w12 q = w q) := fun q hq => by rw [hfr12 q (by omega)]; exact hfl q hq
          refine q_iinc (lv' := fun v13 => [(4, .int v13), (3, .int v4), (2, .int v2), (0, .ref (ad 251)), (1, .int x)]) F d_La_fillBalls_62 hl9 (k := 0) rfl (by decide) (by omega) (by decide) (fun _ => rfl) (fun v13 lsv13 hv13 hlv13 => ?_)
          clear hl9
          refine lv_goto (tgt := 35) F.1 F.2.1 d_La_fillBalls_65 (by decide) ?_
          exact ihj (j := j + 1) (v8 := v13) (ls9 := lsv13) (wk := w12) (Hk := H12) (locsk := locs12) (hjv := by omega) (hjb := by omega) (hWk := hW12) (lo := lo) (lC := lC) (lO := lO) (lI := lI) (hN := hN) (hY := hY) (hfl := hfl) (hB := ⟨_, lB, fun a ha => by rw [q_upN_ne (by omega)]; exact hB2 a ha, by rw [q_upN_eq]; exact q_or_lt hB3 (by omega), fun v => by rw [q_upN_eq, q_or_tb, hB4]; exact q_ex_s⟩) (hg := by omega) (hl9 := (lv_sub hlv13 [0, 1, 2, 3, 4] rfl))
