theorem q_sv {m B S a : Nat} {ball : Nat → Nat → Prop} (h : ∀ v, B.testBit v = true ↔ ball a v) (hb : ∀ v, ball a v → v < m) : B &&& S = 0 ↔ ¬ zsv m ball (fun u => S.testBit u = true) a := by
  rw [q_and0]
  constructor
  · rintro h1 ⟨v, v1, v2, v3⟩
    exact h1 v ⟨(h v).mpr v3, v2⟩
  · intro h1 v ⟨v2, v3⟩
    exact h1 ⟨v, hb v ((h v).mp v2), v3, (h v).mp v2⟩
theorem q_upc {m i j : Nat} {P : Nat → Nat → Prop} {G : Nat → Int} {x : Int} (h : ∀ v, v < m → G v = (zc (P v) (if v < j then i + 1 else i) : Int)) (hx : x = (zc (P j) (i + 1) : Int)) : ∀ v, v < m → q_up G j x v = (zc (P v) (if v < j + 1 then i + 1 else i) : Int) := by
  intro v hv
  unfold q_up
  by_cases e : v = j
  · subst e
    rw [if_pos rfl, if_pos (by omega), hx]
  · rw [if_neg e, h v hv]
    by_cases e2 : v < j
    · rw [if_pos e2, if_pos (by omega)]
    · rw [if_neg e2, if_neg (by omega)]
set_option maxHeartbeats 4000000 in
set_option maxRecDepth 100000 in
/-- in how many balls without a landmark -/
theorem k_La_countInBalls (l : Launch) (D : va_G) (τ : Nat → ClassId) (A : Nat → Prop) (ad : Nat → Nat) (N : Nat) (w : Nat → va_E) (hb : 469 ≤ N) (S : Nat) (Bl Cl : Nat → Nat) (Ow IB : Nat → Int) (hL : qLan τ ad w S Bl Cl Ow IB) (m : Nat) (hm40 : m ≤ 40) (n : Int) (bh wt : Nat → Nat → Int) (hN : qNet τ ad w 85 n bh wt) (hn : n = m) (ball : Nat → Nat → Prop) (hbm : ∀ a v, a < m → ball a v → v < m) (hBl : ∀ a, a < m → Bl a < 2 ^ 40 ∧ ∀ v, ((Bl a).testBit v = true ↔ ball a v)) (hS : S < 2 ^ 40) : Met l y_La_countInBalls (qws y_La_countInBalls c_La_countInBalls 3 none) ({ frames := 1, cells := 0, slots := 0, locals := 23 }) (qPc D τ A ad N w [.ref (ad 251)]) (va_Qv (fun w1 => (∃ IB1, qLan τ ad w1 S Bl Cl Ow IB1 ∧ ∀ v, v < m → IB1 v = (zib m ball (fun u => S.testBit u = true) v : Int)) ∧ (∀ q, (q < 251 ∨ 256 ≤ q) → w1 q = w q)) (qB D τ A ad N) A) 0 0 A := by
  refine q_of (by decide) (Nat.le_of_ble_eq_true rfl) rfl ?_
  intro PP EE s MM below meth CC ls F hr hlk hnm hex hl hW
  have hl : lv_has ls 3 [(0, .ref (ad 251))] := hl
  obtain ⟨lo, lB, lC, lO, lI⟩ := id hL
  obtain ⟨⟨nn32, nho, hnn32⟩, nhB, nhT⟩ := id hN
  refine lv_aload_n F.1 F.2.1 d_La_countInBalls_0 rfl (lv_at hl 0 rfl) ?_
  refine gf_La_22 F hW (by omega) lo d_La_countInBalls_1 ?_
  refine q_iconst F d_La_countInBalls_4 (by decide) (fun v1 hv1 => ?_)
  refine q_callv hW (q_cS (As := [.ref (ad 255), .int v1]) (rest := []) F hW cs_La_84 hs_Ar_fill (k_Ar_fill l D τ A ad N w 255 40 IB (by omega) (by decide) lI v1) rfl rfl ⟨by decide, by decide⟩ rfl hl.1 rfl (Nat.le_of_ble_eq_true rfl) d_La_countInBalls_5 ⟨Nat.le_refl _, Nat.le_refl _⟩) (fun w2 H2 locs2 hp2 hW2 => ?_)
  obtain ⟨hI2, hfr2⟩ := hp2
  replace lo := (hfr2 _ (by omega)).trans lo
  replace lB := lB.keep (hfr2 _ (by omega))
  replace lC := lC.keep (hfr2 _ (by omega))
  replace lO := lO.keep (hfr2 _ (by omega))
  replace hN := hN.keep (fun q h1 h2 => hfr2 _ (by omega))
  have hfr0 : (∀ q, (q < 251 ∨ 256 ≤ q) → w2 q = w q) := fun q hq => hfr2 q (by omega)
  refine q_iconst F d_La_countInBalls_8 (by decide) (fun v3 hv3 => ?_)
  refine lv_istore_n (lv' := [(1, .int v3), (0, .ref (ad 251))]) F.1 F.2.1 d_La_countInBalls_9 rfl hl (by decide) rfl (fun ls4 hl4 => ?_)
  clear hl
  obtain ⟨i, hi0⟩ : ∃ i : Nat, i = 0 := ⟨_, rfl⟩
  have hiv : v3.toInt = (i : Int) := by omega
  have hib : i ≤ m := by omega
  obtain ⟨wl, hwl⟩ : ∃ x : Nat → va_E, x = w2 := ⟨_, rfl⟩
  have hWl : qW D τ A s H2 locs2 ad N wl := by rw [hwl]; exact hW2
  have lo : wl 251 = .inr (1, [.ref (ad 85), .ref (ad 168), .ref (ad 252), .ref (ad 253), .ref (ad 254), .ref (ad 255), .long (lN S)]) := by rw [hwl]; exact lo
  have lB : q_J τ wl 252 40 Bl := by rw [hwl]; exact lB
  have lC : q_J τ wl 253 40 Cl := by rw [hwl]; exact lC
  have lO : q_I τ wl 254 40 Ow := by rw [hwl]; exact lO
  have hN : qNet τ ad wl 85 n bh wt := by rw [hwl]; exact hN
  have hfl : (∀ q, (q < 251 ∨ 256 ≤ q) → wl q = w q) := by rw [hwl]; exact hfr0
  have hI : ∃ IB1, q_I τ wl 255 40 IB1 ∧ ∀ v, v < m → IB1 v = (zc (fun a => ¬ zsv m ball (fun u => S.testBit u = true) a ∧ ball a v) i : Int) := ⟨_, by rw [hwl]; exact hI2, fun v _ => by rw [hv1, hi0]; rfl⟩
  clear hi0 hv3 hwl
  generalize H2 = Hl at hWl ⊢
  generalize locs2 = locsl at hWl ⊢
  obtain ⟨f, hf⟩ : ∃ f : Nat, m + 1 ≤ i + f := ⟨m + 1, by omega⟩
  induction f generalizing i v3 ls4 wl Hl locsl with
  | zero => exact absurd hf (by omega)
  | succ f ihi =>
    obtain ⟨IB1, lI, hI1⟩ := hI
    obtain ⟨⟨l32, lho, hl32⟩, lhB, lhT⟩ := id hN
    refine lv_iload_n F.1 F.2.1 d_La_countInBalls_10 rfl (lv_at hl4 0 rfl) ?_
    refine lv_aload_n F.1 F.2.1 d_La_countInBalls_11 rfl (lv_at hl4 1 rfl) ?_
    refine gf_La_25 F hWl (by omega) lo d_La_countInBalls_12 ?_
    refine q_calli hWl (q_cV (As := []) (rest := [.int v3]) F hWl cs_La_53 hd_Ne_size rfl (by omega) lho (k_Ne_size l D τ A ad N wl 85 (by omega) n bh wt hN) rfl rfl ⟨by decide, by decide⟩ rfl hl4.1 rfl (Nat.le_of_ble_eq_true rfl) d_La_countInBalls_15 ⟨Nat.le_refl _, Nat.le_refl _⟩) (fun v5 w5 H5 locs5 hp5 hW5 => ?_)
    obtain ⟨hq5, hp5⟩ := hp5
    replace hq5 := hq5.symm
    subst hq5
    refine q_icmp_ge (tgt := 89) F d_La_countInBalls_18 (by decide) (fun c18 => ?_) (fun c18 => ?_)
    · exact q_vret F hr hlk hW5 ⟨⟨IB1, ⟨lo, lB, lC, lO, lI⟩, fun v hv => by rw [hI1 v hv, show i = m by omega]; rfl⟩, hfl⟩ d_La_countInBalls_89
    · obtain ⟨hb1, hb2⟩ := hBl i (by omega)
      have hsv := q_sv (S := S) hb2 (fun v => hbm i v (by omega))
      refine lv_aload_n F.1 F.2.1 d_La_countInBalls_21 rfl (lv_at hl4 1 rfl) ?_
      refine gf_La_9 F hW5 (by omega) lo d_La_countInBalls_22 ?_
      refine lv_iload_n F.1 F.2.1 d_La_countInBalls_25 rfl (lv_at hl4 0 rfl) ?_
      refine q_lald F hW5 lB (by omega) i (by omega) (by omega) d_La_countInBalls_26 ?_
      refine lv_aload_n F.1 F.2.1 d_La_countInBalls_27 rfl (lv_at hl4 1 rfl) ?_
      refine gf_La_33 F hW5 (by omega) lo d_La_countInBalls_28 ?_
      refine q_land F (by omega) (by omega) d_La_countInBalls_31 ?_
      refine lv_lconst (v := lN 0) F.1 F.2.1 d_La_countInBalls_32 rfl ?_
      refine q_lcmp0 F (by exact Nat.lt_of_le_of_lt Nat.and_le_left (by omega)) d_La_countInBalls_33 (fun v6 hv6 => ?_)
      refine q_if_ne (tgt := 83) F d_La_countInBalls_34 (by decide) (fun c34 => ?_) (fun c34 => ?_)
      · have hsvi : zsv m ball (fun u => S.testBit u = true) i := Classical.byContradiction (fun z => by have := hsv.mpr z; omega)
        refine q_iinc (lv' := fun v7 => [(1, .int v7), (0, .ref (ad 251))]) F d_La_countInBalls_83 hl4 (k := 0) rfl (by decide) (by omega) (by decide) (fun _ => rfl) (fun v7 lsv7 hv7 hlv7 => ?_)
        clear hl4
        refine lv_goto (tgt := 10) F.1 F.2.1 d_La_countInBalls_86 (by decide) ?_
        exact ihi (i := i + 1) (v3 := v7) (ls4 := lsv7) (wl := wl) (Hl := H5) (locsl := locs5) (hiv := by omega) (hib := by omega) (hWl := hW5) (lo := lo) (lB := lB) (lC := lC) (lO := lO) (hN := hN) (hfl := hfl) (hI := ⟨IB1, lI, fun v hv => by rw [zc_f (P := fun a => ¬ zsv m ball (fun u => S.testBit u = true) a ∧ ball a v) (fun z => z.1 hsvi)]; exact hI1 v hv⟩) (hf := by omega) (hl4 := (lv_sub hlv7 [0, 1] rfl))
      · have hsvi : ¬ zsv m ball (fun u => S.testBit u = true) i := hsv.mp (by omega)
        refine q_iconst F d_La_countInBalls_37 (by decide) (fun v8 hv8 => ?_)
        refine lv_istore_n (lv' := [(2, .int v8), (1, .int v3), (0, .ref (ad 251))]) F.1 F.2.1 d_La_countInBalls_38 rfl hl4 (by decide) rfl (fun ls9 hl9 => ?_)
        clear hl4
        obtain ⟨j, hj0⟩ : ∃ j : Nat, j = 0 := ⟨_, rfl⟩
        have hjv : v8.toInt = (j : Int) := by omega
        have hjb : j ≤ m := by omega
        obtain ⟨wk, hwk⟩ : ∃ x : Nat → va_E, x = wl := ⟨_, rfl⟩
        have hWk : qW D τ A s H5 locs5 ad N wk := by rw [hwk]; exact hW5
        have lo : wk 251 = .inr (1, [.ref (ad 85), .ref (ad 168), .ref (ad 252), .ref (ad 253), .ref (ad 254), .ref (ad 255), .long (lN S)]) := by rw [hwk]; exact lo
        have lB : q_J τ wk 252 40 Bl := by rw [hwk]; exact lB
        have lC : q_J τ wk 253 40 Cl := by rw [hwk]; exact lC
        have lO : q_I τ wk 254 40 Ow := by rw [hwk]; exact lO
        have hN : qNet τ ad wk 85 n bh wt := by rw [hwk]; exact hN
        have hfl : (∀ q, (q < 251 ∨ 256 ≤ q) → wk q = w q) := by rw [hwk]; exact hfl
        have hI : ∃ IB2, q_I τ wk 255 40 IB2 ∧ ∀ v, v < m → IB2 v = (zc (fun a => ¬ zsv m ball (fun u => S.testBit u = true) a ∧ ball a v) (if v < j then i + 1 else i) : Int) := ⟨IB1, by rw [hwk]; exact lI, fun v hv => by rw [if_neg (by omega)]; exact hI1 v hv⟩
        clear hj0 hv8 hwk
        generalize H5 = Hk at hWk ⊢
        generalize locs5 = locsk at hWk ⊢
        obtain ⟨g, hg⟩ : ∃ g : Nat, m + 1 ≤ j + g := ⟨m + 1, by omega⟩
        induction g generalizing j v8 ls9 wk Hk locsk with
        | zero => exact absurd hg (by omega)
        | succ g ihj =>
          obtain ⟨IB2, lI, hI2⟩ := hI
          obtain ⟨⟨l32, lho, hl32⟩, lhB, lhT⟩ := id hN
          refine lv_iload_n F.1 F.2.1 d_La_countInBalls_39 rfl (lv_at hl9 0 rfl) ?_
          refine lv_aload_n F.1 F.2.1 d_La_countInBalls_40 rfl (lv_at hl9 2 rfl) ?_
          refine gf_La_25 F hWk (by omega) lo d_La_countInBalls_41 ?_
          refine q_calli hWk (q_cV (As := []) (rest := [.int v8]) F hWk cs_La_53 hd_Ne_size rfl (by omega) lho (k_Ne_size l D τ A ad N wk 85 (by omega) n bh wt hN) rfl rfl ⟨by decide, by decide⟩ rfl hl9.1 rfl (Nat.le_of_ble_eq_true rfl) d_La_countInBalls_44 ⟨Nat.le_refl _, Nat.le_refl _⟩) (fun v10 w10 H10 locs10 hp10 hW10 => ?_)
          obtain ⟨hq10, hp10⟩ := hp10
          replace hq10 := hq10.symm
          subst hq10
          refine q_icmp_ge (tgt := 83) F d_La_countInBalls_47 (by decide) (fun c47 => ?_) (fun c47 => ?_)
          · refine q_iinc (lv' := fun v11 => [(1, .int v11), (2, .int v8), (0, .ref (ad 251))]) F d_La_countInBalls_83 hl9 (k := 1) rfl (by decide) (by omega) (by decide) (fun _ => rfl) (fun v11 lsv11 hv11 hlv11 => ?_)
            clear hl9
            refine lv_goto (tgt := 10) F.1 F.2.1 d_La_countInBalls_86 (by decide) ?_
            exact ihi (i := i + 1) (v3 := v11) (ls4 := lsv11) (wl := wk) (Hl := H10) (locsl := locs10) (hiv := by omega) (hib := by omega) (hWl := hW10) (lo := lo) (lB := lB) (lC := lC) (lO := lO) (hN := hN) (hfl := hfl) (hI := ⟨IB2, lI, fun v hv => by rw [hI2 v hv, if_pos (by omega)]⟩) (hf := by omega) (hl4 := (lv_sub hlv11 [0, 2] rfl))
          · have hIj := hI2 j (by omega)
            rw [if_neg (by omega)] at hIj
            have hzl := zc_le (fun a => ¬ zsv m ball (fun u => S.testBit u = true) a ∧ ball a j) i
            refine lv_aload_n F.1 F.2.1 d_La_countInBalls_50 rfl (lv_at hl9 2 rfl) ?_
            refine gf_La_22 F hW10 (by omega) lo d_La_countInBalls_51 ?_
            refine lv_iload_n F.1 F.2.1 d_La_countInBalls_54 rfl (lv_at hl9 0 rfl) ?_
            refine lv_dup2_11 F.1 F.2.1 d_La_countInBalls_55 rfl rfl ?_
            refine q_iald F hW10 lI (by omega) j (by omega) (by omega) d_La_countInBalls_56 (fun v12 hv12 => ?_)
            refine lv_aload_n F.1 F.2.1 d_La_countInBalls_57 rfl (lv_at hl9 2 rfl) ?_
            refine gf_La_9 F hW10 (by omega) lo d_La_countInBalls_58 ?_
            refine lv_iload_n F.1 F.2.1 d_La_countInBalls_61 rfl (lv_at hl9 1 rfl) ?_
            refine q_lald F hW10 lB (by omega) i (by omega) (by omega) d_La_countInBalls_62 ?_
            refine lv_iload_n F.1 F.2.1 d_La_countInBalls_63 rfl (lv_at hl9 0 rfl) ?_
            refine q_calli hW10 (q_cS (As := [.long (lN (Bl i)), .int v8]) (rest := [.int v12, .int v8, .ref (ad 255)]) F hW10 cs_La_63 hs_La_has (k_La_has l D τ A ad N wk (Bl i) hb1 v8 j hjv (by omega)) rfl rfl ⟨by decide, by decide⟩ rfl hl9.1 rfl (Nat.le_of_ble_eq_true rfl) d_La_countInBalls_64 ⟨Nat.le_refl _, Nat.le_refl _⟩) (fun v13 w13 H13 locs13 hp13 hW13 => ?_)
            obtain ⟨hq13, hp13⟩ := hp13
            replace hq13 := hq13.symm
            subst hq13
            refine q_if_eq (tgt := 74) F d_La_countInBalls_67 (by decide) (fun c67 => ?_) (fun c67 => ?_)
            · refine q_iconst F d_La_countInBalls_74 (by decide) (fun v14 hv14 => ?_)
              refine q_iadd F d_La_countInBalls_75 (by omega) (fun v15 hv15 => ?_)
              refine q_iast F hW13 lI (by omega) j (by omega) (by omega) d_La_countInBalls_76 (fun H16 locs16 w16 hW16 hI16 hfr16 => ?_)
              replace lo := (hfr16 _ (by omega)).trans lo
              replace lho := (hfr16 _ (by omega)).trans lho
              replace lB := lB.keep (hfr16 _ (by omega))
              replace lC := lC.keep (hfr16 _ (by omega))
              replace lO := lO.keep (hfr16 _ (by omega))
              replace lI := hI16
              replace hN := hN.keep (fun q h1 h2 => hfr16 _ (by omega))
              replace hfl : (∀ q, (q < 251 ∨ 256 ≤ q) → w16 q = w q) := fun q hq => by rw [hfr16 q (by omega)]; exact hfl q hq
              have e9 : v15.toInt = (zc (fun a => ¬ zsv m ball (fun u => S.testBit u = true) a ∧ ball a j) (i + 1) : Int) := by rw [zc_f (P := fun a => ¬ zsv m ball (fun u => S.testBit u = true) a ∧ ball a j) (fun z => qb_f hp13 c67 ((hb2 j).mpr z.2))]; omega
              refine q_iinc (lv' := fun v17 => [(2, .int v17), (1, .int v3), (0, .ref (ad 251))]) F d_La_countInBalls_77 hl9 (k := 0) rfl (by decide) (by omega) (by decide) (fun _ => rfl) (fun v17 lsv17 hv17 hlv17 => ?_)
              clear hl9
              refine lv_goto (tgt := 39) F.1 F.2.1 d_La_countInBalls_80 (by decide) ?_
              exact ihj (j := j + 1) (v8 := v17) (ls9 := lsv17) (wk := w16) (Hk := H16) (locsk := locs16) (hjv := by omega) (hjb := by omega) (hWk := hW16) (lo := lo) (lB := lB) (lC := lC) (lO := lO) (hN := hN) (hfl := hfl) (hI := ⟨_, lI, fun v hv => q_upc hI2 e9 v hv⟩) (hg := by omega) (hl9 := (lv_sub hlv17 [0, 1, 2] rfl))
            · refine q_iconst F d_La_countInBalls_70 (by decide) (fun v18 hv18 => ?_)
              refine lv_goto (tgt := 75) F.1 F.2.1 d_La_countInBalls_71 (by decide) ?_
              refine q_iadd F d_La_countInBalls_75 (by omega) (fun v19 hv19 => ?_)
              refine q_iast F hW13 lI (by omega) j (by omega) (by omega) d_La_countInBalls_76 (fun H20 locs20 w20 hW20 hI20 hfr20 => ?_)
              replace lo := (hfr20 _ (by omega)).trans lo
              replace lho := (hfr20 _ (by omega)).trans lho
              replace lB := lB.keep (hfr20 _ (by omega))
              replace lC := lC.keep (hfr20 _ (by omega))
              replace lO := lO.keep (hfr20 _ (by omega))
              replace lI := hI20
              replace hN := hN.keep (fun q h1 h2 => hfr20 _ (by omega))
              replace hfl : (∀ q, (q < 251 ∨ 256 ≤ q) → w20 q = w q) := fun q hq => by rw [hfr20 q (by omega)]; exact hfl q hq
              have e9 : v19.toInt = (zc (fun a => ¬ zsv m ball (fun u => S.testBit u = true) a ∧ ball a j) (i + 1) : Int) := by rw [zc_t (P := fun a => ¬ zsv m ball (fun u => S.testBit u = true) a ∧ ball a j) ⟨hsvi, (hb2 j).mp (qb_t hp13 c67)⟩]; omega
              refine q_iinc (lv' := fun v21 => [(2, .int v21), (1, .int v3), (0, .ref (ad 251))]) F d_La_countInBalls_77 hl9 (k := 0) rfl (by decide) (by omega) (by decide) (fun _ => rfl) (fun v21 lsv21 hv21 hlv21 => ?_)
              clear hl9
              refine lv_goto (tgt := 39) F.1 F.2.1 d_La_countInBalls_80 (by decide) ?_
              exact ihj (j := j + 1) (v8 := v21) (ls9 := lsv21) (wk := w20) (Hk := H20) (locsk := locs20) (hjv := by omega) (hjb := by omega) (hWk := hW20) (lo := lo) (lB := lB) (lC := lC) (lO := lO) (hN := hN) (hfl := hfl) (hI := ⟨_, lI, fun v hv => q_upc hI2 e9 v hv⟩) (hg := by omega) (hl9 := (lv_sub hlv21 [0, 1, 2] rfl))
set_option maxHeartbeats 4000000 in
set_option maxRecDepth 100000 in
/-- the node that is wanted most -/
theorem k_La_mostWanted (l : Launch) (D : va_G) (τ : Nat → ClassId) (A : Nat → Prop) (ad : Nat → Nat) (N : Nat) (w : Nat → va_E) (hb : 469 ≤ N) (S : Nat) (Bl Cl : Nat → Nat) (Ow IB : Nat → Int) (hL : qLan τ ad w S Bl Cl Ow IB) (m : Nat) (hm40 : m ≤ 40) (n : Int) (bh wt : Nat → Nat → Int) (hN : qNet τ ad w 85 n bh wt) (hn : n = m) (ball : Nat → Nat → Prop) (hbm : ∀ a v, a < m → ball a v → v < m) (hBl : ∀ a, a < m → Bl a < 2 ^ 40 ∧ ∀ v, ((Bl a).testBit v = true ↔ ball a v)) (hS : S < 2 ^ 40) : Met l y_La_mostWanted (qws y_La_mostWanted c_La_mostWanted 4 (some .int)) ({ frames := 2, cells := 0, slots := 0, locals := 45 }) (qPc D τ A ad N w [.ref (ad 251)]) (va_Qi (fun r w1 => (∃ IB1, qLan τ ad w1 S Bl Cl Ow IB1) ∧ r.toInt = zbest m ball (fun u => S.testBit u = true) ∧ (∀ q, (q < 251 ∨ 256 ≤ q) → w1 q = w q)) (qB D τ A ad N) A) 0 0 A := by
  refine q_of (by decide) (Nat.le_of_ble_eq_true rfl) rfl ?_
  intro PP EE s MM below meth CC ls F hr hlk hnm hex hl hW
  have hl : lv_has ls 4 [(0, .ref (ad 251))] := hl
  obtain ⟨lo, lB, lC, lO, lI⟩ := id hL
  obtain ⟨⟨nn32, nho, hnn32⟩, nhB, nhT⟩ := id hN
  refine lv_aload_n F.1 F.2.1 d_La_mostWanted_0 rfl (lv_at hl 0 rfl) ?_
  refine q_callv hW (q_cV (As := []) (rest := []) F hW cs_La_81 hd_La_countInBalls rfl (by omega) lo (k_La_countInBalls l D τ A ad N w hb S Bl Cl Ow IB hL m hm40 n bh wt hN hn ball hbm hBl hS) rfl rfl ⟨by decide, by decide⟩ rfl hl.1 rfl (Nat.le_of_ble_eq_true rfl) d_La_mostWanted_1 ⟨Nat.le_refl _, Nat.le_refl _⟩) (fun w1 H1 locs1 hp1 hW1 => ?_)
  obtain ⟨⟨IB1, hL1, hI1⟩, hfr1⟩ := hp1
  obtain ⟨lo, lB, lC, lO, lI⟩ := id hL1
  replace hN := hN.keep (fun q h1 h2 => hfr1 _ (by omega))
  obtain ⟨⟨l32, lho, hl32⟩, lhB, lhT⟩ := id hN
  refine q_iconst F d_La_mostWanted_4 (by decide) (fun v2 hv2 => ?_)
  refine lv_istore_n (lv' := [(1, .int v2), (0, .ref (ad 251))]) F.1 F.2.1 d_La_mostWanted_5 rfl hl (by decide) rfl (fun ls3 hl3 => ?_)
  clear hl
  refine q_iconst F d_La_mostWanted_6 (by decide) (fun v4 hv4 => ?_)
  refine lv_istore_n (lv' := [(2, .int v4), (1, .int v2), (0, .ref (ad 251))]) F.1 F.2.1 d_La_mostWanted_7 rfl hl3 (by decide) rfl (fun ls5 hl5 => ?_)
  clear hl3
  refine q_iconst F d_La_mostWanted_8 (by decide) (fun v6 hv6 => ?_)
  refine lv_istore_n (lv' := [(3, .int v6), (2, .int v4), (1, .int v2), (0, .ref (ad 251))]) F.1 F.2.1 d_La_mostWanted_9 rfl hl5 (by decide) rfl (fun ls7 hl7 => ?_)
  clear hl5
  obtain ⟨i, hi0⟩ : ∃ i : Nat, i = 0 := ⟨_, rfl⟩
  have hiv : v6.toInt = (i : Int) := by omega
  have hib : i ≤ m := by omega
  have hWp := hW1
  have hmw : zmw (zib m ball (fun u => S.testBit u = true)) i v2.toInt v4.toInt := by rw [hv2, hv4, hi0]; exact zmw_0
  clear hi0 hv6 hv2 hv4
  generalize H1 = Hp at hWp ⊢
  generalize locs1 = locsp at hWp ⊢
  obtain ⟨f, hf⟩ : ∃ f : Nat, m + 1 ≤ i + f := ⟨m + 1, by omega⟩
  induction f generalizing i v6 ls7 Hp locsp v2 v4 with
  | zero => exact absurd hf (by omega)
  | succ f ihi =>
    refine lv_iload_n F.1 F.2.1 d_La_mostWanted_10 rfl (lv_at hl7 0 rfl) ?_
    refine lv_aload_n F.1 F.2.1 d_La_mostWanted_11 rfl (lv_at hl7 3 rfl) ?_
    refine gf_La_25 F hWp (by omega) lo d_La_mostWanted_12 ?_
    refine q_calli hWp (q_cV (As := []) (rest := [.int v6]) F hWp cs_La_53 hd_Ne_size rfl (by omega) lho (k_Ne_size l D τ A ad N w1 85 (by omega) n bh wt hN) rfl rfl ⟨by decide, by decide⟩ rfl hl7.1 rfl (Nat.le_of_ble_eq_true rfl) d_La_mostWanted_15 ⟨Nat.le_refl _, Nat.le_refl _⟩) (fun v8 w8 H8 locs8 hp8 hW8 => ?_)
    obtain ⟨hq8, hp8⟩ := hp8
    replace hq8 := hq8.symm
    subst hq8
    refine q_icmp_ge (tgt := 46) F d_La_mostWanted_18 (by decide) (fun c18 => ?_) (fun c18 => ?_)
    · refine lv_iload_n F.1 F.2.1 d_La_mostWanted_46 rfl (lv_at hl7 2 rfl) ?_
      exact q_iret F hr hlk hW8 ⟨⟨IB1, hL1⟩, zmw_end ((show i = m by omega) ▸ hmw), hfr1⟩ d_La_mostWanted_47
    · have hIi := hI1 i (by omega)
      refine lv_aload_n F.1 F.2.1 d_La_mostWanted_21 rfl (lv_at hl7 3 rfl) ?_
      refine gf_La_22 F hW8 (by omega) lo d_La_mostWanted_22 ?_
      refine lv_iload_n F.1 F.2.1 d_La_mostWanted_25 rfl (lv_at hl7 0 rfl) ?_
      refine q_iald F hW8 lI (by omega) i (by omega) (by omega) d_La_mostWanted_26 (fun v9 hv9 => ?_)
      refine lv_iload_n F.1 F.2.1 d_La_mostWanted_27 rfl (lv_at hl7 1 rfl) ?_
      refine q_icmp_le (tgt := 40) F d_La_mostWanted_28 (by decide) (fun c28 => ?_) (fun c28 => ?_)
      · refine q_iinc (lv' := fun v10 => [(3, .int v10), (2, .int v4), (1, .int v2), (0, .ref (ad 251))]) F d_La_mostWanted_40 hl7 (k := 0) rfl (by decide) (by omega) (by decide) (fun _ => rfl) (fun v10 lsv10 hv10 hlv10 => ?_)
        clear hl7
        refine lv_goto (tgt := 10) F.1 F.2.1 d_La_mostWanted_43 (by decide) ?_
        exact ihi (i := i + 1) (v6 := v10) (ls7 := lsv10) (Hp := H8) (locsp := locs8) (v2 := v2) (v4 := v4) (hiv := by omega) (hib := by omega) (hWp := hW8) (hmw := zmw_keep hmw (by omega)) (hf := by omega) (hl7 := (lv_sub hlv10 [0, 1, 2, 3] rfl))
      · refine lv_aload_n F.1 F.2.1 d_La_mostWanted_31 rfl (lv_at hl7 3 rfl) ?_
        refine gf_La_22 F hW8 (by omega) lo d_La_mostWanted_32 ?_
        refine lv_iload_n F.1 F.2.1 d_La_mostWanted_35 rfl (lv_at hl7 0 rfl) ?_
        refine q_iald F hW8 lI (by omega) i (by omega) (by omega) d_La_mostWanted_36 (fun v11 hv11 => ?_)
        refine lv_istore_n (lv' := [(2, .int v11), (3, .int v6), (1, .int v2), (0, .ref (ad 251))]) F.1 F.2.1 d_La_mostWanted_37 rfl hl7 (by decide) rfl (fun ls12 hl12 => ?_)
        clear hl7
        refine lv_iload_n F.1 F.2.1 d_La_mostWanted_38 rfl (lv_at hl12 1 rfl) ?_
        refine lv_istore_n (lv' := [(1, .int v6), (2, .int v11), (3, .int v6), (0, .ref (ad 251))]) F.1 F.2.1 d_La_mostWanted_39 rfl hl12 (by decide) rfl (fun ls13 hl13 => ?_)
        clear hl12
        refine q_iinc (lv' := fun v14 => [(3, .int v14), (1, .int v6), (2, .int v11), (0, .ref (ad 251))]) F d_La_mostWanted_40 hl13 (k := 2) rfl (by decide) (by omega) (by decide) (fun _ => rfl) (fun v14 lsv14 hv14 hlv14 => ?_)
        clear hl13
        refine lv_goto (tgt := 10) F.1 F.2.1 d_La_mostWanted_43 (by decide) ?_
        exact ihi (i := i + 1) (v6 := v14) (ls7 := lsv14) (Hp := H8) (locsp := locs8) (v2 := v6) (v4 := v11) (hiv := by omega) (hib := by omega) (hWp := hW8) (hmw := by rw [hiv, hv11, hIi]; exact zmw_take hmw (by omega)) (hf := by omega) (hl7 := (lv_sub hlv14 [0, 2, 1, 3] rfl))
set_option maxHeartbeats 4000000 in
set_option maxRecDepth 100000 in
/-- the first landmarks -/
theorem k_La_chooseFirst (l : Launch) (D : va_G) (τ : Nat → ClassId) (A : Nat → Prop) (ad : Nat → Nat) (N : Nat) (w : Nat → va_E) (hb : 469 ≤ N)  (Bl Cl : Nat → Nat) (Ow IB : Nat → Int) (hL : qLan τ ad w 0 Bl Cl Ow IB) (m : Nat) (hm40 : m ≤ 40) (n : Int) (bh wt : Nat → Nat → Int) (hN : qNet τ ad w 85 n bh wt) (hn : n = m) (ball : Nat → Nat → Prop) (hbm : ∀ a v, a < m → ball a v → v < m) (hBl : ∀ a, a < m → Bl a < 2 ^ 40 ∧ ∀ v, ((Bl a).testBit v = true ↔ ball a v)) : Met l y_La_chooseFirst (qws y_La_chooseFirst c_La_chooseFirst 3 none) ({ frames := 3, cells := 0, slots := 0, locals := 68 }) (qPc D τ A ad N w [.ref (ad 251)]) (va_Qv (fun w1 => (∃ S1 IB1, qLan τ ad w1 S1 Bl Cl Ow IB1 ∧ S1 < 2 ^ 40 ∧ ∀ v, (S1.testBit v = true ↔ zM m ball m v)) ∧ (∀ q, (q < 251 ∨ 256 ≤ q) → w1 q = w q)) (qB D τ A ad N) A) 0 0 A := by
  refine q_of (by decide) (Nat.le_of_ble_eq_true rfl) rfl ?_
  intro PP EE s MM below meth CC ls F hr hlk hnm hex hl hW
  have hl : lv_has ls 3 [(0, .ref (ad 251))] := hl
  obtain ⟨⟨nn32, nho, hnn32⟩, nhB, nhT⟩ := id hN
  refine q_iconst F d_La_chooseFirst_0 (by decide) (fun v1 hv1 => ?_)
  refine lv_istore_n (lv' := [(1, .int v1), (0, .ref (ad 251))]) F.1 F.2.1 d_La_chooseFirst_1 rfl hl (by decide) rfl (fun ls2 hl2 => ?_)
  clear hl
  obtain ⟨S, hS0⟩ : ∃ S : Nat, S = 0 := ⟨_, rfl⟩
  obtain ⟨i, hi0⟩ : ∃ i : Nat, i = 0 := ⟨_, rfl⟩
  have hiv : v1.toInt = (i : Int) := by omega
  have hib : i ≤ m := by omega
  obtain ⟨wl, hwl⟩ : ∃ x : Nat → va_E, x = w := ⟨_, rfl⟩
  have hWl : qW D τ A s s.heap ([] : List Loc) ad N wl := by rw [hwl]; exact hW
  have hL : ∃ IB1, qLan τ ad wl S Bl Cl Ow IB1 := ⟨IB, by rw [hwl, hS0]; exact hL⟩
  have hN : qNet τ ad wl 85 n bh wt := by rw [hwl]; exact hN
  have hS : S < 2 ^ 40 := by rw [hS0]; decide
  have hM : ∀ v, (S.testBit v = true ↔ zM m ball i v) := fun v => by rw [hS0, hi0]; simp [zM]
  have hfl : (∀ q, (q < 251 ∨ 256 ≤ q) → wl q = w q) := fun q _ => by rw [hwl]
  clear hi0 hv1 hwl hS0
  generalize s.heap = Hl at hWl ⊢
  generalize ([] : List Loc) = locsl at hWl ⊢
  obtain ⟨f, hf⟩ : ∃ f : Nat, m + 1 ≤ i + f := ⟨m + 1, by omega⟩
  induction f generalizing i v1 ls2 wl Hl locsl S with
  | zero => exact absurd hf (by omega)
  | succ f ihi =>
    obtain ⟨IB1, hL⟩ := hL
    obtain ⟨lo, lB, lC, lO, lI⟩ := id hL
    obtain ⟨⟨l32, lho, hl32⟩, lhB, lhT⟩ := id hN
    refine lv_iload_n F.1 F.2.1 d_La_chooseFirst_2 rfl (lv_at hl2 0 rfl) ?_
    refine lv_aload_n F.1 F.2.1 d_La_chooseFirst_3 rfl (lv_at hl2 1 rfl) ?_
    refine gf_La_25 F hWl (by omega) lo d_La_chooseFirst_4 ?_
    refine q_calli hWl (q_cV (As := []) (rest := [.int v1]) F hWl cs_La_53 hd_Ne_size rfl (by omega) lho (k_Ne_size l D τ A ad N wl 85 (by omega) n bh wt hN) rfl rfl ⟨by decide, by decide⟩ rfl hl2.1 rfl (Nat.le_of_ble_eq_true rfl) d_La_chooseFirst_7 ⟨Nat.le_refl _, Nat.le_refl _⟩) (fun v3 w3 H3 locs3 hp3 hW3 => ?_)
    obtain ⟨hq3, hp3⟩ := hp3
    replace hq3 := hq3.symm
    subst hq3
    refine q_icmp_ge (tgt := 42) F d_La_chooseFirst_10 (by decide) (fun c10 => ?_) (fun c10 => ?_)
    · exact q_vret F hr hlk hW3 ⟨⟨S, IB1, hL, hS, fun v => (hM v).trans (by rw [show i = m by omega])⟩, hfl⟩ d_La_chooseFirst_42
    · refine lv_aload_n F.1 F.2.1 d_La_chooseFirst_13 rfl (lv_at hl2 1 rfl) ?_
      refine q_calli hW3 (q_cV (As := []) (rest := []) F hW3 cs_La_78 hd_La_mostWanted rfl (by omega) lo (k_La_mostWanted l D τ A ad N wl hb S Bl Cl Ow IB1 hL m hm40 n bh wt hN hn ball hbm hBl hS) rfl rfl ⟨by decide, by decide⟩ rfl hl2.1 rfl (Nat.le_of_ble_eq_true rfl) d_La_chooseFirst_14 ⟨Nat.le_refl _, Nat.le_refl _⟩) (fun v4 w4 H4 locs4 hp4 hW4 => ?_)
      obtain ⟨⟨IB2, hL2⟩, hbest, hfr4⟩ := hp4
      have eM : (fun u => S.testBit u = true) = zM m ball i := funext (fun v => propext (hM v))
      rw [eM] at hbest
      replace hN := hN.keep (fun q h1 h2 => hfr4 q (by omega))
      obtain ⟨lo, lB, lC, lO, lI⟩ := id hL2
      refine lv_istore_n (lv' := [(2, .int v4), (1, .int v1), (0, .ref (ad 251))]) F.1 F.2.1 d_La_chooseFirst_17 rfl hl2 (by decide) rfl (fun ls5 hl5 => ?_)
      clear hl2
      refine lv_iload_n F.1 F.2.1 d_La_chooseFirst_18 rfl (lv_at hl5 0 rfl) ?_
      refine q_iconst F d_La_chooseFirst_19 (by decide) (fun v6 hv6 => ?_)
      refine q_icmp_ne (tgt := 24) F d_La_chooseFirst_20 (by decide) (fun c20 => ?_) (fun c20 => ?_)
      · obtain ⟨x1, x1m, x1e, -⟩ := zbest_some (n := m) (ball := ball) (M := zM m ball i) (by omega)
        refine lv_aload_n F.1 F.2.1 d_La_chooseFirst_24 rfl (lv_at hl5 2 rfl) ?_
        refine lv_dup F.1 F.2.1 d_La_chooseFirst_25 rfl ?_
        refine gf_La_33 F hW4 (by omega) lo d_La_chooseFirst_26 ?_
        refine lv_lconst (v := lN 1) F.1 F.2.1 d_La_chooseFirst_29 rfl ?_
        refine lv_iload_n F.1 F.2.1 d_La_chooseFirst_30 rfl (lv_at hl5 0 rfl) ?_
        refine q_lshl1 F x1 (by omega) (by omega) d_La_chooseFirst_31 ?_
        refine q_lor F (by omega) (Nat.pow_lt_pow_right (by decide) (by omega)) d_La_chooseFirst_32 ?_
        refine pf_La_33 F hW4 (by omega) lo d_La_chooseFirst_33 (fun H7 locs7 w7 hW7 hI7 hfr7 => ?_)
        replace lo := hI7
        replace lB := lB.keep (hfr7 _ (by omega))
        replace lC := lC.keep (hfr7 _ (by omega))
        replace lO := lO.keep (hfr7 _ (by omega))
        replace lI := lI.keep (hfr7 _ (by omega))
        replace hN := hN.keep (fun q h1 h2 => hfr7 _ (by omega))
        refine q_iinc (lv' := fun v8 => [(1, .int v8), (2, .int v4), (0, .ref (ad 251))]) F d_La_chooseFirst_36 hl5 (k := 1) rfl (by decide) (by omega) (by decide) (fun _ => rfl) (fun v8 lsv8 hv8 hlv8 => ?_)
        clear hl5
        refine lv_goto (tgt := 2) F.1 F.2.1 d_La_chooseFirst_39 (by decide) ?_
        exact ihi (i := i + 1) (v1 := v8) (ls2 := lsv8) (wl := w7) (Hl := H7) (locsl := locs7) (S := S ||| 2 ^ x1) (hiv := by omega) (hib := by omega) (hWl := hW7) (hL := ⟨IB2, lo, lB, lC, lO, lI⟩) (hN := hN) (hS := q_or_lt hS (by omega)) (hM := fun v => by rw [q_or_tb, hM, zM_s, x1e]; exact or_congr Iff.rfl (by omega)) (hfl := fun q hq => by rw [hfr7 q (by omega), hfr4 q hq]; exact hfl q hq) (hf := by omega) (hl2 := (lv_sub hlv8 [0, 2] rfl))
      · exact q_vret F hr hlk hW4 ⟨⟨S, IB2, hL2, hS, fun v => (hM v).trans (by have := zM_stop (n := m) (ball := ball) (k := i) (by omega) (m - i) v; rw [show i + (m - i) = m by omega] at this; exact this.symm)⟩, fun q hq => by rw [hfr4 q hq]; exact hfl q hq⟩ d_La_chooseFirst_23
