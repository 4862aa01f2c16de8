theorem zc_trunc {P : Nat → Prop} {m n : Nat} (h : m ≤ n) : zc (fun v => v < m ∧ P v) n = zc P m := by
  induction n with
  | zero => have : m = 0 := by omega
            subst this; rfl
  | succ n ih =>
    by_cases e : m = n + 1
    · subst e
      exact zc_congr (fun v hv => ⟨fun q => q.2, fun q => ⟨hv, q⟩⟩)
    · rw [zc_f (P := fun v => v < m ∧ P v) (fun q => by omega), ih (by omega)]
/-- so many may be in a cluster -/
noncomputable def zmo (m : Nat) (M0 : Nat → Prop) : Nat := (4 * m + zc M0 m - 1) / zc M0 m
/-- the landmarks in the end -/
noncomputable def zMK (m : Nat) (Wt : Nat → Nat → Int) (bk : Nat) : Nat → Prop := zN m (zd m Wt) (zmo m (zM m (zbl m Wt bk) m)) (zM m (zbl m Wt bk) m) m
theorem q_lt_no {P : Nat → Prop} {j v : Nat} (h : ¬ P j) : (v < j ∧ P v) ↔ (v < j + 1 ∧ P v) := by
  constructor
  · rintro ⟨a, b⟩; exact ⟨by omega, b⟩
  · rintro ⟨a, b⟩
    by_cases e : v = j
    · subst e; exact absurd b h
    · exact ⟨by omega, b⟩
theorem q_lt_yes {P : Nat → Prop} {j v : Nat} (h : P j) : ((v < j ∧ P v) ∨ v = j) ↔ (v < j + 1 ∧ P v) := by
  constructor
  · rintro (⟨a, b⟩ | e)
    · exact ⟨by omega, b⟩
    · subst e; exact ⟨by omega, h⟩
  · rintro ⟨a, b⟩
    by_cases e : v = j
    · exact Or.inr e
    · exact Or.inl ⟨by omega, b⟩
theorem q_upP {G Z : Nat → Int} {i : Nat} {x : Int} (h : ∀ a, a < i → G a = Z a) (hx : x = Z i) : ∀ a, a < i + 1 → q_up G i x a = Z a := by
  intro a ha
  unfold q_up
  by_cases e : a = i
  · subst e; rw [if_pos rfl, hx]
  · rw [if_neg e]; exact h a (by omega)
set_option maxHeartbeats 4000000 in
set_option maxRecDepth 100000 in
/-- the nearest landmark -/
theorem k_La_nearestLandmark (l : Launch) (D : va_G) (τ : Nat → ClassId) (A : Nat → Prop) (ad : Nat → Nat) (N : Nat) (w : Nat → va_E) (hb : 469 ≤ N) (S : Nat) (Bl Cl : Nat → Nat) (Ow IB : Nat → Int) (hL : qLan τ ad w S Bl Cl Ow IB) (m : Nat) (hm40 : m ≤ 40) (n : Int) (bh wt : Nat → Nat → Int) (hN : qNet τ ad w 85 n bh wt) (hn : n = m) (Wt : Nat → Nat → Int) (od : Nat → Nat → Nat) (hY : qWay τ ad w m Wt od) (hZ : zn_ok m bh wt Wt) (hS : S < 2 ^ 40) (hne : ∃ v, v < m ∧ S.testBit v = true) (x : Int32) (a : Nat) (hx : x.toInt = a) (ha : a < m) : Met l y_La_nearestLandmark (qws y_La_nearestLandmark c_La_nearestLandmark 4 (some .int)) ({ frames := 1, cells := 0, slots := 0, locals := 22 }) (qPc D τ A ad N w [.ref (ad 251), .int x]) (va_Qi (fun r w1 => w1 = w ∧ r.toInt = zow m (zd m Wt) (fun u => S.testBit u = true) a) (qB D τ A ad N) A) 0 0 A := by
  refine q_of (by decide) (Nat.le_of_ble_eq_true rfl) rfl ?_
  intro PP EE s MM below meth CC ls F hr hlk hnm hex hl hW
  have hl : lv_has ls 4 [(0, .ref (ad 251)), (1, .int x)] := hl
  obtain ⟨lo, lB, lC, lO, lI⟩ := id hL
  obtain ⟨⟨nn32, nho, hnn32⟩, nhB, nhT⟩ := id hN
  obtain ⟨hyo, ⟨FF, hyF, hyd⟩, OO, hyO, hyo2⟩ := id hY
  refine q_iconst F d_La_nearestLandmark_0 (by decide) (fun v1 hv1 => ?_)
  refine lv_istore_n (lv' := [(2, .int v1), (0, .ref (ad 251)), (1, .int x)]) F.1 F.2.1 d_La_nearestLandmark_1 rfl hl (by decide) rfl (fun ls2 hl2 => ?_)
  clear hl
  have hnn : ∀ c, c < m → zd m Wt a c ≠ -1 := fun c hc => by have := zd_bd hZ.1 ha hc; omega
  obtain ⟨i, hi0⟩ : ∃ i : Nat, i = 0 := ⟨_, rfl⟩
  have hiv : v1.toInt = (i : Int) := by omega
  have hib : i ≤ m := by omega
  have hWp := hW
  have hno : ∀ j, j < i → ¬ S.testBit (od a j) = true := fun j h => absurd h (by omega)
  clear hi0 hv1
  generalize s.heap = Hp at hWp ⊢
  generalize ([] : List Loc) = locsp at hWp ⊢
  obtain ⟨f, hf⟩ : ∃ f : Nat, m + 1 ≤ i + f := ⟨m + 1, by omega⟩
  induction f generalizing i v1 ls2 Hp locsp with
  | zero => exact absurd hf (by omega)
  | succ f ihi =>
    refine lv_iload_n F.1 F.2.1 d_La_nearestLandmark_2 rfl (lv_at hl2 0 rfl) ?_
    refine lv_aload_n F.1 F.2.1 d_La_nearestLandmark_3 rfl (lv_at hl2 1 rfl) ?_
    refine gf_La_25 F hWp (by omega) lo d_La_nearestLandmark_4 ?_
    refine q_calli hWp (q_cV (As := []) (rest := [.int v1]) F hWp cs_La_53 hd_Ne_size rfl (by omega) nho (k_Ne_size l D τ A ad N w 85 (by omega) n bh wt hN) rfl rfl ⟨by decide, by decide⟩ rfl hl2.1 rfl (Nat.le_of_ble_eq_true rfl) d_La_nearestLandmark_7 ⟨Nat.le_refl _, Nat.le_refl _⟩) (fun v3 w3 H3 locs3 hp3 hW3 => ?_)
    obtain ⟨hq3, hp3⟩ := hp3
    replace hq3 := hq3.symm
    subst hq3
    refine q_icmp_ge (tgt := 42) F d_La_nearestLandmark_10 (by decide) (fun c10 => ?_) (fun c10 => ?_)
    · exfalso
      obtain ⟨v, hv1, hv2⟩ := hne
      obtain ⟨j, j1, rfl⟩ := (hyo2 a ha).1.2.1 v hv1 (hnn v hv1)
      exact hno j (by omega) hv2
    · refine lv_aload_n F.1 F.2.1 d_La_nearestLandmark_13 rfl (lv_at hl2 1 rfl) ?_
      refine gf_La_29 F hW3 (by omega) lo d_La_nearestLandmark_14 ?_
      refine lv_iload_n F.1 F.2.1 d_La_nearestLandmark_17 rfl (lv_at hl2 2 rfl) ?_
      refine lv_iload_n F.1 F.2.1 d_La_nearestLandmark_18 rfl (lv_at hl2 0 rfl) ?_
      refine q_calli hW3 (q_cV (As := [.int x, .int v1]) (rest := []) F hW3 cs_La_73 hd_Wa_nearest rfl (by omega) hyo (k_Wa_nearest l D τ A ad N w hb m hm40 Wt od hY x v1 a i hx hiv ha (by omega)) rfl rfl ⟨by decide, by decide⟩ rfl hl2.1 rfl (Nat.le_of_ble_eq_true rfl) d_La_nearestLandmark_19 ⟨Nat.le_refl _, Nat.le_refl _⟩) (fun v4 w4 H4 locs4 hp4 hW4 => ?_)
      obtain ⟨hq4, hp4⟩ := hp4
      replace hq4 := hq4.symm
      subst hq4
      have hod := ((hyo2 a ha).1.1 i (by omega)).1
      refine lv_istore_n (lv' := [(3, .int v4), (2, .int v1), (0, .ref (ad 251)), (1, .int x)]) F.1 F.2.1 d_La_nearestLandmark_22 rfl hl2 (by decide) rfl (fun ls5 hl5 => ?_)
      clear hl2
      refine lv_aload_n F.1 F.2.1 d_La_nearestLandmark_23 rfl (lv_at hl5 2 rfl) ?_
      refine gf_La_33 F hW4 (by omega) lo d_La_nearestLandmark_24 ?_
      refine lv_iload_n F.1 F.2.1 d_La_nearestLandmark_27 rfl (lv_at hl5 0 rfl) ?_
      refine q_calli hW4 (q_cS (As := [.long (lN S), .int v4]) (rest := []) F hW4 cs_La_63 hs_La_has (k_La_has l D τ A ad N w S hS v4 (od a i) hp4 (by omega)) rfl rfl ⟨by decide, by decide⟩ rfl hl5.1 rfl (Nat.le_of_ble_eq_true rfl) d_La_nearestLandmark_28 ⟨Nat.le_refl _, Nat.le_refl _⟩) (fun v6 w6 H6 locs6 hp6 hW6 => ?_)
      obtain ⟨hq6, hp6⟩ := hp6
      replace hq6 := hq6.symm
      subst hq6
      refine q_if_eq (tgt := 36) F d_La_nearestLandmark_31 (by decide) (fun c31 => ?_) (fun c31 => ?_)
      · refine q_iinc (lv' := fun v7 => [(2, .int v7), (3, .int v4), (0, .ref (ad 251)), (1, .int x)]) F d_La_nearestLandmark_36 hl5 (k := 1) rfl (by decide) (by omega) (by decide) (fun _ => rfl) (fun v7 lsv7 hv7 hlv7 => ?_)
        clear hl5
        refine lv_goto (tgt := 2) F.1 F.2.1 d_La_nearestLandmark_39 (by decide) ?_
        exact ihi (i := i + 1) (v1 := v7) (ls2 := lsv7) (Hp := H6) (locsp := locs6) (hiv := by omega) (hib := by omega) (hWp := hW6) (hno := lt_s hno (qb_f hp6 c31)) (hf := by omega) (hl2 := (lv_sub hlv7 [0, 2, 3] rfl))
      · refine lv_iload_n F.1 F.2.1 d_La_nearestLandmark_34 rfl (lv_at hl5 0 rfl) ?_
        exact q_iret F hr hlk hW6 ⟨rfl, by rw [hp4]; exact (zow_first (mk := (fun u => S.testBit u = true)) (hyo2 a ha).1 hnn (by omega) (qb_t hp6 c31) hno).symm⟩ d_La_nearestLandmark_35
set_option maxHeartbeats 4000000 in
set_option maxRecDepth 100000 in
/-- all own landmarks -/
theorem k_La_findOwn (l : Launch) (D : va_G) (τ : Nat → ClassId) (A : Nat → Prop) (ad : Nat → Nat) (N : Nat) (w : Nat → va_E) (hb : 469 ≤ N) (S : Nat) (Bl Cl : Nat → Nat) (Ow IB : Nat → Int) (hL : qLan τ ad w S Bl Cl Ow IB) (m : Nat) (hm40 : m ≤ 40) (n : Int) (bh wt : Nat → Nat → Int) (hN : qNet τ ad w 85 n bh wt) (hn : n = m) (Wt : Nat → Nat → Int) (od : Nat → Nat → Nat) (hY : qWay τ ad w m Wt od) (hZ : zn_ok m bh wt Wt) (hS : S < 2 ^ 40) (hne : ∃ v, v < m ∧ S.testBit v = true) : Met l y_La_findOwn (qws y_La_findOwn c_La_findOwn 2 none) ({ frames := 2, cells := 0, slots := 0, locals := 45 }) (qPc D τ A ad N w [.ref (ad 251)]) (va_Qv (fun w1 => (∃ Ow1, qLan τ ad w1 S Bl Cl Ow1 IB ∧ ∀ a, a < m → Ow1 a = zow m (zd m Wt) (fun u => S.testBit u = true) a) ∧ (∀ q, (q < 251 ∨ 256 ≤ q) → w1 q = w q)) (qB D τ A ad N) A) 0 0 A := by
  refine q_of (by decide) (Nat.le_of_ble_eq_true rfl) rfl ?_
  intro PP EE s MM below meth CC ls F hr hlk hnm hex hl hW
  have hl : lv_has ls 2 [(0, .ref (ad 251))] := hl
  obtain ⟨lo, lB, lC, lO, lI⟩ := id hL
  obtain ⟨⟨nn32, nho, hnn32⟩, nhB, nhT⟩ := id hN
  obtain ⟨hyo, ⟨FF, hyF, hyd⟩, OO, hyO, hyo2⟩ := id hY
  refine q_iconst F d_La_findOwn_0 (by decide) (fun v1 hv1 => ?_)
  refine lv_istore_n (lv' := [(1, .int v1), (0, .ref (ad 251))]) F.1 F.2.1 d_La_findOwn_1 rfl hl (by decide) rfl (fun ls2 hl2 => ?_)
  clear hl
  obtain ⟨i, hi0⟩ : ∃ i : Nat, i = 0 := ⟨_, rfl⟩
  have hiv : v1.toInt = (i : Int) := by omega
  have hib : i ≤ m := by omega
  obtain ⟨wl, hwl⟩ : ∃ x : Nat → va_E, x = w := ⟨_, rfl⟩
  have hWl : qW D τ A s s.heap ([] : List Loc) ad N wl := by rw [hwl]; exact hW
  have lo : wl 251 = .inr (1, [.ref (ad 85), .ref (ad 168), .ref (ad 252), .ref (ad 253), .ref (ad 254), .ref (ad 255), .long (lN S)]) := by rw [hwl]; exact lo
  have lB : q_J τ wl 252 40 Bl := by rw [hwl]; exact lB
  have lC : q_J τ wl 253 40 Cl := by rw [hwl]; exact lC
  have lI : q_I τ wl 255 40 IB := by rw [hwl]; exact lI
  have hN : qNet τ ad wl 85 n bh wt := by rw [hwl]; exact hN
  have hY : qWay τ ad wl m Wt od := by rw [hwl]; exact hY
  have hfl : (∀ q, (q < 251 ∨ 256 ≤ q) → wl q = w q) := fun q _ => by rw [hwl]
  have hO : ∃ Ow1, q_I τ wl 254 40 Ow1 ∧ ∀ a, a < i → Ow1 a = zow m (zd m Wt) (fun u => S.testBit u = true) a := ⟨Ow, by rw [hwl]; exact lO, fun a h => absurd h (by omega)⟩
  clear hi0 hv1 hwl
  generalize s.heap = Hl at hWl ⊢
  generalize ([] : List Loc) = locsl at hWl ⊢
  obtain ⟨f, hf⟩ : ∃ f : Nat, m + 1 ≤ i + f := ⟨m + 1, by omega⟩
  induction f generalizing i v1 ls2 wl Hl locsl with
  | zero => exact absurd hf (by omega)
  | succ f ihi =>
    obtain ⟨Ow1, lO, hO1⟩ := hO
    obtain ⟨⟨l32, lho, hl32⟩, lhB, lhT⟩ := id hN
    obtain ⟨hyo, ⟨FF, hyF, hyd⟩, OO, hyO, hyo2⟩ := id hY
    refine lv_iload_n F.1 F.2.1 d_La_findOwn_2 rfl (lv_at hl2 0 rfl) ?_
    refine lv_aload_n F.1 F.2.1 d_La_findOwn_3 rfl (lv_at hl2 1 rfl) ?_
    refine gf_La_25 F hWl (by omega) lo d_La_findOwn_4 ?_
    refine q_calli hWl (q_cV (As := []) (rest := [.int v1]) F hWl cs_La_53 hd_Ne_size rfl (by omega) lho (k_Ne_size l D τ A ad N wl 85 (by omega) n bh wt hN) rfl rfl ⟨by decide, by decide⟩ rfl hl2.1 rfl (Nat.le_of_ble_eq_true rfl) d_La_findOwn_7 ⟨Nat.le_refl _, Nat.le_refl _⟩) (fun v3 w3 H3 locs3 hp3 hW3 => ?_)
    obtain ⟨hq3, hp3⟩ := hp3
    replace hq3 := hq3.symm
    subst hq3
    refine q_icmp_ge (tgt := 30) F d_La_findOwn_10 (by decide) (fun c10 => ?_) (fun c10 => ?_)
    · exact q_vret F hr hlk hW3 ⟨⟨Ow1, ⟨lo, lB, lC, lO, lI⟩, fun a ha => hO1 a (by omega)⟩, hfl⟩ d_La_findOwn_30
    · refine lv_aload_n F.1 F.2.1 d_La_findOwn_13 rfl (lv_at hl2 1 rfl) ?_
      refine gf_La_18 F hW3 (by omega) lo d_La_findOwn_14 ?_
      refine lv_iload_n F.1 F.2.1 d_La_findOwn_17 rfl (lv_at hl2 0 rfl) ?_
      refine lv_aload_n F.1 F.2.1 d_La_findOwn_18 rfl (lv_at hl2 1 rfl) ?_
      refine lv_iload_n F.1 F.2.1 d_La_findOwn_19 rfl (lv_at hl2 0 rfl) ?_
      refine q_calli hW3 (q_cV (As := [.int v1]) (rest := [.int v1, .ref (ad 254)]) F hW3 cs_La_109 hd_La_nearestLandmark rfl (by omega) lo (k_La_nearestLandmark l D τ A ad N wl hb S Bl Cl Ow1 IB ⟨lo, lB, lC, lO, lI⟩ m hm40 n bh wt hN hn Wt od hY hZ hS hne v1 i hiv (by omega)) rfl rfl ⟨by decide, by decide⟩ rfl hl2.1 rfl (Nat.le_of_ble_eq_true rfl) d_La_findOwn_20 ⟨Nat.le_refl _, Nat.le_refl _⟩) (fun v4 w4 H4 locs4 hp4 hW4 => ?_)
      obtain ⟨hq4, hp4⟩ := hp4
      replace hq4 := hq4.symm
      subst hq4
      refine q_iast F hW4 lO (by omega) i (by omega) (by omega) d_La_findOwn_23 (fun H5 locs5 w5 hW5 hI5 hfr5 => ?_)
      replace lo := (hfr5 _ (by omega)).trans lo
      replace lho := (hfr5 _ (by omega)).trans lho
      replace hyo := (hfr5 _ (by omega)).trans hyo
      replace lB := lB.keep (hfr5 _ (by omega))
      replace lC := lC.keep (hfr5 _ (by omega))
      replace lO := hI5
      replace lI := lI.keep (hfr5 _ (by omega))
      replace hN := hN.keep (fun q h1 h2 => hfr5 _ (by omega))
      replace hY := hY.keep (fun q h1 h2 => hfr5 _ (by omega))
      replace hfl : (∀ q, (q < 251 ∨ 256 ≤ q) → w5 q = w q) := fun q hq => by rw [hfr5 q (by omega)]; exact hfl q hq
      refine q_iinc (lv' := fun v6 => [(1, .int v6), (0, .ref (ad 251))]) F d_La_findOwn_24 hl2 (k := 0) rfl (by decide) (by omega) (by decide) (fun _ => rfl) (fun v6 lsv6 hv6 hlv6 => ?_)
      clear hl2
      refine lv_goto (tgt := 2) F.1 F.2.1 d_La_findOwn_27 (by decide) ?_
      exact ihi (i := i + 1) (v1 := v6) (ls2 := lsv6) (wl := w5) (Hl := H5) (locsl := locs5) (hiv := by omega) (hib := by omega) (hWl := hW5) (lo := lo) (lB := lB) (lC := lC) (lI := lI) (hN := hN) (hY := hY) (hfl := hfl) (hO := ⟨_, lO, q_upP hO1 hp4⟩) (hf := by omega) (hl2 := (lv_sub hlv6 [0, 1] rfl))
set_option maxHeartbeats 4000000 in
set_option maxRecDepth 100000 in
/-- all clusters -/
theorem k_La_fillClusters (l : Launch) (D : va_G) (τ : Nat → ClassId) (A : Nat → Prop) (ad : Nat → Nat) (N : Nat) (w : Nat → va_E) (hb : 469 ≤ N) (S : Nat) (Bl Cl : Nat → Nat) (Ow IB : Nat → Int) (hL : qLan τ ad w S Bl Cl Ow IB) (m : Nat) (hm40 : m ≤ 40) (n : Int) (bh wt : Nat → Nat → Int) (hN : qNet τ ad w 85 n bh wt) (hn : n = m) (Wt : Nat → Nat → Int) (od : Nat → Nat → Nat) (hY : qWay τ ad w m Wt od) (hZ : zn_ok m bh wt Wt) (hS : S < 2 ^ 40) (hne : ∃ v, v < m ∧ S.testBit v = true) (hOw : ∀ a, a < m → Ow a = zow m (zd m Wt) (fun u => S.testBit u = true) a) : Met l y_La_fillClusters (qws y_La_fillClusters c_La_fillClusters 3 none) ({ frames := 1, cells := 0, slots := 0, locals := 22 }) (qPc D τ A ad N w [.ref (ad 251)]) (va_Qv (fun w1 => (∃ Cl1, qLan τ ad w1 S Bl Cl1 Ow IB ∧ ∀ a, a < m → Cl1 a < 2 ^ 40 ∧ ∀ v, ((Cl1 a).testBit v = true ↔ v < m ∧ znr m (zd m Wt) (fun u => S.testBit u = true) a v)) ∧ (∀ q, (q < 251 ∨ 256 ≤ q) → w1 q = w q)) (qB D τ A ad N) A) 0 0 A := by
  refine q_of (by decide) (Nat.le_of_ble_eq_true rfl) rfl ?_
  intro PP EE s MM below meth CC ls F hr hlk hnm hex hl hW
  have hl : lv_has ls 3 [(0, .ref (ad 251))] := hl
  obtain ⟨lo, lB, lC, lO, lI⟩ := id hL
  obtain ⟨⟨nn32, nho, hnn32⟩, nhB, nhT⟩ := id hN
  obtain ⟨hyo, ⟨FF, hyF, hyd⟩, OO, hyO, hyo2⟩ := id hY
  refine q_iconst F d_La_fillClusters_0 (by decide) (fun v1 hv1 => ?_)
  refine lv_istore_n (lv' := [(1, .int v1), (0, .ref (ad 251))]) F.1 F.2.1 d_La_fillClusters_1 rfl hl (by decide) rfl (fun ls2 hl2 => ?_)
  clear hl
  obtain ⟨i, hi0⟩ : ∃ i : Nat, i = 0 := ⟨_, rfl⟩
  have hiv : v1.toInt = (i : Int) := by omega
  have hib : i ≤ m := by omega
  obtain ⟨wl, hwl⟩ : ∃ x : Nat → va_E, x = w := ⟨_, rfl⟩
  have hWl : qW D τ A s s.heap ([] : List Loc) ad N wl := by rw [hwl]; exact hW
  have lo : wl 251 = .inr (1, [.ref (ad 85), .ref (ad 168), .ref (ad 252), .ref (ad 253), .ref (ad 254), .ref (ad 255), .long (lN S)]) := by rw [hwl]; exact lo
  have lB : q_J τ wl 252 40 Bl := by rw [hwl]; exact lB
  have lO : q_I τ wl 254 40 Ow := by rw [hwl]; exact lO
  have lI : q_I τ wl 255 40 IB := by rw [hwl]; exact lI
  have hN : qNet τ ad wl 85 n bh wt := by rw [hwl]; exact hN
  have hY : qWay τ ad wl m Wt od := by rw [hwl]; exact hY
  have hfl : (∀ q, (q < 251 ∨ 256 ≤ q) → wl q = w q) := fun q _ => by rw [hwl]
  have hC : ∃ Cl1, q_J τ wl 253 40 Cl1 ∧ ∀ a, a < i → Cl1 a < 2 ^ 40 ∧ ∀ v, ((Cl1 a).testBit v = true ↔ v < m ∧ znr m (zd m Wt) (fun u => S.testBit u = true) a v) := ⟨Cl, by rw [hwl]; exact lC, fun a h => absurd h (by omega)⟩
  clear hi0 hv1 hwl
  generalize s.heap = Hl at hWl ⊢
  generalize ([] : List Loc) = locsl at hWl ⊢
  obtain ⟨f, hf⟩ : ∃ f : Nat, m + 1 ≤ i + f := ⟨m + 1, by omega⟩
  induction f generalizing i v1 ls2 wl Hl locsl with
  | zero => exact absurd hf (by omega)
  | succ f ihi =>
    obtain ⟨Cl1, lC, hC1⟩ := hC
    obtain ⟨⟨l32, lho, hl32⟩, lhB, lhT⟩ := id hN
    obtain ⟨hyo, ⟨FF, hyF, hyd⟩, OO, hyO, hyo2⟩ := id hY
    refine lv_iload_n F.1 F.2.1 d_La_fillClusters_2 rfl (lv_at hl2 0 rfl) ?_
    refine lv_aload_n F.1 F.2.1 d_La_fillClusters_3 rfl (lv_at hl2 1 rfl) ?_
    refine gf_La_25 F hWl (by omega) lo d_La_fillClusters_4 ?_
    refine q_calli hWl (q_cV (As := []) (rest := [.int v1]) F hWl cs_La_53 hd_Ne_size rfl (by omega) lho (k_Ne_size l D τ A ad N wl 85 (by omega) n bh wt hN) rfl rfl ⟨by decide, by decide⟩ rfl hl2.1 rfl (Nat.le_of_ble_eq_true rfl) d_La_fillClusters_7 ⟨Nat.le_refl _, Nat.le_refl _⟩) (fun v3 w3 H3 locs3 hp3 hW3 => ?_)
    obtain ⟨hq3, hp3⟩ := hp3
    replace hq3 := hq3.symm
    subst hq3
    refine q_icmp_ge (tgt := 83) F d_La_fillClusters_10 (by decide) (fun c10 => ?_) (fun c10 => ?_)
    · exact q_vret F hr hlk hW3 ⟨⟨Cl1, ⟨lo, lB, lC, lO, lI⟩, fun a ha => hC1 a (by omega)⟩, hfl⟩ d_La_fillClusters_83
    · refine lv_aload_n F.1 F.2.1 d_La_fillClusters_13 rfl (lv_at hl2 1 rfl) ?_
      refine gf_La_15 F hW3 (by omega) lo d_La_fillClusters_14 ?_
      refine lv_iload_n F.1 F.2.1 d_La_fillClusters_17 rfl (lv_at hl2 0 rfl) ?_
      refine lv_lconst (v := lN 0) F.1 F.2.1 d_La_fillClusters_18 rfl ?_
      refine q_last F hW3 lC (by omega) i (by omega) (by omega) d_La_fillClusters_19 (fun H4 locs4 w4 hW4 hI4 hfr4 => ?_)
      replace lo := (hfr4 _ (by omega)).trans lo
      replace lho := (hfr4 _ (by omega)).trans lho
      replace hyo := (hfr4 _ (by omega)).trans hyo
      replace lB := lB.keep (hfr4 _ (by omega))
      replace lC := hI4
      replace lO := lO.keep (hfr4 _ (by omega))
      replace lI := lI.keep (hfr4 _ (by omega))
      replace hN := hN.keep (fun q h1 h2 => hfr4 _ (by omega))
      replace hY := hY.keep (fun q h1 h2 => hfr4 _ (by omega))
      replace hfl : (∀ q, (q < 251 ∨ 256 ≤ q) → w4 q = w q) := fun q hq => by rw [hfr4 q (by omega)]; exact hfl q hq
      refine q_iconst F d_La_fillClusters_20 (by decide) (fun v5 hv5 => ?_)
      refine lv_istore_n (lv' := [(2, .int v5), (1, .int v1), (0, .ref (ad 251))]) F.1 F.2.1 d_La_fillClusters_21 rfl hl2 (by decide) rfl (fun ls6 hl6 => ?_)
      clear hl2
      obtain ⟨j, hj0⟩ : ∃ j : Nat, j = 0 := ⟨_, rfl⟩
      have hjv : v5.toInt = (j : Int) := by omega
      have hjb : j ≤ m := by omega
      obtain ⟨wk, hwk⟩ : ∃ x : Nat → va_E, x = w4 := ⟨_, rfl⟩
      have hWk : qW D τ A s H4 locs4 ad N wk := by rw [hwk]; exact hW4
      have lo : wk 251 = .inr (1, [.ref (ad 85), .ref (ad 168), .ref (ad 252), .ref (ad 253), .ref (ad 254), .ref (ad 255), .long (lN S)]) := by rw [hwk]; exact lo
      have lB : q_J τ wk 252 40 Bl := by rw [hwk]; exact lB
      have lO : q_I τ wk 254 40 Ow := by rw [hwk]; exact lO
      have lI : q_I τ wk 255 40 IB := by rw [hwk]; exact lI
      have hN : qNet τ ad wk 85 n bh wt := by rw [hwk]; exact hN
      have hY : qWay τ ad wk m Wt od := by rw [hwk]; exact hY
      have hfl : (∀ q, (q < 251 ∨ 256 ≤ q) → wk q = w q) := by rw [hwk]; exact hfl
      have hC : ∃ (Cl2 : Nat → Nat), q_J τ wk 253 40 Cl2 ∧ (∀ a, a < i → Cl2 a < 2 ^ 40 ∧ ∀ v, ((Cl2 a).testBit v = true ↔ v < m ∧ znr m (zd m Wt) (fun u => S.testBit u = true) a v)) ∧ Cl2 i < 2 ^ 40 ∧ ∀ v, ((Cl2 i).testBit v = true ↔ v < j ∧ znr m (zd m Wt) (fun u => S.testBit u = true) i v) := ⟨_, by rw [hwk]; exact lC, fun a ha => by rw [q_upN_ne (by omega)]; exact hC1 a ha, by rw [q_upN_eq]; decide, fun v => by rw [q_upN_eq, hj0]; simp⟩
      clear hj0 hv5 hwk
      generalize H4 = Hk at hWk ⊢
      generalize locs4 = locsk at hWk ⊢
      obtain ⟨g, hg⟩ : ∃ g : Nat, m + 1 ≤ j + g := ⟨m + 1, by omega⟩
      induction g generalizing j v5 ls6 wk Hk locsk with
      | zero => exact absurd hg (by omega)
      | succ g ihj =>
        obtain ⟨Cl2, lC, hC2, hC3, hC4⟩ := hC
        obtain ⟨⟨l32, lho, hl32⟩, lhB, lhT⟩ := id hN
        obtain ⟨hyo, ⟨FF, hyF, hyd⟩, OO, hyO, hyo2⟩ := id hY
        refine lv_iload_n F.1 F.2.1 d_La_fillClusters_22 rfl (lv_at hl6 0 rfl) ?_
        refine lv_aload_n F.1 F.2.1 d_La_fillClusters_23 rfl (lv_at hl6 2 rfl) ?_
        refine gf_La_25 F hWk (by omega) lo d_La_fillClusters_24 ?_
        refine q_calli hWk (q_cV (As := []) (rest := [.int v5]) F hWk cs_La_53 hd_Ne_size rfl (by omega) lho (k_Ne_size l D τ A ad N wk 85 (by omega) n bh wt hN) rfl rfl ⟨by decide, by decide⟩ rfl hl6.1 rfl (Nat.le_of_ble_eq_true rfl) d_La_fillClusters_27 ⟨Nat.le_refl _, Nat.le_refl _⟩) (fun v7 w7 H7 locs7 hp7 hW7 => ?_)
        obtain ⟨hq7, hp7⟩ := hp7
        replace hq7 := hq7.symm
        subst hq7
        refine q_icmp_ge (tgt := 77) F d_La_fillClusters_30 (by decide) (fun c30 => ?_) (fun c30 => ?_)
        · refine q_iinc (lv' := fun v8 => [(1, .int v8), (2, .int v5), (0, .ref (ad 251))]) F d_La_fillClusters_77 hl6 (k := 1) rfl (by decide) (by omega) (by decide) (fun _ => rfl) (fun v8 lsv8 hv8 hlv8 => ?_)
          clear hl6
          refine lv_goto (tgt := 2) F.1 F.2.1 d_La_fillClusters_80 (by decide) ?_
          exact ihi (i := i + 1) (v1 := v8) (ls2 := lsv8) (wl := wk) (Hl := H7) (locsl := locs7) (hiv := by omega) (hib := by omega) (hWl := hW7) (lo := lo) (lB := lB) (lO := lO) (lI := lI) (hN := hN) (hY := hY) (hfl := hfl) (hC := ⟨Cl2, lC, lt_s hC2 ⟨hC3, fun v => by rw [hC4, show j = m by omega]⟩⟩) (hf := by omega) (hl2 := (lv_sub hlv8 [0, 2] rfl))
        · obtain ⟨o1, o1m, o1e, -⟩ := zow_some (d := (zd m Wt)) (mk := (fun u => S.testBit u = true)) (a := j) hne
          have hOj := hOw j (by omega)
          refine lv_aload_n F.1 F.2.1 d_La_fillClusters_33 rfl (lv_at hl6 2 rfl) ?_
          refine gf_La_29 F hW7 (by omega) lo d_La_fillClusters_34 ?_
          refine lv_iload_n F.1 F.2.1 d_La_fillClusters_37 rfl (lv_at hl6 1 rfl) ?_
          refine lv_iload_n F.1 F.2.1 d_La_fillClusters_38 rfl (lv_at hl6 0 rfl) ?_
          refine q_calli hW7 (q_cV (As := [.int v1, .int v5]) (rest := []) F hW7 cs_La_112 hd_Wa_far rfl (by omega) hyo (k_Wa_far l D τ A ad N wk hb m hm40 Wt od hY v1 v5 i j hiv hjv (by omega) (by omega)) rfl rfl ⟨by decide, by decide⟩ rfl hl6.1 rfl (Nat.le_of_ble_eq_true rfl) d_La_fillClusters_39 ⟨Nat.le_refl _, Nat.le_refl _⟩) (fun v9 w9 H9 locs9 hp9 hW9 => ?_)
          obtain ⟨hq9, hp9⟩ := hp9
          replace hq9 := hq9.symm
          subst hq9
          refine lv_aload_n F.1 F.2.1 d_La_fillClusters_42 rfl (lv_at hl6 2 rfl) ?_
          refine gf_La_29 F hW9 (by omega) lo d_La_fillClusters_43 ?_
          refine lv_iload_n F.1 F.2.1 d_La_fillClusters_46 rfl (lv_at hl6 0 rfl) ?_
          refine lv_aload_n F.1 F.2.1 d_La_fillClusters_47 rfl (lv_at hl6 2 rfl) ?_
          refine gf_La_18 F hW9 (by omega) lo d_La_fillClusters_48 ?_
          refine lv_iload_n F.1 F.2.1 d_La_fillClusters_51 rfl (lv_at hl6 0 rfl) ?_
          refine q_iald F hW9 lO (by omega) j (by omega) (by omega) d_La_fillClusters_52 (fun v10 hv10 => ?_)
          refine q_calli hW9 (q_cV (As := [.int v5, .int v10]) (rest := [.int v9]) F hW9 cs_La_112 hd_Wa_far rfl (by omega) hyo (k_Wa_far l D τ A ad N wk hb m hm40 Wt od hY v5 v10 j o1 hjv (by omega) (by omega) o1m) rfl rfl ⟨by decide, by decide⟩ rfl hl6.1 rfl (Nat.le_of_ble_eq_true rfl) d_La_fillClusters_53 ⟨Nat.le_refl _, Nat.le_refl _⟩) (fun v11 w11 H11 locs11 hp11 hW11 => ?_)
          obtain ⟨hq11, hp11⟩ := hp11
          replace hq11 := hq11.symm
          subst hq11
          have hnr : znr m (zd m Wt) (fun u => S.testBit u = true) i j ↔ zd m Wt i j < zd m Wt j o1 := by unfold znr; rw [o1e]; simp only [Int.toNat_natCast]
          refine q_icmp_ge (tgt := 71) F d_La_fillClusters_56 (by decide) (fun c56 => ?_) (fun c56 => ?_)
          · have hno : ¬ znr m (zd m Wt) (fun u => S.testBit u = true) i j := fun z => by have := hnr.mp z; omega
            refine q_iinc (lv' := fun v12 => [(2, .int v12), (1, .int v1), (0, .ref (ad 251))]) F d_La_fillClusters_71 hl6 (k := 0) rfl (by decide) (by omega) (by decide) (fun _ => rfl) (fun v12 lsv12 hv12 hlv12 => ?_)
            clear hl6
            refine lv_goto (tgt := 22) F.1 F.2.1 d_La_fillClusters_74 (by decide) ?_
            exact ihj (j := j + 1) (v5 := v12) (ls6 := lsv12) (wk := wk) (Hk := H11) (locsk := locs11) (hjv := by omega) (hjb := by omega) (hWk := hW11) (lo := lo) (lB := lB) (lO := lO) (lI := lI) (hN := hN) (hY := hY) (hfl := hfl) (hC := ⟨Cl2, lC, hC2, hC3, fun v => (hC4 v).trans (q_lt_no hno)⟩) (hg := by omega) (hl6 := (lv_sub hlv12 [0, 1, 2] rfl))
          · have hyes : znr m (zd m Wt) (fun u => S.testBit u = true) i j := hnr.mpr (by omega)
            refine lv_aload_n F.1 F.2.1 d_La_fillClusters_59 rfl (lv_at hl6 2 rfl) ?_
            refine gf_La_15 F hW11 (by omega) lo d_La_fillClusters_60 ?_
            refine lv_iload_n F.1 F.2.1 d_La_fillClusters_63 rfl (lv_at hl6 1 rfl) ?_
            refine lv_dup2_11 F.1 F.2.1 d_La_fillClusters_64 rfl rfl ?_
            refine q_lald F hW11 lC (by omega) i (by omega) (by omega) d_La_fillClusters_65 ?_
            refine lv_lconst (v := lN 1) F.1 F.2.1 d_La_fillClusters_66 rfl ?_
            refine lv_iload_n F.1 F.2.1 d_La_fillClusters_67 rfl (lv_at hl6 0 rfl) ?_
            refine q_lshl1 F j (by omega) (by omega) d_La_fillClusters_68 ?_
            refine q_lor F (by omega) (Nat.pow_lt_pow_right (by decide) (by omega)) d_La_fillClusters_69 ?_
            refine q_last F hW11 lC (by omega) i (by omega) (by omega) d_La_fillClusters_70 (fun H13 locs13 w13 hW13 hI13 hfr13 => ?_)
            replace lo := (hfr13 _ (by omega)).trans lo
            replace lho := (hfr13 _ (by omega)).trans lho
            replace hyo := (hfr13 _ (by omega)).trans hyo
            replace lB := lB.keep (hfr13 _ (by omega))
            replace lC := hI13
            replace lO := lO.keep (hfr13 _ (by omega))
            replace lI := lI.keep (hfr13 _ (by omega))
            replace hN := hN.keep (fun q h1 h2 => hfr13 _ (by omega))
            replace hY := hY.keep (fun q h1 h2 => hfr13 _ (by omega))
            replace hfl : (∀ q, (q < 251 ∨ 256 ≤ q) → w13 q = w q) := fun q hq => by rw [hfr13 q (by omega)]; exact hfl q hq
            refine q_iinc (lv' := fun v14 => [(2, .int v14), (1, .int v1), (0, .ref (ad 251))]) F d_La_fillClusters_71 hl6 (k := 0) rfl (by decide) (by omega) (by decide) (fun _ => rfl) (fun v14 lsv14 hv14 hlv14 => ?_)
            clear hl6
            refine lv_goto (tgt := 22) F.1 F.2.1 d_La_fillClusters_74 (by decide) ?_
            exact ihj (j := j + 1) (v5 := v14) (ls6 := lsv14) (wk := w13) (Hk := H13) (locsk := locs13) (hjv := by omega) (hjb := by omega) (hWk := hW13) (lo := lo) (lB := lB) (lO := lO) (lI := lI) (hN := hN) (hY := hY) (hfl := hfl) (hC := ⟨_, lC, fun a ha => by rw [q_upN_ne (by omega)]; exact hC2 a ha, by rw [q_upN_eq]; exact q_or_lt hC3 (by omega), fun v => by rw [q_upN_eq, q_or_tb, hC4]; exact q_lt_yes hyes⟩) (hg := by omega) (hl6 := (lv_sub hlv14 [0, 1, 2] rfl))
set_option maxHeartbeats 4000000 in
set_option maxRecDepth 100000 in
/-- the lowest crowded one -/
theorem k_La_lowestCrowded (l : Launch) (D : va_G) (τ : Nat → ClassId) (A : Nat → Prop) (ad : Nat → Nat) (N : Nat) (w : Nat → va_E) (hb : 469 ≤ N) (S : Nat) (Bl Cl : Nat → Nat) (Ow IB : Nat → Int) (hL : qLan τ ad w S Bl Cl Ow IB) (m : Nat) (hm40 : m ≤ 40) (n : Int) (bh wt : Nat → Nat → Int) (hN : qNet τ ad w 85 n bh wt) (hn : n = m) (Wt : Nat → Nat → Int) (hCl : ∀ a, a < m → Cl a < 2 ^ 40 ∧ ∀ v, ((Cl a).testBit v = true ↔ v < m ∧ znr m (zd m Wt) (fun u => S.testBit u = true) a v)) (x : Int32) (mo : Nat) (hx : x.toInt = mo) : Met l y_La_lowestCrowded (qws y_La_lowestCrowded c_La_lowestCrowded 3 (some .int)) ({ frames := 2, cells := 0, slots := 0, locals := 42 }) (qPc D τ A ad N w [.ref (ad 251), .int x]) (va_Qi (fun r w1 => w1 = w ∧ r.toInt = zcd m (zd m Wt) mo (fun u => S.testBit u = true)) (qB D τ A ad N) A) 0 0 A := by
  refine q_of (by decide) (Nat.le_of_ble_eq_true rfl) rfl ?_
  intro PP EE s MM below meth CC ls F hr hlk hnm hex hl hW
  have hl : lv_has ls 3 [(0, .ref (ad 251)), (1, .int x)] := hl
  obtain ⟨lo, lB, lC, lO, lI⟩ := id hL
  obtain ⟨⟨nn32, nho, hnn32⟩, nhB, nhT⟩ := id hN
  refine q_iconst F d_La_lowestCrowded_0 (by decide) (fun v1 hv1 => ?_)
  refine lv_istore_n (lv' := [(2, .int v1), (0, .ref (ad 251)), (1, .int x)]) F.1 F.2.1 d_La_lowestCrowded_1 rfl hl (by decide) rfl (fun ls2 hl2 => ?_)
  clear hl
  obtain ⟨i, hi0⟩ : ∃ i : Nat, i = 0 := ⟨_, rfl⟩
  have hiv : v1.toInt = (i : Int) := by omega
  have hib : i ≤ m := by omega
  have hWp := hW
  have hno : ∀ j, j < i → ¬ mo < zcw m (zd m Wt) (fun u => S.testBit u = true) j := fun j h => absurd h (by omega)
  clear hi0 hv1
  generalize s.heap = Hp at hWp ⊢
  generalize ([] : List Loc) = locsp at hWp ⊢
  obtain ⟨f, hf⟩ : ∃ f : Nat, m + 1 ≤ i + f := ⟨m + 1, by omega⟩
  induction f generalizing i v1 ls2 Hp locsp with
  | zero => exact absurd hf (by omega)
  | succ f ihi =>
    refine lv_iload_n F.1 F.2.1 d_La_lowestCrowded_2 rfl (lv_at hl2 0 rfl) ?_
    refine lv_aload_n F.1 F.2.1 d_La_lowestCrowded_3 rfl (lv_at hl2 1 rfl) ?_
    refine gf_La_25 F hWp (by omega) lo d_La_lowestCrowded_4 ?_
    refine q_calli hWp (q_cV (As := []) (rest := [.int v1]) F hWp cs_La_53 hd_Ne_size rfl (by omega) nho (k_Ne_size l D τ A ad N w 85 (by omega) n bh wt hN) rfl rfl ⟨by decide, by decide⟩ rfl hl2.1 rfl (Nat.le_of_ble_eq_true rfl) d_La_lowestCrowded_7 ⟨Nat.le_refl _, Nat.le_refl _⟩) (fun v3 w3 H3 locs3 hp3 hW3 => ?_)
    obtain ⟨hq3, hp3⟩ := hp3
    replace hq3 := hq3.symm
    subst hq3
    refine q_icmp_ge (tgt := 30) F d_La_lowestCrowded_10 (by decide) (fun c10 => ?_) (fun c10 => ?_)
    · refine q_iconst F d_La_lowestCrowded_30 (by decide) (fun v4 hv4 => ?_)
      exact q_iret F hr hlk hW3 ⟨rfl, by rw [hv4]; exact zf_eq (Or.inr ⟨rfl, fun v hv => hno v (by omega)⟩)⟩ d_La_lowestCrowded_31
    · obtain ⟨hc1, hc2⟩ := hCl i (by omega)
      have hcw : zc (fun u => (Cl i).testBit u = true) 40 = zcw m (zd m Wt) (fun u => S.testBit u = true) i := (zc_congr (fun v _ => hc2 v)).trans (zc_trunc hm40)
      refine lv_aload_n F.1 F.2.1 d_La_lowestCrowded_13 rfl (lv_at hl2 1 rfl) ?_
      refine lv_iload_n F.1 F.2.1 d_La_lowestCrowded_14 rfl (lv_at hl2 0 rfl) ?_
      refine q_calli hW3 (q_cV (As := [.int v1]) (rest := []) F hW3 cs_La_106 hd_La_clusterSize rfl (by omega) lo (k_La_clusterSize l D τ A ad N w hb S Bl Cl Ow IB hL v1 i hiv (by omega) hc1) rfl rfl ⟨by decide, by decide⟩ rfl hl2.1 rfl (Nat.le_of_ble_eq_true rfl) d_La_lowestCrowded_15 ⟨Nat.le_refl _, Nat.le_refl _⟩) (fun v5 w5 H5 locs5 hp5 hW5 => ?_)
      obtain ⟨hq5, hp5⟩ := hp5
      replace hq5 := hq5.symm
      subst hq5
      rw [hcw] at hp5
      refine lv_iload_n F.1 F.2.1 d_La_lowestCrowded_18 rfl (lv_at hl2 2 rfl) ?_
      refine q_icmp_le (tgt := 24) F d_La_lowestCrowded_19 (by decide) (fun c19 => ?_) (fun c19 => ?_)
      · refine q_iinc (lv' := fun v6 => [(2, .int v6), (0, .ref (ad 251)), (1, .int x)]) F d_La_lowestCrowded_24 hl2 (k := 0) rfl (by decide) (by omega) (by decide) (fun _ => rfl) (fun v6 lsv6 hv6 hlv6 => ?_)
        clear hl2
        refine lv_goto (tgt := 2) F.1 F.2.1 d_La_lowestCrowded_27 (by decide) ?_
        exact ihi (i := i + 1) (v1 := v6) (ls2 := lsv6) (Hp := H5) (locsp := locs5) (hiv := by omega) (hib := by omega) (hWp := hW5) (hno := lt_s hno (by omega)) (hf := by omega) (hl2 := (lv_sub hlv6 [0, 1, 2] rfl))
      · refine lv_iload_n F.1 F.2.1 d_La_lowestCrowded_22 rfl (lv_at hl2 0 rfl) ?_
        exact q_iret F hr hlk hW5 ⟨rfl, by rw [hiv]; exact zf_eq (Or.inl ⟨i, by omega, rfl, by show mo < zcw m (zd m Wt) (fun u => S.testBit u = true) i; omega, hno⟩)⟩ d_La_lowestCrowded_23
