theorem q_G.rows {τ : Nat → ClassId} {ad : Nat → Nat} {w : Nat → va_E} {k n r i : Nat} {M Z : Nat → Nat → Int} {G : Nat → Int} (h : q_G τ ad w k n r (fun a b => if a = i then G b else (if a < i then Z a b else M a b))) (e : ∀ b, b < r → G b = Z i b) : q_G τ ad w k n r (fun a b => if a < i + 1 then Z a b else M a b) := by
  refine h.congr (fun a b _ hb => ?_)
  by_cases q : a = i
  · subst q
    rw [if_pos rfl, if_pos (by omega), e b hb]
  · rw [if_neg q]
    by_cases q2 : a < i
    · rw [if_pos q2, if_pos (by omega)]
    · rw [if_neg q2, if_neg (by omega)]
set_option maxHeartbeats 4000000 in
set_option maxRecDepth 100000 in
/-- x nodes without edges -/
theorem k_Ne_clear (l : Launch) (D : va_G) (τ : Nat → ClassId) (A : Nat → Prop) (ad : Nat → Nat) (N : Nat) (w : Nat → va_E) (b : Nat) (hb : b + 83 ≤ N) (n : Int) (bh wt : Nat → Nat → Int) (hN : qNet τ ad w b n bh wt) (x : Int32) : Met l y_Ne_clear (qws y_Ne_clear c_Ne_clear 3 none) ({ frames := 1, cells := 0, slots := 0, locals := 23 }) (qPc D τ A ad N w [.ref (ad b), .int x]) (va_Qv (fun w1 => qNet τ ad w1 b x.toInt (fun _ _ => -1) (fun _ _ => 0) ∧ (∀ q, (q < b ∨ b + 83 ≤ q) → w1 q = w q)) (qB D τ A ad N) A) 0 0 A := by
  refine q_of (by decide) (Nat.le_of_ble_eq_true rfl) rfl ?_
  intro PP EE s MM below meth CC ls F hr hlk hnm hex hl hW
  have hl : lv_has ls 3 [(0, .ref (ad b)), (1, .int x)] := hl
  obtain ⟨⟨n32, ho, hn32⟩, hB, hT⟩ := id hN
  refine lv_aload_n F.1 F.2.1 d_Ne_clear_0 rfl (lv_at hl 0 rfl) ?_
  refine lv_iload_n F.1 F.2.1 d_Ne_clear_1 rfl (lv_at hl 1 rfl) ?_
  refine pf_Ne_23 F hW (by omega) ho d_Ne_clear_2 (fun H1 locs1 w1 hW1 hI1 hfr1 => ?_)
  replace ho := hI1
  replace hB := hB.keep (fun i hi => hfr1 _ (by omega))
  replace hT := hT.keep (fun i hi => hfr1 _ (by omega))
  have hfr0 : (∀ q, (q < b ∨ b + 83 ≤ q) → w1 q = w q) := fun q hq => hfr1 q (by omega)
  refine q_iconst F d_Ne_clear_5 (by decide) (fun v2 hv2 => ?_)
  refine lv_istore_n (lv' := [(2, .int v2), (0, .ref (ad b)), (1, .int x)]) F.1 F.2.1 d_Ne_clear_6 rfl hl (by decide) rfl (fun ls3 hl3 => ?_)
  clear hl
  obtain ⟨i, hi0⟩ : ∃ i : Nat, i = 0 := ⟨_, rfl⟩
  have hiv : v2.toInt = (i : Int) := by omega
  have hib : i ≤ 40 := by omega
  obtain ⟨wl, hwl⟩ : ∃ x : Nat → va_E, x = w1 := ⟨_, rfl⟩
  have hWl : qW D τ A s H1 locs1 ad N wl := by rw [hwl]; exact hW1
  have ho : wl b = .inr (2, [.ref (ad (b + 1)), .ref (ad (b + 42)), .int x]) := by rw [hwl]; exact ho
  have hB : q_G τ ad wl (b + 1) 40 16 (fun a p => if a < i then -1 else bh a p) := by rw [hwl]; exact hB.congr (fun a p _ _ => by rw [if_neg (by omega)])
  have hT : q_G τ ad wl (b + 42) 40 16 (fun a p => if a < i then 0 else wt a p) := by rw [hwl]; exact hT.congr (fun a p _ _ => by rw [if_neg (by omega)])
  have hfl : (∀ q, (q < b ∨ b + 83 ≤ q) → wl q = w q) := by rw [hwl]; exact hfr0
  clear hi0 hv2 hwl
  generalize H1 = Hl at hWl ⊢
  generalize locs1 = locsl at hWl ⊢
  obtain ⟨f, hf⟩ : ∃ f : Nat, 40 + 1 ≤ i + f := ⟨40 + 1, by omega⟩
  induction f generalizing i v2 ls3 wl Hl locsl with
  | zero => exact absurd hf (by omega)
  | succ f ihi =>
    refine lv_iload_n F.1 F.2.1 d_Ne_clear_7 rfl (lv_at hl3 0 rfl) ?_
    refine q_bipush F d_Ne_clear_8 (by decide) (fun v4 hv4 => ?_)
    refine q_icmp_ge (tgt := 39) F d_Ne_clear_10 (by decide) (fun c10 => ?_) (fun c10 => ?_)
    · exact q_vret F hr hlk hWl ⟨⟨⟨x, ho, rfl⟩, hB.congr (fun a p ha _ => by rw [if_pos (by omega)]), hT.congr (fun a p ha _ => by rw [if_pos (by omega)])⟩, hfl⟩ d_Ne_clear_39
    · refine lv_aload_n F.1 F.2.1 d_Ne_clear_13 rfl (lv_at hl3 1 rfl) ?_
      refine gf_Ne_11 F hWl (by omega) ho d_Ne_clear_14 ?_
      refine lv_iload_n F.1 F.2.1 d_Ne_clear_17 rfl (lv_at hl3 0 rfl) ?_
      refine q_aald F hWl hB (by omega) i (by omega) (by omega) d_Ne_clear_18 ?_
      refine q_iconst F d_Ne_clear_19 (by decide) (fun v5 hv5 => ?_)
      refine q_callv hWl (q_cS (As := [.ref (ad ((b + 1) + 1 + i)), .int v5]) (rest := []) F hWl cs_Ne_27 hs_Ar_fill (k_Ar_fill l D τ A ad N wl (b + 1 + 1 + i) 16 _ (by omega) (by decide) (hB.2 i (by omega)) v5) rfl rfl ⟨by decide, by decide⟩ rfl hl3.1 rfl (Nat.le_of_ble_eq_true rfl) d_Ne_clear_20 ⟨Nat.le_refl _, Nat.le_refl _⟩) (fun w6 H6 locs6 hp6 hW6 => ?_)
      obtain ⟨hI6, hfr6⟩ := hp6
      replace ho := (hfr6 _ (by omega)).trans ho
      replace hB := (hB.put (i := i) (by omega) hI6 hfr6).rows (Z := fun _ _ => -1) (fun _ _ => hv5)
      replace hT := hT.keep (fun i hi => hfr6 _ (by omega))
      refine lv_aload_n F.1 F.2.1 d_Ne_clear_23 rfl (lv_at hl3 1 rfl) ?_
      refine gf_Ne_16 F hW6 (by omega) ho d_Ne_clear_24 ?_
      refine lv_iload_n F.1 F.2.1 d_Ne_clear_27 rfl (lv_at hl3 0 rfl) ?_
      refine q_aald F hW6 hT (by omega) i (by omega) (by omega) d_Ne_clear_28 ?_
      refine q_iconst F d_Ne_clear_29 (by decide) (fun v7 hv7 => ?_)
      refine q_callv hW6 (q_cS (As := [.ref (ad ((b + 42) + 1 + i)), .int v7]) (rest := []) F hW6 cs_Ne_27 hs_Ar_fill (k_Ar_fill l D τ A ad N w6 (b + 42 + 1 + i) 16 _ (by omega) (by decide) (hT.2 i (by omega)) v7) rfl rfl ⟨by decide, by decide⟩ rfl hl3.1 rfl (Nat.le_of_ble_eq_true rfl) d_Ne_clear_30 ⟨Nat.le_refl _, Nat.le_refl _⟩) (fun w8 H8 locs8 hp8 hW8 => ?_)
      obtain ⟨hI8, hfr8⟩ := hp8
      replace ho := (hfr8 _ (by omega)).trans ho
      replace hB := hB.keep (fun i hi => hfr8 _ (by omega))
      replace hT := (hT.put (i := i) (by omega) hI8 hfr8).rows (Z := fun _ _ => 0) (fun _ _ => hv7)
      refine q_iinc (lv' := fun v9 => [(2, .int v9), (0, .ref (ad b)), (1, .int x)]) F d_Ne_clear_33 hl3 (k := 0) rfl (by decide) (by omega) (by decide) (fun _ => rfl) (fun v9 lsv9 hv9 hlv9 => ?_)
      clear hl3
      refine lv_goto (tgt := 7) F.1 F.2.1 d_Ne_clear_36 (by decide) ?_
      exact ihi (i := i + 1) (v2 := v9) (ls3 := lsv9) (wl := w8) (Hl := H8) (locsl := locs8) (hiv := by omega) (hib := by omega) (hWl := hW8) (ho := ho) (hB := hB) (hT := hT) (hfl := fun q hq => by rw [hfr8 q (by omega), hfr6 q (by omega)]; exact hfl q hq) (hf := by omega) (hl3 := (lv_sub hlv9 [0, 1, 2] rfl))
set_option maxHeartbeats 4000000 in
set_option maxRecDepth 100000 in
/-- as another one -/
theorem k_Ne_copyFrom (l : Launch) (D : va_G) (τ : Nat → ClassId) (A : Nat → Prop) (ad : Nat → Nat) (N : Nat) (w : Nat → va_E) (b : Nat) (hb : b + 83 ≤ N) (n : Int) (bh wt : Nat → Nat → Int) (hN : qNet τ ad w b n bh wt) (b2 : Nat) (hb2 : b2 + 83 ≤ N) (hap : b + 83 ≤ b2 ∨ b2 + 83 ≤ b) (n2 : Int) (bh2 wt2 : Nat → Nat → Int) (hN2 : qNet τ ad w b2 n2 bh2 wt2) : Met l y_Ne_copyFrom (qws y_Ne_copyFrom c_Ne_copyFrom 3 none) ({ frames := 1, cells := 0, slots := 0, locals := 64 }) (qPc D τ A ad N w [.ref (ad b), .ref (ad b2)]) (va_Qv (fun w1 => qNet τ ad w1 b n2 bh2 wt2 ∧ (∀ q, (q < b ∨ b + 83 ≤ q) → w1 q = w q)) (qB D τ A ad N) A) 0 0 A := by
  refine q_of (by decide) (Nat.le_of_ble_eq_true rfl) rfl ?_
  intro PP EE s MM below meth CC ls F hr hlk hnm hex hl hW
  have hl : lv_has ls 3 [(0, .ref (ad b)), (1, .ref (ad b2))] := hl
  obtain ⟨⟨n32, ho, hn32⟩, hB, hT⟩ := id hN
  obtain ⟨⟨zn32, zho, hzn32⟩, zhB, zhT⟩ := id hN2
  refine lv_aload_n F.1 F.2.1 d_Ne_copyFrom_0 rfl (lv_at hl 0 rfl) ?_
  refine lv_aload_n F.1 F.2.1 d_Ne_copyFrom_1 rfl (lv_at hl 1 rfl) ?_
  refine gf_Ne_23 F hW (by omega) zho d_Ne_copyFrom_2 ?_
  refine pf_Ne_23 F hW (by omega) ho d_Ne_copyFrom_5 (fun H1 locs1 w1 hW1 hI1 hfr1 => ?_)
  replace ho := hI1
  replace hB := hB.keep (fun i hi => hfr1 _ (by omega))
  replace hT := hT.keep (fun i hi => hfr1 _ (by omega))
  replace zho := (hfr1 _ (by omega)).trans zho
  replace zhB := zhB.keep (fun i hi => hfr1 _ (by omega))
  replace zhT := zhT.keep (fun i hi => hfr1 _ (by omega))
  have hfr0 : (∀ q, (q < b ∨ b + 83 ≤ q) → w1 q = w q) := fun q hq => hfr1 q (by omega)
  refine q_iconst F d_Ne_copyFrom_8 (by decide) (fun v2 hv2 => ?_)
  refine lv_istore_n (lv' := [(2, .int v2), (0, .ref (ad b)), (1, .ref (ad b2))]) F.1 F.2.1 d_Ne_copyFrom_9 rfl hl (by decide) rfl (fun ls3 hl3 => ?_)
  clear hl
  obtain ⟨i, hi0⟩ : ∃ i : Nat, i = 0 := ⟨_, rfl⟩
  have hiv : v2.toInt = (i : Int) := by omega
  have hib : i ≤ 40 := by omega
  obtain ⟨wl, hwl⟩ : ∃ x : Nat → va_E, x = w1 := ⟨_, rfl⟩
  have hWl : qW D τ A s H1 locs1 ad N wl := by rw [hwl]; exact hW1
  have ho : wl b = .inr (2, [.ref (ad (b + 1)), .ref (ad (b + 42)), .int zn32]) := by rw [hwl]; exact ho
  have hB : q_G τ ad wl (b + 1) 40 16 (fun a p => if a < i then bh2 a p else bh a p) := by rw [hwl]; exact hB.congr (fun a p _ _ => by rw [if_neg (by omega)])
  have hT : q_G τ ad wl (b + 42) 40 16 (fun a p => if a < i then wt2 a p else wt a p) := by rw [hwl]; exact hT.congr (fun a p _ _ => by rw [if_neg (by omega)])
  have zho : wl b2 = .inr (2, [.ref (ad (b2 + 1)), .ref (ad (b2 + 42)), .int zn32]) := by rw [hwl]; exact zho
  have zhB : q_G τ ad wl (b2 + 1) 40 16 bh2 := by rw [hwl]; exact zhB
  have zhT : q_G τ ad wl (b2 + 42) 40 16 wt2 := by rw [hwl]; exact zhT
  have hfl : (∀ q, (q < b ∨ b + 83 ≤ q) → wl q = w q) := by rw [hwl]; exact hfr0
  clear hi0 hv2 hwl
  generalize H1 = Hl at hWl ⊢
  generalize locs1 = locsl at hWl ⊢
  obtain ⟨f, hf⟩ : ∃ f : Nat, 40 + 1 ≤ i + f := ⟨40 + 1, by omega⟩
  induction f generalizing i v2 ls3 wl Hl locsl with
  | zero => exact absurd hf (by omega)
  | succ f ihi =>
    refine lv_iload_n F.1 F.2.1 d_Ne_copyFrom_10 rfl (lv_at hl3 0 rfl) ?_
    refine q_bipush F d_Ne_copyFrom_11 (by decide) (fun v4 hv4 => ?_)
    refine q_icmp_ge (tgt := 60) F d_Ne_copyFrom_13 (by decide) (fun c13 => ?_) (fun c13 => ?_)
    · exact q_vret F hr hlk hWl ⟨⟨⟨zn32, ho, hzn32⟩, hB.congr (fun a p ha _ => by rw [if_pos (by omega)]), hT.congr (fun a p ha _ => by rw [if_pos (by omega)])⟩, hfl⟩ d_Ne_copyFrom_60
    · refine lv_aload_n F.1 F.2.1 d_Ne_copyFrom_16 rfl (lv_at hl3 2 rfl) ?_
      refine gf_Ne_11 F hWl (by omega) zho d_Ne_copyFrom_17 ?_
      refine lv_iload_n F.1 F.2.1 d_Ne_copyFrom_20 rfl (lv_at hl3 0 rfl) ?_
      refine q_aald F hWl zhB (by omega) i (by omega) (by omega) d_Ne_copyFrom_21 ?_
      refine q_iconst F d_Ne_copyFrom_22 (by decide) (fun v5 hv5 => ?_)
      refine lv_aload_n F.1 F.2.1 d_Ne_copyFrom_23 rfl (lv_at hl3 1 rfl) ?_
      refine gf_Ne_11 F hWl (by omega) ho d_Ne_copyFrom_24 ?_
      refine lv_iload_n F.1 F.2.1 d_Ne_copyFrom_27 rfl (lv_at hl3 0 rfl) ?_
      refine q_aald F hWl hB (by omega) i (by omega) (by omega) d_Ne_copyFrom_28 ?_
      refine q_iconst F d_Ne_copyFrom_29 (by decide) (fun v6 hv6 => ?_)
      refine q_bipush F d_Ne_copyFrom_30 (by decide) (fun v7 hv7 => ?_)
      refine q_copy F hWl (zhB.2 i (by omega)) (hB.2 i (by omega)) (by omega) (by omega) tw_413 tw_415 tw_414 tw_16 hl3.1 16 (by omega) (by omega) (by omega) (by omega) (by omega) (by decide) (by decide) d_Ne_copyFrom_32 (fun H8 locs8 w8 hW8 hI8 hfr8 => ?_)
      replace ho := (hfr8 _ (by omega)).trans ho
      replace hB := (hB.put (i := i) (by omega) hI8 hfr8).rows (Z := bh2) (fun j hj => if_pos hj)
      replace hT := hT.keep (fun i hi => hfr8 _ (by omega))
      replace zho := (hfr8 _ (by omega)).trans zho
      replace zhB := zhB.keep (fun i hi => hfr8 _ (by omega))
      replace zhT := zhT.keep (fun i hi => hfr8 _ (by omega))
      refine lv_aload_n F.1 F.2.1 d_Ne_copyFrom_35 rfl (lv_at hl3 2 rfl) ?_
      refine gf_Ne_16 F hW8 (by omega) zho d_Ne_copyFrom_36 ?_
      refine lv_iload_n F.1 F.2.1 d_Ne_copyFrom_39 rfl (lv_at hl3 0 rfl) ?_
      refine q_aald F hW8 zhT (by omega) i (by omega) (by omega) d_Ne_copyFrom_40 ?_
      refine q_iconst F d_Ne_copyFrom_41 (by decide) (fun v9 hv9 => ?_)
      refine lv_aload_n F.1 F.2.1 d_Ne_copyFrom_42 rfl (lv_at hl3 1 rfl) ?_
      refine gf_Ne_16 F hW8 (by omega) ho d_Ne_copyFrom_43 ?_
      refine lv_iload_n F.1 F.2.1 d_Ne_copyFrom_46 rfl (lv_at hl3 0 rfl) ?_
      refine q_aald F hW8 hT (by omega) i (by omega) (by omega) d_Ne_copyFrom_47 ?_
      refine q_iconst F d_Ne_copyFrom_48 (by decide) (fun v10 hv10 => ?_)
      refine q_bipush F d_Ne_copyFrom_49 (by decide) (fun v11 hv11 => ?_)
      refine q_copy F hW8 (zhT.2 i (by omega)) (hT.2 i (by omega)) (by omega) (by omega) tw_413 tw_415 tw_414 tw_16 hl3.1 16 (by omega) (by omega) (by omega) (by omega) (by omega) (by decide) (by decide) d_Ne_copyFrom_51 (fun H12 locs12 w12 hW12 hI12 hfr12 => ?_)
      replace ho := (hfr12 _ (by omega)).trans ho
      replace hB := hB.keep (fun i hi => hfr12 _ (by omega))
      replace hT := (hT.put (i := i) (by omega) hI12 hfr12).rows (Z := wt2) (fun j hj => if_pos hj)
      replace zho := (hfr12 _ (by omega)).trans zho
      replace zhB := zhB.keep (fun i hi => hfr12 _ (by omega))
      replace zhT := zhT.keep (fun i hi => hfr12 _ (by omega))
      refine q_iinc (lv' := fun v13 => [(2, .int v13), (0, .ref (ad b)), (1, .ref (ad b2))]) F d_Ne_copyFrom_54 hl3 (k := 0) rfl (by decide) (by omega) (by decide) (fun _ => rfl) (fun v13 lsv13 hv13 hlv13 => ?_)
      clear hl3
      refine lv_goto (tgt := 10) F.1 F.2.1 d_Ne_copyFrom_57 (by decide) ?_
      exact ihi (i := i + 1) (v2 := v13) (ls3 := lsv13) (wl := w12) (Hl := H12) (locsl := locs12) (hiv := by omega) (hib := by omega) (hWl := hW12) (ho := ho) (hB := hB) (hT := hT) (zho := zho) (zhB := zhB) (zhT := zhT) (hfl := fun q hq => by rw [hfr12 q (by omega), hfr8 q (by omega)]; exact hfl q hq) (hf := by omega) (hl3 := (lv_sub hlv13 [0, 1, 2] rfl))
