set_option maxHeartbeats 4000000 in
set_option maxRecDepth 100000 in
/-- at or below -/
theorem k_Mo_isBelow (l : Launch) (D : va_G) (τ : Nat → ClassId) (A : Nat → Prop) (ad : Nat → Nat) (N : Nat) (w : Nat → va_E) (hb : 484 ≤ N) (th n32 b32 s32 p32 : Int32) (mo : w 469 = .inr (7, [.int th, .int n32, .ref (ad 470), .ref (ad 471), .ref (ad 472), .ref (ad 473), .ref (ad 474), .ref (ad 475), .int b32, .ref (ad 476), .ref (ad 477), .ref (ad 478), .ref (ad 479), .ref (ad 480), .int s32, .int p32, .ref (ad 481), .ref (ad 482), .ref (ad 483)])) (m : Nat) (hn : n32.toInt = m) (hm40 : m ≤ 40) (r : Nat) (hr9 : r < m) (PA : Nat → Int) (hPA : q_I τ w 480 1600 PA) (par : Nat → Int) (hPAf : ∀ a, a < m → PA (40 * r + a) = par a) (rk : Nat → Nat) (hT : zt_ok m r par rk) (x : Int32) (hx : x.toInt = r) (y : Int32) (a : Nat) (hy : y.toInt = a) (ha : a < m) (z : Int32) (t : Nat) (hz : z.toInt = t) : Met l y_Mo_isBelow (qws y_Mo_isBelow c_Mo_isBelow 5 (some .boolean)) ({ frames := 0, cells := 0, slots := 0, locals := 0 }) (qPc D τ A ad N w [.ref (ad 469), .int x, .int y, .int z]) (va_Qi (fun r1 w1 => w1 = w ∧ qb (zB par a t) r1) (qB D τ A ad N) A) 0 0 A := by
  refine q_of (by decide) (Nat.le_of_ble_eq_true rfl) rfl ?_
  intro PP EE s MM below meth CC ls F hr hlk hnm hex hl hW
  have hl : lv_has ls 5 [(0, .ref (ad 469)), (1, .int x), (2, .int y), (3, .int z)] := hl
  have hPAg : ∀ a b, a = r → b < m → PA (40 * a + b) = par b := fun a b h1 h2 => by rw [h1]; exact hPAf b h2
  refine lv_iload_n F.1 F.2.1 d_Mo_isBelow_0 rfl (lv_at hl 2 rfl) ?_
  refine lv_istore (lv' := [(4, .int y), (0, .ref (ad 469)), (1, .int x), (2, .int y), (3, .int z)]) F.1 F.2.1 d_Mo_isBelow_1 hl (by decide) rfl (fun ls1 hl1 => ?_)
  clear hl
  obtain ⟨ch, hch⟩ : ∃ z : Int32, z = y := ⟨_, rfl⟩
  replace hl1 : lv_has ls1 5 [(4, .int ch), (0, .ref (ad 469)), (1, .int x), (2, .int y), (3, .int z)] := by rw [hch]; exact hl1
  have hWp := hW
  obtain ⟨f, hf0⟩ : ∃ f : Nat, f = 50 := ⟨_, rfl⟩
  have hinv : 0 < f ∧ ((ch.toInt = -1 ∧ ¬ zB par a t) ∨ ∃ c : Nat, ch.toInt = (c : Int) ∧ c < m ∧ (zB par a t ↔ zB par c t) ∧ rk c + 1 < f) := ⟨by omega, Or.inr ⟨a, by rw [hch]; exact hy, ha, Iff.rfl, by have := hT.2.2.2 a ha; omega⟩⟩
  clear hf0 hch
  generalize s.heap = Hp at hWp ⊢
  generalize ([] : List Loc) = locsp at hWp ⊢
  induction f generalizing ch ls1 Hp locsp with
  | zero => exact absurd hinv.1 (by omega)
  | succ f ihf =>
    refine lv_iload F.1 F.2.1 d_Mo_isBelow_3 (lv_at hl1 0 rfl) ?_
    refine q_iconst F d_Mo_isBelow_5 (by decide) (fun v2 hv2 => ?_)
    refine q_icmp_eq (tgt := 32) F d_Mo_isBelow_6 (by decide) (fun c6 => ?_) (fun c6 => ?_)
    · refine lv_iload F.1 F.2.1 d_Mo_isBelow_32 (lv_at hl1 0 rfl) ?_
      refine lv_iload_n F.1 F.2.1 d_Mo_isBelow_34 rfl (lv_at hl1 4 rfl) ?_
      refine q_icmp_ne (tgt := 42) F d_Mo_isBelow_35 (by decide) (fun c35 => ?_) (fun c35 => ?_)
      · have hnb : ¬ zB par a t := by rcases hinv.2 with q | ⟨c, q, -⟩; exact q.2; omega
        refine q_iconst F d_Mo_isBelow_42 (by decide) (fun v3 hv3 => ?_)
        have hb1 := qb_0 (P := zB par a t) hv3 (hnb)
        exact q_zret F hr hlk hWp (qb_01 hb1) ⟨rfl, hb1⟩ d_Mo_isBelow_43
      · exact absurd c35 (by omega)
    · obtain ⟨c, hc1, hc2, hc3, hc4⟩ := hinv.2.resolve_left (fun q => by omega)
      refine lv_iload F.1 F.2.1 d_Mo_isBelow_9 (lv_at hl1 0 rfl) ?_
      refine lv_iload_n F.1 F.2.1 d_Mo_isBelow_11 rfl (lv_at hl1 4 rfl) ?_
      refine q_icmp_eq (tgt := 32) F d_Mo_isBelow_12 (by decide) (fun c12 => ?_) (fun c12 => ?_)
      · refine lv_iload F.1 F.2.1 d_Mo_isBelow_32 (lv_at hl1 0 rfl) ?_
        refine lv_iload_n F.1 F.2.1 d_Mo_isBelow_34 rfl (lv_at hl1 4 rfl) ?_
        refine q_icmp_ne (tgt := 42) F d_Mo_isBelow_35 (by decide) (fun c35 => ?_) (fun c35 => ?_)
        · exact absurd c35 (by omega)
        · refine q_iconst F d_Mo_isBelow_38 (by decide) (fun v4 hv4 => ?_)
          refine lv_goto (tgt := 43) F.1 F.2.1 d_Mo_isBelow_39 (by decide) ?_
          have hb1 := qb_1 (P := zB par a t) hv4 (hc3.mpr (by rw [show c = t by omega]; exact zB_self par t))
          exact q_zret F hr hlk hWp (qb_01 hb1) ⟨rfl, hb1⟩ d_Mo_isBelow_43
      · refine lv_aload_n F.1 F.2.1 d_Mo_isBelow_15 rfl (lv_at hl1 1 rfl) ?_
        refine gf_Mo_45 F hWp (by omega) mo d_Mo_isBelow_16 ?_
        refine q_bipush F d_Mo_isBelow_19 (by decide) (fun v5 hv5 => ?_)
        refine lv_iload_n F.1 F.2.1 d_Mo_isBelow_21 rfl (lv_at hl1 2 rfl) ?_
        refine q_imul F d_Mo_isBelow_22 (by rw [hv5]; omega) (fun v6 hv6 => ?_)
        rw [hv5] at hv6
        refine lv_iload F.1 F.2.1 d_Mo_isBelow_23 (lv_at hl1 0 rfl) ?_
        refine q_iadd F d_Mo_isBelow_25 (by omega) (fun v7 hv7 => ?_)
        refine q_iald F hWp hPA (by omega) ((40 * r) + c) (by omega) (by omega) d_Mo_isBelow_26 (fun v8 hv8 => ?_)
        rw [hPAg r c (by omega) (by omega)] at hv8
        refine lv_istore (lv' := [(4, .int v8), (0, .ref (ad 469)), (1, .int x), (2, .int y), (3, .int z)]) F.1 F.2.1 d_Mo_isBelow_27 hl1 (by decide) rfl (fun ls9 hl9 => ?_)
        clear hl1
        refine lv_goto (tgt := 3) F.1 F.2.1 d_Mo_isBelow_29 (by decide) ?_
        have hnx : (v8.toInt = -1 ∧ ¬ zB par a t) ∨ ∃ c : Nat, v8.toInt = (c : Int) ∧ c < m ∧ (zB par a t ↔ zB par c t) ∧ rk c + 1 < f := by
          have hct : c ≠ t := by omega
          by_cases e : c = r
          · have h8 : par c = -1 := by rw [e]; exact hT.2.1
            refine Or.inl ⟨by omega, fun q => ?_⟩
            rcases zB_iff.mp (hc3.mp q) with z1 | z1
            · exact hct z1
            · exact z1.1 h8
          · obtain ⟨q, q1, q2, q3⟩ := hT.2.2.1 c hc2 e
            exact Or.inr ⟨q, by omega, q2, hc3.trans ⟨fun z1 => zB_dn q1 z1 hct, fun z1 => zB_up q1 z1⟩, by omega⟩
        exact ihf (ch := v8) (ls1 := ls9) (Hp := Hp) (locsp := locsp) (hWp := hWp) (hinv := ⟨by omega, hnx⟩) (hl1 := (lv_sub hl9 [0, 1, 2, 3, 4] rfl))
set_option maxHeartbeats 4000000 in
set_option maxRecDepth 100000 in
/-- the size -/
theorem k_Mo_sizeOf (l : Launch) (D : va_G) (τ : Nat → ClassId) (A : Nat → Prop) (ad : Nat → Nat) (N : Nat) (w : Nat → va_E) (hb : 484 ≤ N) (th n32 b32 s32 p32 : Int32) (mo : w 469 = .inr (7, [.int th, .int n32, .ref (ad 470), .ref (ad 471), .ref (ad 472), .ref (ad 473), .ref (ad 474), .ref (ad 475), .int b32, .ref (ad 476), .ref (ad 477), .ref (ad 478), .ref (ad 479), .ref (ad 480), .int s32, .int p32, .ref (ad 481), .ref (ad 482), .ref (ad 483)])) (m : Nat) (hn : n32.toInt = m) (hm40 : m ≤ 40) (r : Nat) (hr9 : r < m) (PA : Nat → Int) (hPA : q_I τ w 480 1600 PA) (par : Nat → Int) (hPAf : ∀ a, a < m → PA (40 * r + a) = par a) (rk : Nat → Nat) (hT : zt_ok m r par rk) (x : Int32) (hx : x.toInt = r) (y : Int32) (a : Nat) (hy : y.toInt = a) (ha : a < m) : Met l y_Mo_sizeOf (qws y_Mo_sizeOf c_Mo_sizeOf 5 (some .int)) ({ frames := 1, cells := 0, slots := 0, locals := 24 }) (qPc D τ A ad N w [.ref (ad 469), .int x, .int y]) (va_Qi (fun r1 w1 => w1 = w ∧ r1.toInt = (zS m par a : Int)) (qB D τ A ad N) A) 0 0 A := by
  refine q_of (by decide) (Nat.le_of_ble_eq_true rfl) rfl ?_
  intro PP EE s MM below meth CC ls F hr hlk hnm hex hl hW
  have hl : lv_has ls 5 [(0, .ref (ad 469)), (1, .int x), (2, .int y)] := hl
  have hPAg : ∀ a b, a = r → b < m → PA (40 * a + b) = par b := fun a b h1 h2 => by rw [h1]; exact hPAf b h2
  refine q_iconst F d_Mo_sizeOf_0 (by decide) (fun v1 hv1 => ?_)
  refine lv_istore_n (lv' := [(3, .int v1), (0, .ref (ad 469)), (1, .int x), (2, .int y)]) F.1 F.2.1 d_Mo_sizeOf_1 rfl hl (by decide) rfl (fun ls2 hl2 => ?_)
  clear hl
  refine q_iconst F d_Mo_sizeOf_2 (by decide) (fun v3 hv3 => ?_)
  refine lv_istore (lv' := [(4, .int v3), (3, .int v1), (0, .ref (ad 469)), (1, .int x), (2, .int y)]) F.1 F.2.1 d_Mo_sizeOf_3 hl2 (by decide) rfl (fun ls4 hl4 => ?_)
  clear hl2
  obtain ⟨i, hi0⟩ : ∃ i : Nat, i = 0 := ⟨_, rfl⟩
  have hiv : v3.toInt = (i : Int) := by omega
  have hib : i ≤ m := by omega
  have hWp := hW
  have hcnt : v1.toInt = (zc (fun u => zB par u a) i : Int) := by rw [hi0, hv1]; rfl
  clear hi0 hv3 hv1
  generalize s.heap = Hp at hWp ⊢
  generalize ([] : List Loc) = locsp at hWp ⊢
  obtain ⟨f, hf⟩ : ∃ f : Nat, m + 1 ≤ i + f := ⟨m + 1, by omega⟩
  induction f generalizing i v3 ls4 Hp locsp v1 with
  | zero => exact absurd hf (by omega)
  | succ f ihi =>
    refine lv_iload F.1 F.2.1 d_Mo_sizeOf_5 (lv_at hl4 0 rfl) ?_
    refine lv_aload_n F.1 F.2.1 d_Mo_sizeOf_7 rfl (lv_at hl4 2 rfl) ?_
    refine gf_Mo_7 F hWp (by omega) mo d_Mo_sizeOf_8 ?_
    refine q_icmp_ge (tgt := 39) F d_Mo_sizeOf_11 (by decide) (fun c11 => ?_) (fun c11 => ?_)
    · refine lv_iload_n F.1 F.2.1 d_Mo_sizeOf_39 rfl (lv_at hl4 1 rfl) ?_
      exact q_iret F hr hlk hWp ⟨rfl, by rw [hcnt, show i = m by omega]; rfl⟩ d_Mo_sizeOf_40
    · have hzl := zc_le (fun u => zB par u a) i
      refine lv_iload_n F.1 F.2.1 d_Mo_sizeOf_14 rfl (lv_at hl4 1 rfl) ?_
      refine lv_aload_n F.1 F.2.1 d_Mo_sizeOf_15 rfl (lv_at hl4 2 rfl) ?_
      refine lv_iload_n F.1 F.2.1 d_Mo_sizeOf_16 rfl (lv_at hl4 3 rfl) ?_
      refine lv_iload F.1 F.2.1 d_Mo_sizeOf_17 (lv_at hl4 0 rfl) ?_
      refine lv_iload_n F.1 F.2.1 d_Mo_sizeOf_19 rfl (lv_at hl4 4 rfl) ?_
      refine q_calli hWp (q_cV (As := [.int x, .int v3, .int y]) (rest := [.int v1]) F hWp cs_Mo_117 hd_Mo_isBelow rfl (by omega) mo (k_Mo_isBelow l D τ A ad N w hb th n32 b32 s32 p32 mo m hn hm40 r hr9 PA hPA par hPAf rk hT x hx v3 i hiv (by omega) y a hy) rfl rfl ⟨by decide, by decide⟩ rfl hl4.1 rfl (Nat.le_of_ble_eq_true rfl) d_Mo_sizeOf_20 ⟨Nat.le_refl _, Nat.le_refl _⟩) (fun v5 w5 H5 locs5 hp5 hW5 => ?_)
      obtain ⟨hq5, hp5⟩ := hp5
      replace hq5 := hq5.symm
      subst hq5
      refine q_if_eq (tgt := 30) F d_Mo_sizeOf_23 (by decide) (fun c23 => ?_) (fun c23 => ?_)
      · refine q_iconst F d_Mo_sizeOf_30 (by decide) (fun v6 hv6 => ?_)
        refine q_iadd F d_Mo_sizeOf_31 (by omega) (fun v7 hv7 => ?_)
        refine lv_istore_n (lv' := [(3, .int v7), (4, .int v3), (0, .ref (ad 469)), (1, .int x), (2, .int y)]) F.1 F.2.1 d_Mo_sizeOf_32 rfl hl4 (by decide) rfl (fun ls8 hl8 => ?_)
        clear hl4
        refine q_iinc (lv' := fun v9 => [(4, .int v9), (3, .int v7), (0, .ref (ad 469)), (1, .int x), (2, .int y)]) F d_Mo_sizeOf_33 hl8 (k := 1) rfl (by decide) (by omega) (by decide) (fun _ => rfl) (fun v9 lsv9 hv9 hlv9 => ?_)
        clear hl8
        refine lv_goto (tgt := 5) F.1 F.2.1 d_Mo_sizeOf_36 (by decide) ?_
        exact ihi (i := i + 1) (v3 := v9) (ls4 := lsv9) (Hp := H5) (locsp := locs5) (v1 := v7) (hiv := by omega) (hib := by omega) (hWp := hW5) (hcnt := zcS hcnt (Or.inr ⟨qb_f hp5 (by omega), by omega⟩)) (hf := by omega) (hl4 := (lv_sub hlv9 [0, 1, 2, 3, 4] rfl))
      · refine q_iconst F d_Mo_sizeOf_26 (by decide) (fun v10 hv10 => ?_)
        refine lv_goto (tgt := 31) F.1 F.2.1 d_Mo_sizeOf_27 (by decide) ?_
        refine q_iadd F d_Mo_sizeOf_31 (by omega) (fun v11 hv11 => ?_)
        refine lv_istore_n (lv' := [(3, .int v11), (4, .int v3), (0, .ref (ad 469)), (1, .int x), (2, .int y)]) F.1 F.2.1 d_Mo_sizeOf_32 rfl hl4 (by decide) rfl (fun ls12 hl12 => ?_)
        clear hl4
        refine q_iinc (lv' := fun v13 => [(4, .int v13), (3, .int v11), (0, .ref (ad 469)), (1, .int x), (2, .int y)]) F d_Mo_sizeOf_33 hl12 (k := 1) rfl (by decide) (by omega) (by decide) (fun _ => rfl) (fun v13 lsv13 hv13 hlv13 => ?_)
        clear hl12
        refine lv_goto (tgt := 5) F.1 F.2.1 d_Mo_sizeOf_36 (by decide) ?_
        exact ihi (i := i + 1) (v3 := v13) (ls4 := lsv13) (Hp := H5) (locsp := locs5) (v1 := v11) (hiv := by omega) (hib := by omega) (hWp := hW5) (hcnt := zcS hcnt (Or.inl ⟨qb_t hp5 (by omega), by omega⟩)) (hf := by omega) (hl4 := (lv_sub hlv13 [0, 1, 2, 3, 4] rfl))
set_option maxHeartbeats 4000000 in
set_option maxRecDepth 100000 in
/-- the heavy child -/
theorem k_Mo_heavy (l : Launch) (D : va_G) (τ : Nat → ClassId) (A : Nat → Prop) (ad : Nat → Nat) (N : Nat) (w : Nat → va_E) (hb : 484 ≤ N) (th n32 b32 s32 p32 : Int32) (mo : w 469 = .inr (7, [.int th, .int n32, .ref (ad 470), .ref (ad 471), .ref (ad 472), .ref (ad 473), .ref (ad 474), .ref (ad 475), .int b32, .ref (ad 476), .ref (ad 477), .ref (ad 478), .ref (ad 479), .ref (ad 480), .int s32, .int p32, .ref (ad 481), .ref (ad 482), .ref (ad 483)])) (m : Nat) (hn : n32.toInt = m) (hm40 : m ≤ 40) (r : Nat) (hr9 : r < m) (PA : Nat → Int) (hPA : q_I τ w 480 1600 PA) (par : Nat → Int) (hPAf : ∀ a, a < m → PA (40 * r + a) = par a) (rk : Nat → Nat) (hT : zt_ok m r par rk) (x : Int32) (hx : x.toInt = r) (y : Int32) (a : Nat) (hy : y.toInt = a) (ha : a < m) : Met l y_Mo_heavy (qws y_Mo_heavy c_Mo_heavy 5 (some .int)) ({ frames := 2, cells := 0, slots := 0, locals := 48 }) (qPc D τ A ad N w [.ref (ad 469), .int x, .int y]) (va_Qi (fun r1 w1 => w1 = w ∧ r1.toInt = zh m par a) (qB D τ A ad N) A) 0 0 A := by
  refine q_of (by decide) (Nat.le_of_ble_eq_true rfl) rfl ?_
  intro PP EE s MM below meth CC ls F hr hlk hnm hex hl hW
  have hl : lv_has ls 5 [(0, .ref (ad 469)), (1, .int x), (2, .int y)] := hl
  have hPAg : ∀ a b, a = r → b < m → PA (40 * a + b) = par b := fun a b h1 h2 => by rw [h1]; exact hPAf b h2
  refine q_iconst F d_Mo_heavy_0 (by decide) (fun v1 hv1 => ?_)
  refine lv_istore_n (lv' := [(3, .int v1), (0, .ref (ad 469)), (1, .int x), (2, .int y)]) F.1 F.2.1 d_Mo_heavy_1 rfl hl (by decide) rfl (fun ls2 hl2 => ?_)
  clear hl
  refine q_iconst F d_Mo_heavy_2 (by decide) (fun v3 hv3 => ?_)
  refine lv_istore (lv' := [(4, .int v3), (3, .int v1), (0, .ref (ad 469)), (1, .int x), (2, .int y)]) F.1 F.2.1 d_Mo_heavy_3 hl2 (by decide) rfl (fun ls4 hl4 => ?_)
  clear hl2
  obtain ⟨i, hi0⟩ : ∃ i : Nat, i = 0 := ⟨_, rfl⟩
  have hiv : v3.toInt = (i : Int) := by omega
  have hib : i ≤ m := by omega
  have hWp := hW
  have hz : zhv par (zS m par) a i v1.toInt := by rw [hi0, hv1]; exact zhv_0
  clear hi0 hv3 hv1
  generalize s.heap = Hp at hWp ⊢
  generalize ([] : List Loc) = locsp at hWp ⊢
  obtain ⟨f, hf⟩ : ∃ f : Nat, m + 1 ≤ i + f := ⟨m + 1, by omega⟩
  induction f generalizing i v3 ls4 Hp locsp v1 with
  | zero => exact absurd hf (by omega)
  | succ f ihi =>
    refine lv_iload F.1 F.2.1 d_Mo_heavy_5 (lv_at hl4 0 rfl) ?_
    refine lv_aload_n F.1 F.2.1 d_Mo_heavy_7 rfl (lv_at hl4 2 rfl) ?_
    refine gf_Mo_7 F hWp (by omega) mo d_Mo_heavy_8 ?_
    refine q_icmp_ge (tgt := 59) F d_Mo_heavy_11 (by decide) (fun c11 => ?_) (fun c11 => ?_)
    · refine lv_iload_n F.1 F.2.1 d_Mo_heavy_59 rfl (lv_at hl4 1 rfl) ?_
      exact q_iret F hr hlk hWp ⟨rfl, zhv_end ((show i = m by omega) ▸ hz)⟩ d_Mo_heavy_60
    · have hrg := zhv_rng hz
      refine lv_aload_n F.1 F.2.1 d_Mo_heavy_14 rfl (lv_at hl4 2 rfl) ?_
      refine gf_Mo_45 F hWp (by omega) mo d_Mo_heavy_15 ?_
      refine q_bipush F d_Mo_heavy_18 (by decide) (fun v5 hv5 => ?_)
      refine lv_iload_n F.1 F.2.1 d_Mo_heavy_20 rfl (lv_at hl4 3 rfl) ?_
      refine q_imul F d_Mo_heavy_21 (by rw [hv5]; omega) (fun v6 hv6 => ?_)
      rw [hv5] at hv6
      refine lv_iload F.1 F.2.1 d_Mo_heavy_22 (lv_at hl4 0 rfl) ?_
      refine q_iadd F d_Mo_heavy_24 (by omega) (fun v7 hv7 => ?_)
      refine q_iald F hWp hPA (by omega) ((40 * r) + i) (by omega) (by omega) d_Mo_heavy_25 (fun v8 hv8 => ?_)
      rw [hPAg r i (by omega) (by omega)] at hv8
      refine lv_iload_n F.1 F.2.1 d_Mo_heavy_26 rfl (lv_at hl4 4 rfl) ?_
      refine q_icmp_ne (tgt := 53) F d_Mo_heavy_27 (by decide) (fun c27 => ?_) (fun c27 => ?_)
      · refine q_iinc (lv' := fun v9 => [(4, .int v9), (3, .int v1), (0, .ref (ad 469)), (1, .int x), (2, .int y)]) F d_Mo_heavy_53 hl4 (k := 0) rfl (by decide) (by omega) (by decide) (fun _ => rfl) (fun v9 lsv9 hv9 hlv9 => ?_)
        clear hl4
        refine lv_goto (tgt := 5) F.1 F.2.1 d_Mo_heavy_56 (by decide) ?_
        exact ihi (i := i + 1) (v3 := v9) (ls4 := lsv9) (Hp := Hp) (locsp := locsp) (v1 := v1) (hiv := by omega) (hib := by omega) (hWp := hWp) (hz := zhv_skip hz (by omega)) (hf := by omega) (hl4 := (lv_sub hlv9 [0, 1, 2, 3, 4] rfl))
      · refine lv_iload_n F.1 F.2.1 d_Mo_heavy_30 rfl (lv_at hl4 1 rfl) ?_
        refine q_if_lt (tgt := 50) F d_Mo_heavy_31 (by decide) (fun c31 => ?_) (fun c31 => ?_)
        · refine lv_iload F.1 F.2.1 d_Mo_heavy_50 (lv_at hl4 0 rfl) ?_
          refine lv_istore_n (lv' := [(3, .int v3), (4, .int v3), (0, .ref (ad 469)), (1, .int x), (2, .int y)]) F.1 F.2.1 d_Mo_heavy_52 rfl hl4 (by decide) rfl (fun ls10 hl10 => ?_)
          clear hl4
          refine q_iinc (lv' := fun v11 => [(4, .int v11), (3, .int v3), (0, .ref (ad 469)), (1, .int x), (2, .int y)]) F d_Mo_heavy_53 hl10 (k := 1) rfl (by decide) (by omega) (by decide) (fun _ => rfl) (fun v11 lsv11 hv11 hlv11 => ?_)
          clear hl10
          refine lv_goto (tgt := 5) F.1 F.2.1 d_Mo_heavy_56 (by decide) ?_
          exact ihi (i := i + 1) (v3 := v11) (ls4 := lsv11) (Hp := Hp) (locsp := locsp) (v1 := v3) (hiv := by omega) (hib := by omega) (hWp := hWp) (hz := hiv ▸ zhv_take hz (by omega) (Or.inl (by omega))) (hf := by omega) (hl4 := (lv_sub hlv11 [0, 1, 2, 3, 4] rfl))
        · obtain ⟨b9, hb9⟩ : ∃ b9 : Nat, v1.toInt = (b9 : Int) := ⟨v1.toInt.toNat, by omega⟩
          refine lv_aload_n F.1 F.2.1 d_Mo_heavy_34 rfl (lv_at hl4 2 rfl) ?_
          refine lv_iload_n F.1 F.2.1 d_Mo_heavy_35 rfl (lv_at hl4 3 rfl) ?_
          refine lv_iload F.1 F.2.1 d_Mo_heavy_36 (lv_at hl4 0 rfl) ?_
          refine q_calli hWp (q_cV (As := [.int x, .int v3]) (rest := []) F hWp cs_Mo_121 hd_Mo_sizeOf rfl (by omega) mo (k_Mo_sizeOf l D τ A ad N w hb th n32 b32 s32 p32 mo m hn hm40 r hr9 PA hPA par hPAf rk hT x hx v3 i hiv (by omega)) rfl rfl ⟨by decide, by decide⟩ rfl hl4.1 rfl (Nat.le_of_ble_eq_true rfl) d_Mo_heavy_38 ⟨Nat.le_refl _, Nat.le_refl _⟩) (fun v12 w12 H12 locs12 hp12 hW12 => ?_)
          obtain ⟨hq12, hp12⟩ := hp12
          replace hq12 := hq12.symm
          subst hq12
          refine lv_aload_n F.1 F.2.1 d_Mo_heavy_41 rfl (lv_at hl4 2 rfl) ?_
          refine lv_iload_n F.1 F.2.1 d_Mo_heavy_42 rfl (lv_at hl4 3 rfl) ?_
          refine lv_iload_n F.1 F.2.1 d_Mo_heavy_43 rfl (lv_at hl4 1 rfl) ?_
          refine q_calli hW12 (q_cV (As := [.int x, .int v1]) (rest := [.int v12]) F hW12 cs_Mo_121 hd_Mo_sizeOf rfl (by omega) mo (k_Mo_sizeOf l D τ A ad N w hb th n32 b32 s32 p32 mo m hn hm40 r hr9 PA hPA par hPAf rk hT x hx v1 b9 hb9 (by omega)) rfl rfl ⟨by decide, by decide⟩ rfl hl4.1 rfl (Nat.le_of_ble_eq_true rfl) d_Mo_heavy_44 ⟨Nat.le_refl _, Nat.le_refl _⟩) (fun v13 w13 H13 locs13 hp13 hW13 => ?_)
          obtain ⟨hq13, hp13⟩ := hp13
          replace hq13 := hq13.symm
          subst hq13
          refine q_icmp_le (tgt := 53) F d_Mo_heavy_47 (by decide) (fun c47 => ?_) (fun c47 => ?_)
          · refine q_iinc (lv' := fun v14 => [(4, .int v14), (3, .int v1), (0, .ref (ad 469)), (1, .int x), (2, .int y)]) F d_Mo_heavy_53 hl4 (k := 0) rfl (by decide) (by omega) (by decide) (fun _ => rfl) (fun v14 lsv14 hv14 hlv14 => ?_)
            clear hl4
            refine lv_goto (tgt := 5) F.1 F.2.1 d_Mo_heavy_56 (by decide) ?_
            exact ihi (i := i + 1) (v3 := v14) (ls4 := lsv14) (Hp := H13) (locsp := locs13) (v1 := v1) (hiv := by omega) (hib := by omega) (hWp := hW13) (hz := zhv_keep hz (by omega) (by rw [hb9]; simp only [Int.toNat_natCast]; omega)) (hf := by omega) (hl4 := (lv_sub hlv14 [0, 1, 2, 3, 4] rfl))
          · refine lv_iload F.1 F.2.1 d_Mo_heavy_50 (lv_at hl4 0 rfl) ?_
            refine lv_istore_n (lv' := [(3, .int v3), (4, .int v3), (0, .ref (ad 469)), (1, .int x), (2, .int y)]) F.1 F.2.1 d_Mo_heavy_52 rfl hl4 (by decide) rfl (fun ls15 hl15 => ?_)
            clear hl4
            refine q_iinc (lv' := fun v16 => [(4, .int v16), (3, .int v3), (0, .ref (ad 469)), (1, .int x), (2, .int y)]) F d_Mo_heavy_53 hl15 (k := 1) rfl (by decide) (by omega) (by decide) (fun _ => rfl) (fun v16 lsv16 hv16 hlv16 => ?_)
            clear hl15
            refine lv_goto (tgt := 5) F.1 F.2.1 d_Mo_heavy_56 (by decide) ?_
            exact ihi (i := i + 1) (v3 := v16) (ls4 := lsv16) (Hp := H13) (locsp := locs13) (v1 := v3) (hiv := by omega) (hib := by omega) (hWp := hW13) (hz := hiv ▸ zhv_take hz (by omega) (Or.inr (by rw [hb9]; simp only [Int.toNat_natCast]; omega))) (hf := by omega) (hl4 := (lv_sub hlv16 [0, 1, 2, 3, 4] rfl))
set_option maxHeartbeats 4000000 in
set_option maxRecDepth 100000 in
/-- light -/
theorem k_Mo_isLight (l : Launch) (D : va_G) (τ : Nat → ClassId) (A : Nat → Prop) (ad : Nat → Nat) (N : Nat) (w : Nat → va_E) (hb : 484 ≤ N) (th n32 b32 s32 p32 : Int32) (mo : w 469 = .inr (7, [.int th, .int n32, .ref (ad 470), .ref (ad 471), .ref (ad 472), .ref (ad 473), .ref (ad 474), .ref (ad 475), .int b32, .ref (ad 476), .ref (ad 477), .ref (ad 478), .ref (ad 479), .ref (ad 480), .int s32, .int p32, .ref (ad 481), .ref (ad 482), .ref (ad 483)])) (m : Nat) (hn : n32.toInt = m) (hm40 : m ≤ 40) (r : Nat) (hr9 : r < m) (PA : Nat → Int) (hPA : q_I τ w 480 1600 PA) (par : Nat → Int) (hPAf : ∀ a, a < m → PA (40 * r + a) = par a) (rk : Nat → Nat) (hT : zt_ok m r par rk) (x : Int32) (hx : x.toInt = r) (y : Int32) (a : Nat) (hy : y.toInt = a) (ha : a < m) : Met l y_Mo_isLight (qws y_Mo_isLight c_Mo_isLight 4 (some .boolean)) ({ frames := 3, cells := 0, slots := 0, locals := 72 }) (qPc D τ A ad N w [.ref (ad 469), .int x, .int y]) (va_Qi (fun r1 w1 => w1 = w ∧ qb (zlt m par a) r1) (qB D τ A ad N) A) 0 0 A := by
  refine q_of (by decide) (Nat.le_of_ble_eq_true rfl) rfl ?_
  intro PP EE s MM below meth CC ls F hr hlk hnm hex hl hW
  have hl : lv_has ls 4 [(0, .ref (ad 469)), (1, .int x), (2, .int y)] := hl
  have hPAg : ∀ a b, a = r → b < m → PA (40 * a + b) = par b := fun a b h1 h2 => by rw [h1]; exact hPAf b h2
  refine lv_aload_n F.1 F.2.1 d_Mo_isLight_0 rfl (lv_at hl 0 rfl) ?_
  refine gf_Mo_45 F hW (by omega) mo d_Mo_isLight_1 ?_
  refine q_bipush F d_Mo_isLight_4 (by decide) (fun v1 hv1 => ?_)
  refine lv_iload_n F.1 F.2.1 d_Mo_isLight_6 rfl (lv_at hl 1 rfl) ?_
  refine q_imul F d_Mo_isLight_7 (by rw [hv1]; omega) (fun v2 hv2 => ?_)
  rw [hv1] at hv2
  refine lv_iload_n F.1 F.2.1 d_Mo_isLight_8 rfl (lv_at hl 2 rfl) ?_
  refine q_iadd F d_Mo_isLight_9 (by omega) (fun v3 hv3 => ?_)
  refine q_iald F hW hPA (by omega) ((40 * r) + a) (by omega) (by omega) d_Mo_isLight_10 (fun v4 hv4 => ?_)
  rw [hPAg r a (by omega) (by omega)] at hv4
  refine lv_istore_n (lv' := [(3, .int v4), (0, .ref (ad 469)), (1, .int x), (2, .int y)]) F.1 F.2.1 d_Mo_isLight_11 rfl hl (by decide) rfl (fun ls5 hl5 => ?_)
  clear hl
  refine lv_iload_n F.1 F.2.1 d_Mo_isLight_12 rfl (lv_at hl5 0 rfl) ?_
  refine q_if_lt (tgt := 30) F d_Mo_isLight_13 (by decide) (fun c13 => ?_) (fun c13 => ?_)
  · have hnl : ¬ zlt m par a := fun q => by
      by_cases e : a = r
      · exact q.1 (by rw [e]; exact hT.2.1)
      · obtain ⟨q9, q1, -⟩ := hT.2.2.1 a ha e
        omega
    refine q_iconst F d_Mo_isLight_30 (by decide) (fun v6 hv6 => ?_)
    have hb1 := qb_0 (P := zlt m par a) hv6 (hnl)
    exact q_zret F hr hlk hW (qb_01 hb1) ⟨rfl, hb1⟩ d_Mo_isLight_31
  · have har : a ≠ r := fun q => by have h9 := hT.2.1; rw [← q] at h9; omega
    obtain ⟨q9, q1, q2, -⟩ := hT.2.2.1 a ha har
    refine lv_aload_n F.1 F.2.1 d_Mo_isLight_16 rfl (lv_at hl5 1 rfl) ?_
    refine lv_iload_n F.1 F.2.1 d_Mo_isLight_17 rfl (lv_at hl5 2 rfl) ?_
    refine lv_iload_n F.1 F.2.1 d_Mo_isLight_18 rfl (lv_at hl5 0 rfl) ?_
    refine q_calli hW (q_cV (As := [.int x, .int v4]) (rest := []) F hW cs_Mo_124 hd_Mo_heavy rfl (by omega) mo (k_Mo_heavy l D τ A ad N w hb th n32 b32 s32 p32 mo m hn hm40 r hr9 PA hPA par hPAf rk hT x hx v4 q9 (by omega) q2) rfl rfl ⟨by decide, by decide⟩ rfl hl5.1 rfl (Nat.le_of_ble_eq_true rfl) d_Mo_isLight_19 ⟨Nat.le_refl _, Nat.le_refl _⟩) (fun v7 w7 H7 locs7 hp7 hW7 => ?_)
    obtain ⟨hq7, hp7⟩ := hp7
    replace hq7 := hq7.symm
    subst hq7
    have hzl : zlt m par a ↔ zh m par q9 ≠ (a : Int) := by unfold zlt; rw [q1]; simp only [Int.toNat_natCast]; exact ⟨fun q => q.2, fun q => ⟨by omega, q⟩⟩
    refine lv_iload_n F.1 F.2.1 d_Mo_isLight_22 rfl (lv_at hl5 3 rfl) ?_
    refine q_icmp_eq (tgt := 30) F d_Mo_isLight_23 (by decide) (fun c23 => ?_) (fun c23 => ?_)
    · refine q_iconst F d_Mo_isLight_30 (by decide) (fun v8 hv8 => ?_)
      have hb1 := qb_0 (P := zlt m par a) hv8 (by rw [hzl]; omega)
      exact q_zret F hr hlk hW7 (qb_01 hb1) ⟨rfl, hb1⟩ d_Mo_isLight_31
    · refine q_iconst F d_Mo_isLight_26 (by decide) (fun v9 hv9 => ?_)
      refine lv_goto (tgt := 31) F.1 F.2.1 d_Mo_isLight_27 (by decide) ?_
      have hb1 := qb_1 (P := zlt m par a) hv9 (by rw [hzl]; omega)
      exact q_zret F hr hlk hW7 (qb_01 hb1) ⟨rfl, hb1⟩ d_Mo_isLight_31
set_option maxHeartbeats 4000000 in
set_option maxRecDepth 100000 in
/-- how far behind its parent -/
theorem k_Mo_behind (l : Launch) (D : va_G) (τ : Nat → ClassId) (A : Nat → Prop) (ad : Nat → Nat) (N : Nat) (w : Nat → va_E) (hb : 484 ≤ N) (th n32 b32 s32 p32 : Int32) (mo : w 469 = .inr (7, [.int th, .int n32, .ref (ad 470), .ref (ad 471), .ref (ad 472), .ref (ad 473), .ref (ad 474), .ref (ad 475), .int b32, .ref (ad 476), .ref (ad 477), .ref (ad 478), .ref (ad 479), .ref (ad 480), .int s32, .int p32, .ref (ad 481), .ref (ad 482), .ref (ad 483)])) (m : Nat) (hn : n32.toInt = m) (hm40 : m ≤ 40) (r : Nat) (hr9 : r < m) (PA : Nat → Int) (hPA : q_I τ w 480 1600 PA) (par : Nat → Int) (hPAf : ∀ a, a < m → PA (40 * r + a) = par a) (rk : Nat → Nat) (hT : zt_ok m r par rk) (x : Int32) (hx : x.toInt = r) (y : Int32) (a : Nat) (hy : y.toInt = a) (ha : a < m) (har : a ≠ r) (q9 : Nat) (q1 : par a = (q9 : Int)) (q2 : q9 < m) : Met l y_Mo_behind (qws y_Mo_behind c_Mo_behind 7 (some .int)) ({ frames := 3, cells := 0, slots := 0, locals := 72 }) (qPc D τ A ad N w [.ref (ad 469), .int x, .int y]) (va_Qi (fun r1 w1 => w1 = w ∧ r1.toInt = (zbh m par q9 a : Int)) (qB D τ A ad N) A) 0 0 A := by
  refine q_of (by decide) (Nat.le_of_ble_eq_true rfl) rfl ?_
  intro PP EE s MM below meth CC ls F hr hlk hnm hex hl hW
  have hl : lv_has ls 7 [(0, .ref (ad 469)), (1, .int x), (2, .int y)] := hl
  have hPAg : ∀ a b, a = r → b < m → PA (40 * a + b) = par b := fun a b h1 h2 => by rw [h1]; exact hPAf b h2
  refine lv_aload_n F.1 F.2.1 d_Mo_behind_0 rfl (lv_at hl 0 rfl) ?_
  refine gf_Mo_45 F hW (by omega) mo d_Mo_behind_1 ?_
  refine q_bipush F d_Mo_behind_4 (by decide) (fun v1 hv1 => ?_)
  refine lv_iload_n F.1 F.2.1 d_Mo_behind_6 rfl (lv_at hl 1 rfl) ?_
  refine q_imul F d_Mo_behind_7 (by rw [hv1]; omega) (fun v2 hv2 => ?_)
  rw [hv1] at hv2
  refine lv_iload_n F.1 F.2.1 d_Mo_behind_8 rfl (lv_at hl 2 rfl) ?_
  refine q_iadd F d_Mo_behind_9 (by omega) (fun v3 hv3 => ?_)
  refine q_iald F hW hPA (by omega) ((40 * r) + a) (by omega) (by omega) d_Mo_behind_10 (fun v4 hv4 => ?_)
  rw [hPAg r a (by omega) (by omega)] at hv4
  refine lv_istore_n (lv' := [(3, .int v4), (0, .ref (ad 469)), (1, .int x), (2, .int y)]) F.1 F.2.1 d_Mo_behind_11 rfl hl (by decide) rfl (fun ls5 hl5 => ?_)
  clear hl
  refine lv_aload_n F.1 F.2.1 d_Mo_behind_12 rfl (lv_at hl5 1 rfl) ?_
  refine lv_iload_n F.1 F.2.1 d_Mo_behind_13 rfl (lv_at hl5 2 rfl) ?_
  refine lv_iload_n F.1 F.2.1 d_Mo_behind_14 rfl (lv_at hl5 0 rfl) ?_
  have hvp : v4.toInt = (q9 : Int) := by omega
  refine q_calli hW (q_cV (As := [.int x, .int v4]) (rest := []) F hW cs_Mo_124 hd_Mo_heavy rfl (by omega) mo (k_Mo_heavy l D τ A ad N w hb th n32 b32 s32 p32 mo m hn hm40 r hr9 PA hPA par hPAf rk hT x hx v4 q9 hvp q2) rfl rfl ⟨by decide, by decide⟩ rfl hl5.1 rfl (Nat.le_of_ble_eq_true rfl) d_Mo_behind_15 ⟨Nat.le_refl _, Nat.le_refl _⟩) (fun v6 w6 H6 locs6 hp6 hW6 => ?_)
  obtain ⟨hq6, hp6⟩ := hp6
  replace hq6 := hq6.symm
  subst hq6
  refine lv_istore (lv' := [(4, .int v6), (3, .int v4), (0, .ref (ad 469)), (1, .int x), (2, .int y)]) F.1 F.2.1 d_Mo_behind_18 hl5 (by decide) rfl (fun ls7 hl7 => ?_)
  clear hl5
  refine q_iconst F d_Mo_behind_20 (by decide) (fun v8 hv8 => ?_)
  refine lv_istore (lv' := [(5, .int v8), (4, .int v6), (3, .int v4), (0, .ref (ad 469)), (1, .int x), (2, .int y)]) F.1 F.2.1 d_Mo_behind_21 hl7 (by decide) rfl (fun ls9 hl9 => ?_)
  clear hl7
  refine q_iconst F d_Mo_behind_23 (by decide) (fun v10 hv10 => ?_)
  refine lv_istore (lv' := [(6, .int v10), (5, .int v8), (4, .int v6), (3, .int v4), (0, .ref (ad 469)), (1, .int x), (2, .int y)]) F.1 F.2.1 d_Mo_behind_24 hl9 (by decide) rfl (fun ls11 hl11 => ?_)
  clear hl9
  clear hv4
  obtain ⟨i, hi0⟩ : ∃ i : Nat, i = 0 := ⟨_, rfl⟩
  have hiv : v10.toInt = (i : Int) := by omega
  have hib : i ≤ m := by omega
  have hWp := hW6
  have hsum : v8.toInt = 1 + ((zSx m par q9 (zbf m par q9 a) i : Nat) : Int) := by rw [hi0, hv8, zSx_0]; rfl
  have hi9 : i = 0 ∨ (a : Int) ≠ zh m par q9 := Or.inl hi0
  clear hi0 hv10 hv8
  generalize H6 = Hp at hWp ⊢
  generalize locs6 = locsp at hWp ⊢
  obtain ⟨f, hf⟩ : ∃ f : Nat, m + 1 ≤ i + f := ⟨m + 1, by omega⟩
  induction f generalizing i v10 ls11 Hp locsp v8 with
  | zero => exact absurd hf (by omega)
  | succ f ihi =>
    refine lv_iload F.1 F.2.1 d_Mo_behind_26 (lv_at hl11 0 rfl) ?_
    refine lv_aload_n F.1 F.2.1 d_Mo_behind_28 rfl (lv_at hl11 4 rfl) ?_
    refine gf_Mo_7 F hWp (by omega) mo d_Mo_behind_29 ?_
    refine q_icmp_ge (tgt := 88) F d_Mo_behind_32 (by decide) (fun c32 => ?_) (fun c32 => ?_)
    · refine lv_iload F.1 F.2.1 d_Mo_behind_88 (lv_at hl11 1 rfl) ?_
      exact q_iret F hr hlk hWp ⟨rfl, by rw [hsum, zbh_l (by omega), show i = m by omega]; omega⟩ d_Mo_behind_90
    · refine lv_iload_n F.1 F.2.1 d_Mo_behind_35 rfl (lv_at hl11 6 rfl) ?_
      refine lv_iload F.1 F.2.1 d_Mo_behind_36 (lv_at hl11 2 rfl) ?_
      refine q_icmp_eq (tgt := 88) F d_Mo_behind_38 (by decide) (fun c38 => ?_) (fun c38 => ?_)
      · refine lv_iload F.1 F.2.1 d_Mo_behind_88 (lv_at hl11 1 rfl) ?_
        exact q_iret F hr hlk hWp ⟨rfl, by rw [hsum, zbh_h (by omega), show i = 0 by omega, zSx_0]; rfl⟩ d_Mo_behind_90
      · have hzl : zSx m par q9 (zbf m par q9 a) i ≤ m := zc_le _ m
        have hPi := hPAf i (by omega)
        refine lv_aload_n F.1 F.2.1 d_Mo_behind_41 rfl (lv_at hl11 4 rfl) ?_
        refine gf_Mo_45 F hWp (by omega) mo d_Mo_behind_42 ?_
        refine q_bipush F d_Mo_behind_45 (by decide) (fun v12 hv12 => ?_)
        refine lv_iload_n F.1 F.2.1 d_Mo_behind_47 rfl (lv_at hl11 5 rfl) ?_
        refine q_imul F d_Mo_behind_48 (by rw [hv12]; omega) (fun v13 hv13 => ?_)
        rw [hv12] at hv13
        refine lv_iload F.1 F.2.1 d_Mo_behind_49 (lv_at hl11 0 rfl) ?_
        refine q_iadd F d_Mo_behind_51 (by omega) (fun v14 hv14 => ?_)
        refine q_iald F hWp hPA (by omega) ((40 * r) + i) (by omega) (by omega) d_Mo_behind_52 (fun v15 hv15 => ?_)
        rw [hPAg r i (by omega) (by omega)] at hv15
        refine lv_iload_n F.1 F.2.1 d_Mo_behind_53 rfl (lv_at hl11 3 rfl) ?_
        refine q_icmp_ne (tgt := 82) F d_Mo_behind_54 (by decide) (fun c54 => ?_) (fun c54 => ?_)
        · refine q_iinc (lv' := fun v16 => [(6, .int v16), (5, .int v8), (4, .int v6), (3, .int v4), (0, .ref (ad 469)), (1, .int x), (2, .int y)]) F d_Mo_behind_82 hl11 (k := 0) rfl (by decide) (by omega) (by decide) (fun _ => rfl) (fun v16 lsv16 hv16 hlv16 => ?_)
          clear hl11
          refine lv_goto (tgt := 26) F.1 F.2.1 d_Mo_behind_85 (by decide) ?_
          have hs9 := zSx_f (n := m) (par := par) (p := q9) (k := i) (X := zbf m par q9 a) (fun q => by have := q.1; omega)
          exact ihi (i := i + 1) (v10 := v16) (ls11 := lsv16) (Hp := Hp) (locsp := locsp) (v8 := v8) (hiv := by omega) (hib := by omega) (hWp := hWp) (hsum := by rw [hs9]; exact hsum) (hi9 := Or.inr (by omega)) (hf := by omega) (hl11 := (lv_sub hlv16 [0, 1, 2, 3, 4, 5, 6] rfl))
        · refine lv_iload F.1 F.2.1 d_Mo_behind_57 (lv_at hl11 0 rfl) ?_
          refine lv_iload F.1 F.2.1 d_Mo_behind_59 (lv_at hl11 2 rfl) ?_
          refine q_icmp_eq (tgt := 70) F d_Mo_behind_61 (by decide) (fun c61 => ?_) (fun c61 => ?_)
          · have hs9 := zSx_t (n := m) (par := par) (p := q9) (k := i) (X := zbf m par q9 a) hT (by omega) (Or.inl (by omega))
            have hsl := zS_le (n := m) (par := par) i
            refine lv_iload F.1 F.2.1 d_Mo_behind_70 (lv_at hl11 1 rfl) ?_
            refine lv_aload_n F.1 F.2.1 d_Mo_behind_72 rfl (lv_at hl11 4 rfl) ?_
            refine lv_iload_n F.1 F.2.1 d_Mo_behind_73 rfl (lv_at hl11 5 rfl) ?_
            refine lv_iload F.1 F.2.1 d_Mo_behind_74 (lv_at hl11 0 rfl) ?_
            refine q_calli hWp (q_cV (As := [.int x, .int v10]) (rest := [.int v8]) F hWp cs_Mo_121 hd_Mo_sizeOf rfl (by omega) mo (k_Mo_sizeOf l D τ A ad N w hb th n32 b32 s32 p32 mo m hn hm40 r hr9 PA hPA par hPAf rk hT x hx v10 i hiv (by omega)) rfl rfl ⟨by decide, by decide⟩ rfl hl11.1 rfl (Nat.le_of_ble_eq_true rfl) d_Mo_behind_76 ⟨Nat.le_refl _, Nat.le_refl _⟩) (fun v17 w17 H17 locs17 hp17 hW17 => ?_)
            obtain ⟨hq17, hp17⟩ := hp17
            replace hq17 := hq17.symm
            subst hq17
            refine q_iadd F d_Mo_behind_79 (by omega) (fun v18 hv18 => ?_)
            refine lv_istore (lv' := [(5, .int v18), (6, .int v10), (4, .int v6), (3, .int v4), (0, .ref (ad 469)), (1, .int x), (2, .int y)]) F.1 F.2.1 d_Mo_behind_80 hl11 (by decide) rfl (fun ls19 hl19 => ?_)
            clear hl11
            refine q_iinc (lv' := fun v20 => [(6, .int v20), (5, .int v18), (4, .int v6), (3, .int v4), (0, .ref (ad 469)), (1, .int x), (2, .int y)]) F d_Mo_behind_82 hl19 (k := 1) rfl (by decide) (by omega) (by decide) (fun _ => rfl) (fun v20 lsv20 hv20 hlv20 => ?_)
            clear hl19
            refine lv_goto (tgt := 26) F.1 F.2.1 d_Mo_behind_85 (by decide) ?_
            exact ihi (i := i + 1) (v10 := v20) (ls11 := lsv20) (Hp := H17) (locsp := locs17) (v8 := v18) (hiv := by omega) (hib := by omega) (hWp := hW17) (hsum := by rw [hs9]; omega) (hi9 := Or.inr (by omega)) (hf := by omega) (hl11 := (lv_sub hlv20 [0, 1, 2, 3, 4, 5, 6] rfl))
          · refine lv_iload F.1 F.2.1 d_Mo_behind_64 (lv_at hl11 0 rfl) ?_
            refine lv_iload_n F.1 F.2.1 d_Mo_behind_66 rfl (lv_at hl11 6 rfl) ?_
            refine q_icmp_ge (tgt := 82) F d_Mo_behind_67 (by decide) (fun c67 => ?_) (fun c67 => ?_)
            · refine q_iinc (lv' := fun v21 => [(6, .int v21), (5, .int v8), (4, .int v6), (3, .int v4), (0, .ref (ad 469)), (1, .int x), (2, .int y)]) F d_Mo_behind_82 hl11 (k := 0) rfl (by decide) (by omega) (by decide) (fun _ => rfl) (fun v21 lsv21 hv21 hlv21 => ?_)
              clear hl11
              refine lv_goto (tgt := 26) F.1 F.2.1 d_Mo_behind_85 (by decide) ?_
              have hs9 := zSx_f (n := m) (par := par) (p := q9) (k := i) (X := zbf m par q9 a) (fun q => by rcases q.2 with z | z <;> omega)
              exact ihi (i := i + 1) (v10 := v21) (ls11 := lsv21) (Hp := Hp) (locsp := locsp) (v8 := v8) (hiv := by omega) (hib := by omega) (hWp := hWp) (hsum := by rw [hs9]; exact hsum) (hi9 := Or.inr (by omega)) (hf := by omega) (hl11 := (lv_sub hlv21 [0, 1, 2, 3, 4, 5, 6] rfl))
            · have hs9 := zSx_t (n := m) (par := par) (p := q9) (k := i) (X := zbf m par q9 a) hT (by omega) (Or.inr (by omega))
              have hsl := zS_le (n := m) (par := par) i
              refine lv_iload F.1 F.2.1 d_Mo_behind_70 (lv_at hl11 1 rfl) ?_
              refine lv_aload_n F.1 F.2.1 d_Mo_behind_72 rfl (lv_at hl11 4 rfl) ?_
              refine lv_iload_n F.1 F.2.1 d_Mo_behind_73 rfl (lv_at hl11 5 rfl) ?_
              refine lv_iload F.1 F.2.1 d_Mo_behind_74 (lv_at hl11 0 rfl) ?_
              refine q_calli hWp (q_cV (As := [.int x, .int v10]) (rest := [.int v8]) F hWp cs_Mo_121 hd_Mo_sizeOf rfl (by omega) mo (k_Mo_sizeOf l D τ A ad N w hb th n32 b32 s32 p32 mo m hn hm40 r hr9 PA hPA par hPAf rk hT x hx v10 i hiv (by omega)) rfl rfl ⟨by decide, by decide⟩ rfl hl11.1 rfl (Nat.le_of_ble_eq_true rfl) d_Mo_behind_76 ⟨Nat.le_refl _, Nat.le_refl _⟩) (fun v22 w22 H22 locs22 hp22 hW22 => ?_)
              obtain ⟨hq22, hp22⟩ := hp22
              replace hq22 := hq22.symm
              subst hq22
              refine q_iadd F d_Mo_behind_79 (by omega) (fun v23 hv23 => ?_)
              refine lv_istore (lv' := [(5, .int v23), (6, .int v10), (4, .int v6), (3, .int v4), (0, .ref (ad 469)), (1, .int x), (2, .int y)]) F.1 F.2.1 d_Mo_behind_80 hl11 (by decide) rfl (fun ls24 hl24 => ?_)
              clear hl11
              refine q_iinc (lv' := fun v25 => [(6, .int v25), (5, .int v23), (4, .int v6), (3, .int v4), (0, .ref (ad 469)), (1, .int x), (2, .int y)]) F d_Mo_behind_82 hl24 (k := 1) rfl (by decide) (by omega) (by decide) (fun _ => rfl) (fun v25 lsv25 hv25 hlv25 => ?_)
              clear hl24
              refine lv_goto (tgt := 26) F.1 F.2.1 d_Mo_behind_85 (by decide) ?_
              exact ihi (i := i + 1) (v10 := v25) (ls11 := lsv25) (Hp := H22) (locsp := locs22) (v8 := v23) (hiv := by omega) (hib := by omega) (hWp := hW22) (hsum := by rw [hs9]; omega) (hi9 := Or.inr (by omega)) (hf := by omega) (hl11 := (lv_sub hlv25 [0, 1, 2, 3, 4, 5, 6] rfl))
set_option maxHeartbeats 4000000 in
set_option maxRecDepth 100000 in
/-- the place -/
theorem k_Mo_placeOf (l : Launch) (D : va_G) (τ : Nat → ClassId) (A : Nat → Prop) (ad : Nat → Nat) (N : Nat) (w : Nat → va_E) (hb : 484 ≤ N) (th n32 b32 s32 p32 : Int32) (mo : w 469 = .inr (7, [.int th, .int n32, .ref (ad 470), .ref (ad 471), .ref (ad 472), .ref (ad 473), .ref (ad 474), .ref (ad 475), .int b32, .ref (ad 476), .ref (ad 477), .ref (ad 478), .ref (ad 479), .ref (ad 480), .int s32, .int p32, .ref (ad 481), .ref (ad 482), .ref (ad 483)])) (m : Nat) (hn : n32.toInt = m) (hm40 : m ≤ 40) (r : Nat) (hr9 : r < m) (PA : Nat → Int) (hPA : q_I τ w 480 1600 PA) (par : Nat → Int) (hPAf : ∀ a, a < m → PA (40 * r + a) = par a) (rk : Nat → Nat) (hT : zt_ok m r par rk) (x : Int32) (hx : x.toInt = r) (y : Int32) (a : Nat) (hy : y.toInt = a) (ha : a < m) : Met l y_Mo_placeOf (qws y_Mo_placeOf c_Mo_placeOf 5 (some .int)) ({ frames := 4, cells := 0, slots := 0, locals := 98 }) (qPc D τ A ad N w [.ref (ad 469), .int x, .int y]) (va_Qi (fun r1 w1 => w1 = w ∧ r1.toInt = zpl m par a) (qB D τ A ad N) A) 0 0 A := by
  refine q_of (by decide) (Nat.le_of_ble_eq_true rfl) rfl ?_
  intro PP EE s MM below meth CC ls F hr hlk hnm hex hl hW
  have hl : lv_has ls 5 [(0, .ref (ad 469)), (1, .int x), (2, .int y)] := hl
  have hPAg : ∀ a b, a = r → b < m → PA (40 * a + b) = par b := fun a b h1 h2 => by rw [h1]; exact hPAf b h2
  have hrt := hT.2.1
  refine q_iconst F d_Mo_placeOf_0 (by decide) (fun v1 hv1 => ?_)
  refine lv_istore_n (lv' := [(3, .int v1), (0, .ref (ad 469)), (1, .int x), (2, .int y)]) F.1 F.2.1 d_Mo_placeOf_1 rfl hl (by decide) rfl (fun ls2 hl2 => ?_)
  clear hl
  refine lv_iload_n F.1 F.2.1 d_Mo_placeOf_2 rfl (lv_at hl2 3 rfl) ?_
  refine lv_istore (lv' := [(4, .int y), (3, .int v1), (0, .ref (ad 469)), (1, .int x), (2, .int y)]) F.1 F.2.1 d_Mo_placeOf_3 hl2 (by decide) rfl (fun ls3 hl3 => ?_)
  clear hl2
  obtain ⟨ch, hch⟩ : ∃ z : Int32, z = y := ⟨_, rfl⟩
  replace hl3 : lv_has ls3 5 [(4, .int ch), (3, .int v1), (0, .ref (ad 469)), (1, .int x), (2, .int y)] := by rw [hch]; exact hl3
  obtain ⟨c, hc0⟩ : ∃ c : Nat, c = a := ⟨_, rfl⟩
  have hWp := hW
  obtain ⟨f, hf0⟩ : ∃ f : Nat, f = 50 := ⟨_, rfl⟩
  have hinv : 0 < f ∧ rk c < f := by have := hT.2.2.2 a ha; rw [hc0]; omega
  have hcv : ch.toInt = (c : Int) := by rw [hch, hc0]; exact hy
  have hcm : c < m := by omega
  have hsum : v1.toInt + zpl m par c = zpl m par a := by rw [hc0, hv1]; omega
  clear hf0 hch hc0 hv1
  generalize s.heap = Hp at hWp ⊢
  generalize ([] : List Loc) = locsp at hWp ⊢
  induction f generalizing ch c v1 ls3 Hp locsp with
  | zero => exact absurd hinv.1 (by omega)
  | succ f ihf =>
    refine lv_iload F.1 F.2.1 d_Mo_placeOf_5 (lv_at hl3 0 rfl) ?_
    refine lv_iload_n F.1 F.2.1 d_Mo_placeOf_7 rfl (lv_at hl3 3 rfl) ?_
    refine q_icmp_eq (tgt := 38) F d_Mo_placeOf_8 (by decide) (fun c8 => ?_) (fun c8 => ?_)
    · refine lv_iload_n F.1 F.2.1 d_Mo_placeOf_38 rfl (lv_at hl3 1 rfl) ?_
      have hcr : c = r := by omega
      rw [hcr, zpl_root hT] at hsum
      exact q_iret F hr hlk hWp ⟨rfl, by omega⟩ d_Mo_placeOf_39
    · obtain ⟨q9, q1, q2, q3⟩ := hT.2.2.1 c hcm (by omega)
      have hup := zpl_up hT hm40 hcm q2 q1
      have hb1 := zpl_bd hT hm40 hcm
      have hb2 := zpl_bd hT hm40 ha
      have hb3 := zpl_bd hT hm40 q2
      have hb4 := zbh_in hT hcm q1 q2
      have hb5 := zS_le (n := m) (par := par) q9
      refine lv_iload_n F.1 F.2.1 d_Mo_placeOf_11 rfl (lv_at hl3 1 rfl) ?_
      refine lv_aload_n F.1 F.2.1 d_Mo_placeOf_12 rfl (lv_at hl3 2 rfl) ?_
      refine lv_iload_n F.1 F.2.1 d_Mo_placeOf_13 rfl (lv_at hl3 3 rfl) ?_
      refine lv_iload F.1 F.2.1 d_Mo_placeOf_14 (lv_at hl3 0 rfl) ?_
      refine q_calli hWp (q_cV (As := [.int x, .int ch]) (rest := [.int v1]) F hWp cs_Mo_127 hd_Mo_behind rfl (by omega) mo (k_Mo_behind l D τ A ad N w hb th n32 b32 s32 p32 mo m hn hm40 r hr9 PA hPA par hPAf rk hT x hx ch c hcv hcm (by omega) q9 q1 q2) rfl rfl ⟨by decide, by decide⟩ rfl hl3.1 rfl (Nat.le_of_ble_eq_true rfl) d_Mo_placeOf_16 ⟨Nat.le_refl _, Nat.le_refl _⟩) (fun v4 w4 H4 locs4 hp4 hW4 => ?_)
      obtain ⟨hq4, hp4⟩ := hp4
      replace hq4 := hq4.symm
      subst hq4
      refine q_iadd F d_Mo_placeOf_19 (by omega) (fun v5 hv5 => ?_)
      refine lv_istore_n (lv' := [(3, .int v5), (4, .int ch), (0, .ref (ad 469)), (1, .int x), (2, .int y)]) F.1 F.2.1 d_Mo_placeOf_20 rfl hl3 (by decide) rfl (fun ls6 hl6 => ?_)
      clear hl3
      refine lv_aload_n F.1 F.2.1 d_Mo_placeOf_21 rfl (lv_at hl6 2 rfl) ?_
      refine gf_Mo_45 F hW4 (by omega) mo d_Mo_placeOf_22 ?_
      refine q_bipush F d_Mo_placeOf_25 (by decide) (fun v7 hv7 => ?_)
      refine lv_iload_n F.1 F.2.1 d_Mo_placeOf_27 rfl (lv_at hl6 3 rfl) ?_
      refine q_imul F d_Mo_placeOf_28 (by rw [hv7]; omega) (fun v8 hv8 => ?_)
      rw [hv7] at hv8
      refine lv_iload F.1 F.2.1 d_Mo_placeOf_29 (lv_at hl6 1 rfl) ?_
      refine q_iadd F d_Mo_placeOf_31 (by omega) (fun v9 hv9 => ?_)
      refine q_iald F hW4 hPA (by omega) ((40 * r) + c) (by omega) (by omega) d_Mo_placeOf_32 (fun v10 hv10 => ?_)
      rw [hPAg r c (by omega) (by omega)] at hv10
      refine lv_istore (lv' := [(4, .int v10), (3, .int v5), (0, .ref (ad 469)), (1, .int x), (2, .int y)]) F.1 F.2.1 d_Mo_placeOf_33 hl6 (by decide) rfl (fun ls11 hl11 => ?_)
      clear hl6
      refine lv_goto (tgt := 5) F.1 F.2.1 d_Mo_placeOf_35 (by decide) ?_
      exact ihf (ch := v10) (c := q9) (v1 := v5) (ls3 := ls11) (Hp := H4) (locsp := locs4) (hWp := hW4) (hinv := by omega) (hcv := by omega) (hcm := q2) (hsum := by omega) (hl3 := (lv_sub hl11 [0, 1, 2, 3, 4] rfl))
set_option maxHeartbeats 4000000 in
set_option maxRecDepth 100000 in
/-- light ones above -/
theorem k_Mo_lights (l : Launch) (D : va_G) (τ : Nat → ClassId) (A : Nat → Prop) (ad : Nat → Nat) (N : Nat) (w : Nat → va_E) (hb : 484 ≤ N) (th n32 b32 s32 p32 : Int32) (mo : w 469 = .inr (7, [.int th, .int n32, .ref (ad 470), .ref (ad 471), .ref (ad 472), .ref (ad 473), .ref (ad 474), .ref (ad 475), .int b32, .ref (ad 476), .ref (ad 477), .ref (ad 478), .ref (ad 479), .ref (ad 480), .int s32, .int p32, .ref (ad 481), .ref (ad 482), .ref (ad 483)])) (m : Nat) (hn : n32.toInt = m) (hm40 : m ≤ 40) (r : Nat) (hr9 : r < m) (PA : Nat → Int) (hPA : q_I τ w 480 1600 PA) (par : Nat → Int) (hPAf : ∀ a, a < m → PA (40 * r + a) = par a) (rk : Nat → Nat) (hT : zt_ok m r par rk) (x : Int32) (hx : x.toInt = r) (y : Int32) (a : Nat) (hy : y.toInt = a) (ha : a < m) : Met l y_Mo_lights (qws y_Mo_lights c_Mo_lights 5 (some .int)) ({ frames := 4, cells := 0, slots := 0, locals := 95 }) (qPc D τ A ad N w [.ref (ad 469), .int x, .int y]) (va_Qi (fun r1 w1 => w1 = w ∧ r1.toInt = zli m par a) (qB D τ A ad N) A) 0 0 A := by
  refine q_of (by decide) (Nat.le_of_ble_eq_true rfl) rfl ?_
  intro PP EE s MM below meth CC ls F hr hlk hnm hex hl hW
  have hl : lv_has ls 5 [(0, .ref (ad 469)), (1, .int x), (2, .int y)] := hl
  have hPAg : ∀ a b, a = r → b < m → PA (40 * a + b) = par b := fun a b h1 h2 => by rw [h1]; exact hPAf b h2
  have hrt := hT.2.1
  refine q_iconst F d_Mo_lights_0 (by decide) (fun v1 hv1 => ?_)
  refine lv_istore_n (lv' := [(3, .int v1), (0, .ref (ad 469)), (1, .int x), (2, .int y)]) F.1 F.2.1 d_Mo_lights_1 rfl hl (by decide) rfl (fun ls2 hl2 => ?_)
  clear hl
  refine lv_iload_n F.1 F.2.1 d_Mo_lights_2 rfl (lv_at hl2 3 rfl) ?_
  refine lv_istore (lv' := [(4, .int y), (3, .int v1), (0, .ref (ad 469)), (1, .int x), (2, .int y)]) F.1 F.2.1 d_Mo_lights_3 hl2 (by decide) rfl (fun ls3 hl3 => ?_)
  clear hl2
  obtain ⟨ch, hch⟩ : ∃ z : Int32, z = y := ⟨_, rfl⟩
  replace hl3 : lv_has ls3 5 [(4, .int ch), (3, .int v1), (0, .ref (ad 469)), (1, .int x), (2, .int y)] := by rw [hch]; exact hl3
  obtain ⟨c, hc0⟩ : ∃ c : Nat, c = a := ⟨_, rfl⟩
  have hWp := hW
  obtain ⟨f, hf0⟩ : ∃ f : Nat, f = 50 := ⟨_, rfl⟩
  have hinv : 0 < f ∧ rk c < f := by have := hT.2.2.2 a ha; rw [hc0]; omega
  have hcv : ch.toInt = (c : Int) := by rw [hch, hc0]; exact hy
  have hcm : c < m := by omega
  have hsum : v1.toInt + zli m par c = zli m par a := by rw [hc0, hv1]; omega
  clear hf0 hch hc0 hv1
  generalize s.heap = Hp at hWp ⊢
  generalize ([] : List Loc) = locsp at hWp ⊢
  induction f generalizing ch c v1 ls3 Hp locsp with
  | zero => exact absurd hinv.1 (by omega)
  | succ f ihf =>
    refine lv_iload F.1 F.2.1 d_Mo_lights_5 (lv_at hl3 0 rfl) ?_
    refine lv_iload_n F.1 F.2.1 d_Mo_lights_7 rfl (lv_at hl3 3 rfl) ?_
    refine q_icmp_eq (tgt := 46) F d_Mo_lights_8 (by decide) (fun c8 => ?_) (fun c8 => ?_)
    · refine lv_iload_n F.1 F.2.1 d_Mo_lights_46 rfl (lv_at hl3 1 rfl) ?_
      have hcr : c = r := by omega
      rw [hcr, zli_root hT] at hsum
      exact q_iret F hr hlk hWp ⟨rfl, by omega⟩ d_Mo_lights_47
    · obtain ⟨q9, q1, q2, q3⟩ := hT.2.2.1 c hcm (by omega)
      obtain ⟨l1, hl1, hl1b⟩ := zli_bd hT hm40 hcm
      obtain ⟨l2, hl2, hl2b⟩ := zli_bd hT hm40 ha
      refine lv_iload_n F.1 F.2.1 d_Mo_lights_11 rfl (lv_at hl3 1 rfl) ?_
      refine lv_aload_n F.1 F.2.1 d_Mo_lights_12 rfl (lv_at hl3 2 rfl) ?_
      refine lv_iload_n F.1 F.2.1 d_Mo_lights_13 rfl (lv_at hl3 3 rfl) ?_
      refine lv_iload F.1 F.2.1 d_Mo_lights_14 (lv_at hl3 0 rfl) ?_
      refine q_calli hWp (q_cV (As := [.int x, .int ch]) (rest := [.int v1]) F hWp cs_Mo_130 hd_Mo_isLight rfl (by omega) mo (k_Mo_isLight l D τ A ad N w hb th n32 b32 s32 p32 mo m hn hm40 r hr9 PA hPA par hPAf rk hT x hx ch c hcv hcm) rfl rfl ⟨by decide, by decide⟩ rfl hl3.1 rfl (Nat.le_of_ble_eq_true rfl) d_Mo_lights_16 ⟨Nat.le_refl _, Nat.le_refl _⟩) (fun v4 w4 H4 locs4 hp4 hW4 => ?_)
      obtain ⟨hq4, hp4⟩ := hp4
      replace hq4 := hq4.symm
      subst hq4
      refine q_if_eq (tgt := 26) F d_Mo_lights_19 (by decide) (fun c19 => ?_) (fun c19 => ?_)
      · have hup := zli_f hT hm40 hcm q2 q1 (qb_f hp4 (by omega))
        refine q_iconst F d_Mo_lights_26 (by decide) (fun v5 hv5 => ?_)
        refine q_iadd F d_Mo_lights_27 (by omega) (fun v6 hv6 => ?_)
        refine lv_istore_n (lv' := [(3, .int v6), (4, .int ch), (0, .ref (ad 469)), (1, .int x), (2, .int y)]) F.1 F.2.1 d_Mo_lights_28 rfl hl3 (by decide) rfl (fun ls7 hl7 => ?_)
        clear hl3
        refine lv_aload_n F.1 F.2.1 d_Mo_lights_29 rfl (lv_at hl7 2 rfl) ?_
        refine gf_Mo_45 F hW4 (by omega) mo d_Mo_lights_30 ?_
        refine q_bipush F d_Mo_lights_33 (by decide) (fun v8 hv8 => ?_)
        refine lv_iload_n F.1 F.2.1 d_Mo_lights_35 rfl (lv_at hl7 3 rfl) ?_
        refine q_imul F d_Mo_lights_36 (by rw [hv8]; omega) (fun v9 hv9 => ?_)
        rw [hv8] at hv9
        refine lv_iload F.1 F.2.1 d_Mo_lights_37 (lv_at hl7 1 rfl) ?_
        refine q_iadd F d_Mo_lights_39 (by omega) (fun v10 hv10 => ?_)
        refine q_iald F hW4 hPA (by omega) ((40 * r) + c) (by omega) (by omega) d_Mo_lights_40 (fun v11 hv11 => ?_)
        rw [hPAg r c (by omega) (by omega)] at hv11
        refine lv_istore (lv' := [(4, .int v11), (3, .int v6), (0, .ref (ad 469)), (1, .int x), (2, .int y)]) F.1 F.2.1 d_Mo_lights_41 hl7 (by decide) rfl (fun ls12 hl12 => ?_)
        clear hl7
        refine lv_goto (tgt := 5) F.1 F.2.1 d_Mo_lights_43 (by decide) ?_
        exact ihf (ch := v11) (c := q9) (v1 := v6) (ls3 := ls12) (Hp := H4) (locsp := locs4) (hWp := hW4) (hinv := by omega) (hcv := by omega) (hcm := q2) (hsum := by omega) (hl3 := (lv_sub hl12 [0, 1, 2, 3, 4] rfl))
      · have hup := zli_t hT hm40 hcm q2 q1 (qb_t hp4 (by omega))
        refine q_iconst F d_Mo_lights_22 (by decide) (fun v13 hv13 => ?_)
        refine lv_goto (tgt := 27) F.1 F.2.1 d_Mo_lights_23 (by decide) ?_
        refine q_iadd F d_Mo_lights_27 (by omega) (fun v14 hv14 => ?_)
        refine lv_istore_n (lv' := [(3, .int v14), (4, .int ch), (0, .ref (ad 469)), (1, .int x), (2, .int y)]) F.1 F.2.1 d_Mo_lights_28 rfl hl3 (by decide) rfl (fun ls15 hl15 => ?_)
        clear hl3
        refine lv_aload_n F.1 F.2.1 d_Mo_lights_29 rfl (lv_at hl15 2 rfl) ?_
        refine gf_Mo_45 F hW4 (by omega) mo d_Mo_lights_30 ?_
        refine q_bipush F d_Mo_lights_33 (by decide) (fun v16 hv16 => ?_)
        refine lv_iload_n F.1 F.2.1 d_Mo_lights_35 rfl (lv_at hl15 3 rfl) ?_
        refine q_imul F d_Mo_lights_36 (by rw [hv16]; omega) (fun v17 hv17 => ?_)
        rw [hv16] at hv17
        refine lv_iload F.1 F.2.1 d_Mo_lights_37 (lv_at hl15 1 rfl) ?_
        refine q_iadd F d_Mo_lights_39 (by omega) (fun v18 hv18 => ?_)
        refine q_iald F hW4 hPA (by omega) ((40 * r) + c) (by omega) (by omega) d_Mo_lights_40 (fun v19 hv19 => ?_)
        rw [hPAg r c (by omega) (by omega)] at hv19
        refine lv_istore (lv' := [(4, .int v19), (3, .int v14), (0, .ref (ad 469)), (1, .int x), (2, .int y)]) F.1 F.2.1 d_Mo_lights_41 hl15 (by decide) rfl (fun ls20 hl20 => ?_)
        clear hl15
        refine lv_goto (tgt := 5) F.1 F.2.1 d_Mo_lights_43 (by decide) ?_
        exact ihf (ch := v19) (c := q9) (v1 := v14) (ls3 := ls20) (Hp := H4) (locsp := locs4) (hWp := hW4) (hinv := by omega) (hcv := by omega) (hcm := q2) (hsum := by omega) (hl3 := (lv_sub hl20 [0, 1, 2, 3, 4] rfl))
set_option maxHeartbeats 4000000 in
set_option maxRecDepth 100000 in
/-- the ports of light ones -/
theorem k_Mo_lightPorts (l : Launch) (D : va_G) (τ : Nat → ClassId) (A : Nat → Prop) (ad : Nat → Nat) (N : Nat) (w : Nat → va_E) (hb : 484 ≤ N) (th n32 b32 s32 p32 : Int32) (mo : w 469 = .inr (7, [.int th, .int n32, .ref (ad 470), .ref (ad 471), .ref (ad 472), .ref (ad 473), .ref (ad 474), .ref (ad 475), .int b32, .ref (ad 476), .ref (ad 477), .ref (ad 478), .ref (ad 479), .ref (ad 480), .int s32, .int p32, .ref (ad 481), .ref (ad 482), .ref (ad 483)])) (m : Nat) (hn : n32.toInt = m) (hm40 : m ≤ 40) (r : Nat) (hr9 : r < m) (PA : Nat → Int) (hPA : q_I τ w 480 1600 PA) (par : Nat → Int) (hPAf : ∀ a, a < m → PA (40 * r + a) = par a) (rk : Nat → Nat) (hT : zt_ok m r par rk) (x : Int32) (hx : x.toInt = r) (y : Int32) (a : Nat) (hy : y.toInt = a) (ha : a < m) (pt : Nat → Int) (hpt : ∀ v, v < m → v ≠ r → 0 ≤ pt v ∧ pt v ≤ 15) (GO : Nat → Int) (hGO : q_I τ w 473 640 GO) (bo : Nat → Nat → Int) (hGOf : ∀ a b, a < m → b < 16 → GO (16 * a + b) = bo a b) (hpq : ∀ v q, v < m → q < m → par v = (q : Int) → pt v = zp bo q (v : Int)) : Met l y_Mo_lightPorts (qws y_Mo_lightPorts c_Mo_lightPorts 5 (some .int)) ({ frames := 4, cells := 0, slots := 0, locals := 95 }) (qPc D τ A ad N w [.ref (ad 469), .int x, .int y]) (va_Qi (fun r1 w1 => w1 = w ∧ r1.toInt = zwd m par pt a) (qB D τ A ad N) A) 0 0 A := by
  refine q_of (by decide) (Nat.le_of_ble_eq_true rfl) rfl ?_
  intro PP EE s MM below meth CC ls F hr hlk hnm hex hl hW
  have hl : lv_has ls 5 [(0, .ref (ad 469)), (1, .int x), (2, .int y)] := hl
  have hPAg : ∀ a b, a = r → b < m → PA (40 * a + b) = par b := fun a b h1 h2 => by rw [h1]; exact hPAf b h2
  have hrt := hT.2.1
  refine q_iconst F d_Mo_lightPorts_0 (by decide) (fun v1 hv1 => ?_)
  refine lv_istore_n (lv' := [(3, .int v1), (0, .ref (ad 469)), (1, .int x), (2, .int y)]) F.1 F.2.1 d_Mo_lightPorts_1 rfl hl (by decide) rfl (fun ls2 hl2 => ?_)
  clear hl
  refine lv_iload_n F.1 F.2.1 d_Mo_lightPorts_2 rfl (lv_at hl2 3 rfl) ?_
  refine lv_istore (lv' := [(4, .int y), (3, .int v1), (0, .ref (ad 469)), (1, .int x), (2, .int y)]) F.1 F.2.1 d_Mo_lightPorts_3 hl2 (by decide) rfl (fun ls3 hl3 => ?_)
  clear hl2
  obtain ⟨ch, hch⟩ : ∃ z : Int32, z = y := ⟨_, rfl⟩
  replace hl3 : lv_has ls3 5 [(4, .int ch), (3, .int v1), (0, .ref (ad 469)), (1, .int x), (2, .int y)] := by rw [hch]; exact hl3
  obtain ⟨c, hc0⟩ : ∃ c : Nat, c = a := ⟨_, rfl⟩
  obtain ⟨W0, hW0⟩ : ∃ c : Nat, c = 0 := ⟨_, rfl⟩
  have hwb := zwd_bd hT hm40 hpt ha
  have hWp := hW
  obtain ⟨f, hf0⟩ : ∃ f : Nat, f = 50 := ⟨_, rfl⟩
  have hinv : 0 < f ∧ rk c < f := by have := hT.2.2.2 a ha; rw [hc0]; omega
  have hcv : ch.toInt = (c : Int) := by rw [hch, hc0]; exact hy
  have hcm : c < m := by omega
  have hwv : v1.toInt = (W0 : Int) := by rw [hW0]; exact hv1
  have hzc : zC par (zwg m par pt) c (W0 : Int) = zwd m par pt a := by rw [hc0, hW0]; rfl
  clear hf0 hch hc0 hW0 hv1
  generalize s.heap = Hp at hWp ⊢
  generalize ([] : List Loc) = locsp at hWp ⊢
  induction f generalizing ch c W0 v1 ls3 Hp locsp with
  | zero => exact absurd hinv.1 (by omega)
  | succ f ihf =>
    refine lv_iload F.1 F.2.1 d_Mo_lightPorts_5 (lv_at hl3 0 rfl) ?_
    refine lv_iload_n F.1 F.2.1 d_Mo_lightPorts_7 rfl (lv_at hl3 3 rfl) ?_
    refine q_icmp_eq (tgt := 65) F d_Mo_lightPorts_8 (by decide) (fun c8 => ?_) (fun c8 => ?_)
    · refine lv_iload_n F.1 F.2.1 d_Mo_lightPorts_65 rfl (lv_at hl3 1 rfl) ?_
      have hcr : c = r := by omega
      rw [hcr, zC_root hrt] at hzc
      exact q_iret F hr hlk hWp ⟨rfl, by rw [← hzc]; exact hwv⟩ d_Mo_lightPorts_66
    · obtain ⟨q9, q1, q2, q3⟩ := hT.2.2.1 c hcm (by omega)
      have hup := zC_up hT hm40 (g := zwg m par pt) (w := (W0 : Int)) hcm q1
      obtain ⟨k9, -, ⟨k90, -⟩, k91⟩ := zwd_gen hT hm40 hpt c hcm
      have hWb : W0 < 2 ^ 20 := by
        have h1 := k91 (W0 : Int)
        have h2 : (W0 : Int) * 1 ≤ (W0 : Int) * 16 ^ k9 := Int.mul_le_mul_of_nonneg_left (by have : 0 < (16 : Int) ^ k9 := Int.pow_pos (by decide); omega) (by omega)
        omega
      refine lv_aload_n F.1 F.2.1 d_Mo_lightPorts_11 rfl (lv_at hl3 2 rfl) ?_
      refine lv_iload_n F.1 F.2.1 d_Mo_lightPorts_12 rfl (lv_at hl3 3 rfl) ?_
      refine lv_iload F.1 F.2.1 d_Mo_lightPorts_13 (lv_at hl3 0 rfl) ?_
      refine q_calli hWp (q_cV (As := [.int x, .int ch]) (rest := []) F hWp cs_Mo_130 hd_Mo_isLight rfl (by omega) mo (k_Mo_isLight l D τ A ad N w hb th n32 b32 s32 p32 mo m hn hm40 r hr9 PA hPA par hPAf rk hT x hx ch c hcv hcm) rfl rfl ⟨by decide, by decide⟩ rfl hl3.1 rfl (Nat.le_of_ble_eq_true rfl) d_Mo_lightPorts_15 ⟨Nat.le_refl _, Nat.le_refl _⟩) (fun v4 w4 H4 locs4 hp4 hW4 => ?_)
      obtain ⟨hq4, hp4⟩ := hp4
      replace hq4 := hq4.symm
      subst hq4
      refine q_if_eq (tgt := 48) F d_Mo_lightPorts_18 (by decide) (fun c18 => ?_) (fun c18 => ?_)
      · rw [zwg_f (qb_f hp4 (by omega))] at hup
        refine lv_aload_n F.1 F.2.1 d_Mo_lightPorts_48 rfl (lv_at hl3 2 rfl) ?_
        refine gf_Mo_45 F hW4 (by omega) mo d_Mo_lightPorts_49 ?_
        refine q_bipush F d_Mo_lightPorts_52 (by decide) (fun v5 hv5 => ?_)
        refine lv_iload_n F.1 F.2.1 d_Mo_lightPorts_54 rfl (lv_at hl3 3 rfl) ?_
        refine q_imul F d_Mo_lightPorts_55 (by rw [hv5]; omega) (fun v6 hv6 => ?_)
        rw [hv5] at hv6
        refine lv_iload F.1 F.2.1 d_Mo_lightPorts_56 (lv_at hl3 0 rfl) ?_
        refine q_iadd F d_Mo_lightPorts_58 (by omega) (fun v7 hv7 => ?_)
        refine q_iald F hW4 hPA (by omega) ((40 * r) + c) (by omega) (by omega) d_Mo_lightPorts_59 (fun v8 hv8 => ?_)
        rw [hPAg r c (by omega) (by omega)] at hv8
        refine lv_istore (lv' := [(4, .int v8), (3, .int v1), (0, .ref (ad 469)), (1, .int x), (2, .int y)]) F.1 F.2.1 d_Mo_lightPorts_60 hl3 (by decide) rfl (fun ls9 hl9 => ?_)
        clear hl3
        refine lv_goto (tgt := 5) F.1 F.2.1 d_Mo_lightPorts_62 (by decide) ?_
        exact ihf (ch := v8) (c := q9) (W0 := W0) (v1 := v1) (ls3 := ls9) (Hp := H4) (locsp := locs4) (hWp := hW4) (hinv := by omega) (hcv := by omega) (hcm := q2) (hwv := hwv) (hzc := by rw [← hup]; exact hzc) (hl3 := (lv_sub hl9 [0, 1, 2, 3, 4] rfl))
      · rw [zwg_t (qb_t hp4 (by omega))] at hup
        have hp9 := hpt c hcm (by omega)
        have hpq9 := hpq c q9 hcm q2 q1
        refine lv_iload_n F.1 F.2.1 d_Mo_lightPorts_21 rfl (lv_at hl3 1 rfl) ?_
        refine q_bipush F d_Mo_lightPorts_22 (by decide) (fun v10 hv10 => ?_)
        refine q_imul F d_Mo_lightPorts_24 (by rw [hv10, hwv]; omega) (fun v11 hv11 => ?_)
        rw [hv10, hwv] at hv11
        refine lv_aload_n F.1 F.2.1 d_Mo_lightPorts_25 rfl (lv_at hl3 2 rfl) ?_
        refine gf_Mo_23 F hW4 (by omega) mo d_Mo_lightPorts_26 ?_
        refine lv_aload_n F.1 F.2.1 d_Mo_lightPorts_29 rfl (lv_at hl3 2 rfl) ?_
        refine gf_Mo_45 F hW4 (by omega) mo d_Mo_lightPorts_30 ?_
        refine q_bipush F d_Mo_lightPorts_33 (by decide) (fun v12 hv12 => ?_)
        refine lv_iload_n F.1 F.2.1 d_Mo_lightPorts_35 rfl (lv_at hl3 3 rfl) ?_
        refine q_imul F d_Mo_lightPorts_36 (by rw [hv12]; omega) (fun v13 hv13 => ?_)
        rw [hv12] at hv13
        refine lv_iload F.1 F.2.1 d_Mo_lightPorts_37 (lv_at hl3 0 rfl) ?_
        refine q_iadd F d_Mo_lightPorts_39 (by omega) (fun v14 hv14 => ?_)
        refine q_iald F hW4 hPA (by omega) ((40 * r) + c) (by omega) (by omega) d_Mo_lightPorts_40 (fun v15 hv15 => ?_)
        rw [hPAg r c (by omega) (by omega)] at hv15
        refine lv_iload F.1 F.2.1 d_Mo_lightPorts_41 (lv_at hl3 0 rfl) ?_
        refine q_calli hW4 (q_cS (As := [.ref (ad 473), .int v15, .int ch]) (rest := [.int v11]) F hW4 cs_Mo_74 hs_Mo_portOf (k_Mo_portOf l D τ A ad N w 473 (by omega) m hm40 GO hGO bo hGOf v15 ch q9 (by omega) q2) rfl rfl ⟨by decide, by decide⟩ rfl hl3.1 rfl (Nat.le_of_ble_eq_true rfl) d_Mo_lightPorts_43 ⟨Nat.le_refl _, Nat.le_refl _⟩) (fun v16 w16 H16 locs16 hp16 hW16 => ?_)
        obtain ⟨hq16, hp16⟩ := hp16
        replace hq16 := hq16.symm
        subst hq16
        rw [hcv, ← hpq9] at hp16
        refine q_iadd F d_Mo_lightPorts_46 (by omega) (fun v17 hv17 => ?_)
        refine lv_istore_n (lv' := [(3, .int v17), (4, .int ch), (0, .ref (ad 469)), (1, .int x), (2, .int y)]) F.1 F.2.1 d_Mo_lightPorts_47 rfl hl3 (by decide) rfl (fun ls18 hl18 => ?_)
        clear hl3
        refine lv_aload_n F.1 F.2.1 d_Mo_lightPorts_48 rfl (lv_at hl18 2 rfl) ?_
        refine gf_Mo_45 F hW16 (by omega) mo d_Mo_lightPorts_49 ?_
        refine q_bipush F d_Mo_lightPorts_52 (by decide) (fun v19 hv19 => ?_)
        refine lv_iload_n F.1 F.2.1 d_Mo_lightPorts_54 rfl (lv_at hl18 3 rfl) ?_
        refine q_imul F d_Mo_lightPorts_55 (by rw [hv19]; omega) (fun v20 hv20 => ?_)
        rw [hv19] at hv20
        refine lv_iload F.1 F.2.1 d_Mo_lightPorts_56 (lv_at hl18 1 rfl) ?_
        refine q_iadd F d_Mo_lightPorts_58 (by omega) (fun v21 hv21 => ?_)
        refine q_iald F hW16 hPA (by omega) ((40 * r) + c) (by omega) (by omega) d_Mo_lightPorts_59 (fun v22 hv22 => ?_)
        rw [hPAg r c (by omega) (by omega)] at hv22
        refine lv_istore (lv' := [(4, .int v22), (3, .int v17), (0, .ref (ad 469)), (1, .int x), (2, .int y)]) F.1 F.2.1 d_Mo_lightPorts_60 hl18 (by decide) rfl (fun ls23 hl23 => ?_)
        clear hl18
        refine lv_goto (tgt := 5) F.1 F.2.1 d_Mo_lightPorts_62 (by decide) ?_
        obtain ⟨p9, hp9e⟩ : ∃ p9 : Nat, pt c = (p9 : Int) := ⟨(pt c).toNat, by omega⟩
        exact ihf (ch := v22) (c := q9) (W0 := W0 * 16 + p9) (v1 := v17) (ls3 := ls23) (Hp := H16) (locsp := locs16) (hWp := hW16) (hinv := by omega) (hcv := by omega) (hcm := q2) (hwv := by omega) (hzc := by rw [← hzc, hup, hp9e]; congr 1) (hl3 := (lv_sub hl23 [0, 1, 2, 3, 4] rfl))
