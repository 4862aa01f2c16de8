/-- the reference's arrays, whatever they hold -/
def qMs (τ : Nat → ClassId) (w : Nat → va_E) : Prop := (∃ G, q_I τ w 472 1600 G) ∧ (∃ G, q_I τ w 473 640 G) ∧ (∃ G, q_I τ w 474 1600 G) ∧ (∃ G, q_I τ w 475 1600 G) ∧ (∃ B, q_Z τ w 476 40 B) ∧ (∃ B, q_Z τ w 477 1600 B) ∧ (∃ B, q_Z τ w 478 40 B) ∧ (∃ G, q_I τ w 479 40 G) ∧ ∃ G, q_I τ w 480 1600 G
theorem qMs.keep {τ : Nat → ClassId} {w w' : Nat → va_E} (h : qMs τ w) (e : ∀ q, 472 ≤ q → q < 481 → w' q = w q) : qMs τ w' := by
  obtain ⟨⟨_, h1⟩, ⟨_, h2⟩, ⟨_, h3⟩, ⟨_, h4⟩, ⟨_, h5⟩, ⟨_, h6⟩, ⟨_, h7⟩, ⟨_, h8⟩, _, h9⟩ := h
  exact ⟨⟨_, h1.keep (e _ (by omega) (by omega))⟩, ⟨_, h2.keep (e _ (by omega) (by omega))⟩, ⟨_, h3.keep (e _ (by omega) (by omega))⟩, ⟨_, h4.keep (e _ (by omega) (by omega))⟩, ⟨_, h5.keep (e _ (by omega) (by omega))⟩, ⟨_, h6.keep (e _ (by omega) (by omega))⟩, ⟨_, h7.keep (e _ (by omega) (by omega))⟩, ⟨_, h8.keep (e _ (by omega) (by omega))⟩, _, h9.keep (e _ (by omega) (by omega))⟩
/-- what the reference keeps of a build -/
def qMb (τ : Nat → ClassId) (w : Nat → va_E) (X : zSt) : Prop := (∃ V, q_I τ w 472 1600 V ∧ ∀ a b, a < X.n → b < X.n → V (40 * a + b) = X.Wo a b) ∧ (∃ G, q_I τ w 473 640 G ∧ ∀ a b, a < X.n → b < 16 → G (16 * a + b) = X.bo a b) ∧ (∃ T, q_I τ w 475 1600 T ∧ ∀ a b, a < X.n → b < X.n → T (40 * a + b) = zd X.n X.Wo a b) ∧ (∃ B, q_Z τ w 476 40 B ∧ ∀ v, v < X.n → (B v ↔ X.mk v)) ∧ (∃ O, q_I τ w 479 40 O ∧ ∀ a, a < X.n → O a = zow X.n (zd X.n X.Wo) X.mk a) ∧ ∃ PA, q_I τ w 480 1600 PA ∧ ∀ r a, r < X.n → a < X.n → X.mk r → PA (40 * r + a) = zpa X.n X.Wo r a
theorem qMb.keep {τ : Nat → ClassId} {w w' : Nat → va_E} {X : zSt} (h : qMb τ w X) (e : ∀ q, 472 ≤ q → q < 481 → q ≠ 474 → w' q = w q) : qMb τ w' X := by
  obtain ⟨⟨_, h1, k1⟩, ⟨_, h2, k2⟩, ⟨_, h3, k3⟩, ⟨_, h4, k4⟩, ⟨_, h5, k5⟩, _, h6, k6⟩ := h
  exact ⟨⟨_, h1.keep (e _ (by omega) (by omega) (by omega)), k1⟩, ⟨_, h2.keep (e _ (by omega) (by omega) (by omega)), k2⟩, ⟨_, h3.keep (e _ (by omega) (by omega) (by omega)), k3⟩, ⟨_, h4.keep (e _ (by omega) (by omega) (by omega)), k4⟩, ⟨_, h5.keep (e _ (by omega) (by omega) (by omega)), k5⟩, _, h6.keep (e _ (by omega) (by omega) (by omega)), k6⟩
def qMr (τ : Nat → ClassId) (w : Nat → va_E) (X : zSt) : Prop := (∃ G, q_I τ w 470 1600 G ∧ ∀ a b, a < X.n → b < X.n → G (40 * a + b) = X.Wt a b) ∧ (∃ G, q_I τ w 471 640 G ∧ ∀ a b, a < X.n → b < 16 → G (16 * a + b) = X.bh a b) ∧ qMs τ w ∧ (X.bt → qMb τ w X) ∧ q_I τ w 481 16 X.P ∧ q_I τ w 482 16 X.G ∧ q_I τ w 483 16 X.U
theorem qMr.keep {τ : Nat → ClassId} {w w' : Nat → va_E} {X : zSt} (h : qMr τ w X) (e : ∀ q, 470 ≤ q → q < 484 → w' q = w q) : qMr τ w' X := by
  obtain ⟨⟨_, h1, k1⟩, ⟨_, h2, k2⟩, h3, h4, h5, h6, h7⟩ := h
  exact ⟨⟨_, h1.keep (e _ (by omega) (by omega)), k1⟩, ⟨_, h2.keep (e _ (by omega) (by omega)), k2⟩, h3.keep (fun q _ _ => e q (by omega) (by omega)), fun b => (h4 b).keep (fun q _ _ _ => e q (by omega) (by omega)), h5.keep (e _ (by omega) (by omega)), h6.keep (e _ (by omega) (by omega)), h7.keep (e _ (by omega) (by omega))⟩
/-- the reference's side of a state; k: what was thrown last -/
def qMo (τ : Nat → ClassId) (ad : Nat → Nat) (w : Nat → va_E) (X : zSt) (k : Int) : Prop := (∃ th n32 b32 s32 p32 : Int32, w 469 = .inr (7, [.int th, .int n32, .ref (ad 470), .ref (ad 471), .ref (ad 472), .ref (ad 473), .ref (ad 474), .ref (ad 475), .int b32, .ref (ad 476), .ref (ad 477), .ref (ad 478), .ref (ad 479), .ref (ad 480), .int s32, .int p32, .ref (ad 481), .ref (ad 482), .ref (ad 483)]) ∧ th.toInt = k ∧ n32.toInt = X.n ∧ qb X.bt b32 ∧ s32.toInt = X.sn ∧ p32.toInt = X.pk) ∧ qMr τ w X
theorem qMo.keep {τ : Nat → ClassId} {ad : Nat → Nat} {w w' : Nat → va_E} {X : zSt} {k : Int} (h : qMo τ ad w X k) (e : ∀ q, 469 ≤ q → q < 484 → w' q = w q) : qMo τ ad w' X k := by
  obtain ⟨⟨th, n32, b32, s32, p32, h1, h2⟩, h3⟩ := h
  exact ⟨⟨th, n32, b32, s32, p32, by rw [e 469 (by omega) (by omega)]; exact h1, h2⟩, h3.keep (fun q _ _ => e q (by omega) (by omega))⟩
/-- entries written row by row -/
def zdn (m : Nat) (T : Nat → Int) (M : Nat → Nat → Int) (a b : Nat) : Prop := ∀ x y, x < m → y < m → (x < a ∨ (x = a ∧ y < b)) → T (40 * x + y) = M x y
theorem zdn_0 {m : Nat} {T : Nat → Int} {M : Nat → Nat → Int} : zdn m T M 0 0 := fun x y _ _ h => by omega
theorem zdn_s {m : Nat} {T : Nat → Int} {M : Nat → Nat → Int} {a b : Nat} {v : Int} (hm : m ≤ 40) (hb : b < m) (h : zdn m T M a b) (hv : v = M a b) : zdn m (q_up T (40 * a + b) v) M a (b + 1) := by
  intro x y hx hy hc
  unfold q_up
  by_cases e : 40 * x + y = 40 * a + b
  · have e1 : x = a := by omega
    have e2 : y = b := by omega
    rw [if_pos e, e1, e2, hv]
  · rw [if_neg e]
    exact h x y hx hy (by omega)
theorem zdn_r {m : Nat} {T : Nat → Int} {M : Nat → Nat → Int} {a b : Nat} (h : zdn m T M a b) (hb : m ≤ b) : zdn m T M (a + 1) 0 := fun x y hx hy hc => h x y hx hy (by omega)
theorem zdn_e {m : Nat} {T : Nat → Int} {M : Nat → Nat → Int} {a : Nat} (h : zdn m T M a 0) (ha : m ≤ a) : ∀ x y, x < m → y < m → T (40 * x + y) = M x y := fun x y hx hy => h x y hx hy (by omega)
/-- between two phases -/
def zmx (m : Nat) (Wt : Nat → Nat → Int) (T : Nat → Int) (k a b : Nat) : Prop := ∀ x y, x < m → y < m → ((x < a ∨ (x = a ∧ y < b)) → T (40 * x + y) = zw Wt (k + 1) x y) ∧ (¬ (x < a ∨ (x = a ∧ y < b)) → T (40 * x + y) = zw Wt k x y)
theorem zmx_0 {m k : Nat} {Wt : Nat → Nat → Int} {T : Nat → Int} (h : ∀ x y, x < m → y < m → T (40 * x + y) = zw Wt k x y) : zmx m Wt T k 0 0 := fun x y hx hy => ⟨fun q => by omega, fun _ => h x y hx hy⟩
theorem zmx_col {m k a b x : Nat} {Wt : Nat → Nat → Int} {T : Nat → Int} (hg : zg_ok m Wt) (h : zmx m Wt T k a b) (hk : k < m) (hx : x < m) : T (40 * x + k) = zw Wt k x k := by
  by_cases e : x < a ∨ (x = a ∧ k < b)
  · rw [(h x k hx hk).1 e, zw_col hg hk]
  · exact (h x k hx hk).2 e
theorem zmx_row {m k a b y : Nat} {Wt : Nat → Nat → Int} {T : Nat → Int} (hg : zg_ok m Wt) (h : zmx m Wt T k a b) (hk : k < m) (hy : y < m) : T (40 * k + y) = zw Wt k k y := by
  by_cases e : k < a ∨ (k = a ∧ y < b)
  · rw [(h k y hk hy).1 e, zw_row hg hk]
  · exact (h k y hk hy).2 e
theorem zmx_s {m k a b : Nat} {Wt : Nat → Nat → Int} {T : Nat → Int} {v : Int} (hm : m ≤ 40) (hb : b < m) (h : zmx m Wt T k a b) (hv : v = zw Wt (k + 1) a b) : zmx m Wt (q_up T (40 * a + b) v) k a (b + 1) := by
  intro x y hx hy
  unfold q_up
  by_cases e : 40 * x + y = 40 * a + b
  · have e1 : x = a := by omega
    have e2 : y = b := by omega
    rw [if_pos e, e1, e2, hv]
    exact ⟨fun _ => rfl, fun q => by omega⟩
  · rw [if_neg e]
    exact ⟨fun q => (h x y hx hy).1 (by omega), fun q => (h x y hx hy).2 (by omega)⟩
theorem zmx_r {m k a b : Nat} {Wt : Nat → Nat → Int} {T : Nat → Int} (h : zmx m Wt T k a b) (hb : m ≤ b) : zmx m Wt T k (a + 1) 0 := fun x y hx hy => ⟨fun q => (h x y hx hy).1 (by omega), fun q => (h x y hx hy).2 (by omega)⟩
theorem zmx_e {m k a : Nat} {Wt : Nat → Nat → Int} {T : Nat → Int} (h : zmx m Wt T k a 0) (ha : m ≤ a) : ∀ x y, x < m → y < m → T (40 * x + y) = zw Wt (k + 1) x y := fun x y hx hy => (h x y hx hy).1 (by omega)
set_option maxHeartbeats 4000000 in
set_option maxRecDepth 100000 in
/-- all least weights -/
theorem k_Mo_measure (l : Launch) (D : va_G) (τ : Nat → ClassId) (A : Nat → Prop) (ad : Nat → Nat) (N : Nat) (w : Nat → va_E) (hb : 484 ≤ N) (th n32 b32 s32 p32 : Int32) (mo : w 469 = .inr (7, [.int th, .int n32, .ref (ad 470), .ref (ad 471), .ref (ad 472), .ref (ad 473), .ref (ad 474), .ref (ad 475), .int b32, .ref (ad 476), .ref (ad 477), .ref (ad 478), .ref (ad 479), .ref (ad 480), .int s32, .int p32, .ref (ad 481), .ref (ad 482), .ref (ad 483)])) (m : Nat) (hn : n32.toInt = m) (hm40 : m ≤ 40) (W9 : Nat → Int) (hW9 : q_I τ w 470 1600 W9) (Wt : Nat → Nat → Int) (hW9f : ∀ a b, a < m → b < m → W9 (40 * a + b) = Wt a b) (N9 : Nat → Int) (hN9 : q_I τ w 474 1600 N9) (hg : zg_ok m Wt) : Met l y_Mo_measure (qws y_Mo_measure c_Mo_measure 5 none) ({ frames := 0, cells := 0, slots := 0, locals := 0 }) (qPc D τ A ad N w [.ref (ad 469)]) (va_Qv (fun w1 => (∃ T, q_I τ w1 474 1600 T ∧ ∀ a b, a < m → b < m → T (40 * a + b) = zd m Wt a b) ∧ (∀ q, q ≠ 474 → w1 q = w q)) (qB D τ A ad N) A) 0 0 A := by
  refine q_of (by decide) (Nat.le_of_ble_eq_true rfl) rfl ?_
  intro PP EE s MM below meth CC ls F hr hlk hnm hex hl hW
  have hl : lv_has ls 5 [(0, .ref (ad 469))] := hl
  refine q_iconst F d_Mo_measure_0 (by decide) (fun v1 hv1 => ?_)
  refine lv_istore_n (lv' := [(1, .int v1), (0, .ref (ad 469))]) F.1 F.2.1 d_Mo_measure_1 rfl hl (by decide) rfl (fun ls2 hl2 => ?_)
  clear hl
  obtain ⟨i, hi0⟩ : ∃ i : Nat, i = 0 := ⟨_, rfl⟩
  have hiv : v1.toInt = (i : Int) := by omega
  have hib : i ≤ m := by omega
  obtain ⟨wl, hwl⟩ : ∃ x : Nat → va_E, x = w := ⟨_, rfl⟩
  have hWl : qW D τ A s s.heap ([] : List Loc) ad N wl := by rw [hwl]; exact hW
  have hfl : (∀ q, q ≠ 474 → wl q = w q) := fun q _ => by rw [hwl]
  have hT : ∃ T, q_I τ wl 474 1600 T ∧ zdn m T (zw0 Wt) i 0 := ⟨N9, by rw [hwl]; exact hN9, by rw [hi0]; exact zdn_0⟩
  clear hi0 hv1 hwl
  generalize s.heap = Hl at hWl ⊢
  generalize ([] : List Loc) = locsl at hWl ⊢
  obtain ⟨f, hf⟩ : ∃ f : Nat, m + 1 ≤ i + f := ⟨m + 1, by omega⟩
  induction f generalizing i v1 ls2 wl Hl locsl with
  | zero => exact absurd hf (by omega)
  | succ f ihi =>
    obtain ⟨T, hT1, hT2⟩ := hT
    have mo9 := (hfl 469 (by omega)).trans mo
    refine lv_iload_n F.1 F.2.1 d_Mo_measure_2 rfl (lv_at hl2 0 rfl) ?_
    refine lv_aload_n F.1 F.2.1 d_Mo_measure_3 rfl (lv_at hl2 1 rfl) ?_
    refine gf_Mo_7 F hWl (by omega) mo9 d_Mo_measure_4 ?_
    refine q_icmp_ge (tgt := 82) F d_Mo_measure_7 (by decide) (fun c7 => ?_) (fun c7 => ?_)
    · have hT3 : ∀ x y, x < m → y < m → T (40 * x + y) = zw Wt 0 x y := zdn_e hT2 (by omega)
      clear mo9 ihi hf hib hiv hT2
      refine q_iconst F d_Mo_measure_82 (by decide) (fun v3 hv3 => ?_)
      refine lv_istore_n (lv' := [(1, .int v3), (0, .ref (ad 469))]) F.1 F.2.1 d_Mo_measure_83 rfl hl2 (by decide) rfl (fun ls4 hl4 => ?_)
      clear hl2
      obtain ⟨k, hk0⟩ : ∃ k : Nat, k = 0 := ⟨_, rfl⟩
      have hkv : v3.toInt = (k : Int) := by omega
      have hkb : k ≤ m := by omega
      obtain ⟨wk, hwk⟩ : ∃ x : Nat → va_E, x = wl := ⟨_, rfl⟩
      have hWk : qW D τ A s Hl locsl ad N wk := by rw [hwk]; exact hWl
      have hfk : (∀ q, q ≠ 474 → wk q = w q) := by rw [hwk]; exact hfl
      have hT : ∃ T, q_I τ wk 474 1600 T ∧ ∀ x y, x < m → y < m → T (40 * x + y) = zw Wt k x y := ⟨T, by rw [hwk]; exact hT1, by rw [hk0]; exact hT3⟩
      clear hk0 hv3 hwk
      generalize Hl = Hk at hWk ⊢
      generalize locsl = locsk at hWk ⊢
      obtain ⟨f9, hf9⟩ : ∃ f9 : Nat, m + 1 ≤ k + f9 := ⟨m + 1, by omega⟩
      induction f9 generalizing k v3 ls4 wk Hk locsk with
      | zero => exact absurd hf9 (by omega)
      | succ f9 ihk =>
        clear hT3
        clear hT1
        obtain ⟨T, hT1, hT2⟩ := hT
        have mo9 := (hfk 469 (by omega)).trans mo
        refine lv_iload_n F.1 F.2.1 d_Mo_measure_84 rfl (lv_at hl4 0 rfl) ?_
        refine lv_aload_n F.1 F.2.1 d_Mo_measure_85 rfl (lv_at hl4 1 rfl) ?_
        refine gf_Mo_7 F hWk (by omega) mo9 d_Mo_measure_86 ?_
        refine q_icmp_ge (tgt := 198) F d_Mo_measure_89 (by decide) (fun c89 => ?_) (fun c89 => ?_)
        · exact q_vret F hr hlk hWk ⟨⟨T, hT1, fun a b ha hb => by rw [hT2 a b ha hb, show k = m by omega]; rfl⟩, hfk⟩ d_Mo_measure_198
        · refine q_iconst F d_Mo_measure_92 (by decide) (fun v5 hv5 => ?_)
          refine lv_istore_n (lv' := [(2, .int v5), (1, .int v3), (0, .ref (ad 469))]) F.1 F.2.1 d_Mo_measure_93 rfl hl4 (by decide) rfl (fun ls6 hl6 => ?_)
          clear hl4
          obtain ⟨a, ha0⟩ : ∃ a : Nat, a = 0 := ⟨_, rfl⟩
          have hav : v5.toInt = (a : Int) := by omega
          have hab : a ≤ m := by omega
          obtain ⟨wj, hwj⟩ : ∃ x : Nat → va_E, x = wk := ⟨_, rfl⟩
          have hWj : qW D τ A s Hk locsk ad N wj := by rw [hwj]; exact hWk
          have hfj : (∀ q, q ≠ 474 → wj q = w q) := by rw [hwj]; exact hfk
          have hT : ∃ T, q_I τ wj 474 1600 T ∧ zmx m Wt T k a 0 := ⟨T, by rw [hwj]; exact hT1, by rw [ha0]; exact zmx_0 hT2⟩
          clear ha0 hv5 hwj mo9
          generalize Hk = Hj at hWj ⊢
          generalize locsk = locsj at hWj ⊢
          obtain ⟨f1, hf1⟩ : ∃ f1 : Nat, m + 1 ≤ a + f1 := ⟨m + 1, by omega⟩
          induction f1 generalizing a v5 ls6 wj Hj locsj with
          | zero => exact absurd hf1 (by omega)
          | succ f1 iha =>
            clear hT2
            clear hT1
            obtain ⟨T, hT1, hT2⟩ := hT
            have mo9 := (hfj 469 (by omega)).trans mo
            refine lv_iload_n F.1 F.2.1 d_Mo_measure_94 rfl (lv_at hl6 0 rfl) ?_
            refine lv_aload_n F.1 F.2.1 d_Mo_measure_95 rfl (lv_at hl6 2 rfl) ?_
            refine gf_Mo_7 F hWj (by omega) mo9 d_Mo_measure_96 ?_
            refine q_icmp_ge (tgt := 192) F d_Mo_measure_99 (by decide) (fun c99 => ?_) (fun c99 => ?_)
            · refine q_iinc (lv' := fun v7 => [(1, .int v7), (2, .int v5), (0, .ref (ad 469))]) F d_Mo_measure_192 hl6 (k := 1) rfl (by decide) (by omega) (by decide) (fun _ => rfl) (fun v7 lsv7 hv7 hlv7 => ?_)
              clear hl6
              refine lv_goto (tgt := 84) F.1 F.2.1 d_Mo_measure_195 (by decide) ?_
              exact ihk (k := k + 1) (v3 := v7) (ls4 := lsv7) (wk := wj) (Hk := Hj) (locsk := locsj) (hkv := by omega) (hkb := by omega) (hWk := hWj) (hfk := hfj) (hT := ⟨T, hT1, zmx_e hT2 (by omega)⟩) (hf9 := by omega) (hl4 := (lv_sub hlv7 [0, 2] rfl))
            · refine q_iconst F d_Mo_measure_102 (by decide) (fun v8 hv8 => ?_)
              refine lv_istore_n (lv' := [(3, .int v8), (2, .int v5), (1, .int v3), (0, .ref (ad 469))]) F.1 F.2.1 d_Mo_measure_103 rfl hl6 (by decide) rfl (fun ls9 hl9 => ?_)
              clear hl6
              obtain ⟨b, hb0⟩ : ∃ b : Nat, b = 0 := ⟨_, rfl⟩
              have hbv : v8.toInt = (b : Int) := by omega
              have hbb : b ≤ m := by omega
              obtain ⟨wo, hwo⟩ : ∃ x : Nat → va_E, x = wj := ⟨_, rfl⟩
              have hWo : qW D τ A s Hj locsj ad N wo := by rw [hwo]; exact hWj
              have hfo : (∀ q, q ≠ 474 → wo q = w q) := by rw [hwo]; exact hfj
              have hT : ∃ T, q_I τ wo 474 1600 T ∧ zmx m Wt T k a b := ⟨T, by rw [hwo]; exact hT1, by rw [hb0]; exact hT2⟩
              clear hb0 hv8 hwo mo9
              generalize Hj = Ho at hWo ⊢
              generalize locsj = locso at hWo ⊢
              obtain ⟨f2, hf2⟩ : ∃ f2 : Nat, m + 1 ≤ b + f2 := ⟨m + 1, by omega⟩
              induction f2 generalizing b v8 ls9 wo Ho locso with
              | zero => exact absurd hf2 (by omega)
              | succ f2 ihb =>
                clear hT2
                clear hT1
                obtain ⟨T, hT1, hT2⟩ := hT
                have mo9 := (hfo 469 (by omega)).trans mo
                refine lv_iload_n F.1 F.2.1 d_Mo_measure_104 rfl (lv_at hl9 0 rfl) ?_
                refine lv_aload_n F.1 F.2.1 d_Mo_measure_105 rfl (lv_at hl9 3 rfl) ?_
                refine gf_Mo_7 F hWo (by omega) mo9 d_Mo_measure_106 ?_
                refine q_icmp_ge (tgt := 186) F d_Mo_measure_109 (by decide) (fun c109 => ?_) (fun c109 => ?_)
                · refine q_iinc (lv' := fun v10 => [(2, .int v10), (3, .int v8), (1, .int v3), (0, .ref (ad 469))]) F d_Mo_measure_186 hl9 (k := 1) rfl (by decide) (by omega) (by decide) (fun _ => rfl) (fun v10 lsv10 hv10 hlv10 => ?_)
                  clear hl9
                  refine lv_goto (tgt := 94) F.1 F.2.1 d_Mo_measure_189 (by decide) ?_
                  exact iha (a := a + 1) (v5 := v10) (ls6 := lsv10) (wj := wo) (Hj := Ho) (locsj := locso) (hav := by omega) (hab := by omega) (hWj := hWo) (hfj := hfo) (hT := ⟨T, hT1, zmx_r hT2 (by omega)⟩) (hf1 := by omega) (hl6 := (lv_sub hlv10 [0, 2, 3] rfl))
                · have e1 := zmx_col hg hT2 (show k < m by omega) (show a < m by omega)
                  have e2 := zmx_row hg hT2 (show k < m by omega) (show b < m by omega)
                  have e3 := (hT2 a b (by omega) (by omega)).2 (by omega)
                  have b1 := zw_bd hg k (by omega) a k (by omega) (by omega)
                  have b2 := zw_bd hg k (by omega) k b (by omega) (by omega)
                  have b3 := zw_bd hg k (by omega) a b (by omega) (by omega)
                  have hs := zw_s Wt k a b
                  refine lv_aload_n F.1 F.2.1 d_Mo_measure_112 rfl (lv_at hl9 3 rfl) ?_
                  refine gf_Mo_26 F hWo (by omega) mo9 d_Mo_measure_113 ?_
                  refine q_bipush F d_Mo_measure_116 (by decide) (fun v11 hv11 => ?_)
                  refine lv_iload_n F.1 F.2.1 d_Mo_measure_118 rfl (lv_at hl9 1 rfl) ?_
                  refine q_imul F d_Mo_measure_119 (by rw [hv11]; omega) (fun v12 hv12 => ?_)
                  rw [hv11] at hv12
                  refine lv_iload_n F.1 F.2.1 d_Mo_measure_120 rfl (lv_at hl9 2 rfl) ?_
                  refine q_iadd F d_Mo_measure_121 (by omega) (fun v13 hv13 => ?_)
                  refine q_iald F hWo hT1 (by omega) ((40 * a) + k) (by omega) (by omega) d_Mo_measure_122 (fun v14 hv14 => ?_)
                  refine lv_aload_n F.1 F.2.1 d_Mo_measure_123 rfl (lv_at hl9 3 rfl) ?_
                  refine gf_Mo_26 F hWo (by omega) mo9 d_Mo_measure_124 ?_
                  refine q_bipush F d_Mo_measure_127 (by decide) (fun v15 hv15 => ?_)
                  refine lv_iload_n F.1 F.2.1 d_Mo_measure_129 rfl (lv_at hl9 2 rfl) ?_
                  refine q_imul F d_Mo_measure_130 (by rw [hv15]; omega) (fun v16 hv16 => ?_)
                  rw [hv15] at hv16
                  refine lv_iload_n F.1 F.2.1 d_Mo_measure_131 rfl (lv_at hl9 0 rfl) ?_
                  refine q_iadd F d_Mo_measure_132 (by omega) (fun v17 hv17 => ?_)
                  refine q_iald F hWo hT1 (by omega) ((40 * k) + b) (by omega) (by omega) d_Mo_measure_133 (fun v18 hv18 => ?_)
                  refine q_iadd F d_Mo_measure_134 (by omega) (fun v19 hv19 => ?_)
                  refine lv_istore (lv' := [(4, .int v19), (3, .int v8), (2, .int v5), (1, .int v3), (0, .ref (ad 469))]) F.1 F.2.1 d_Mo_measure_135 hl9 (by decide) rfl (fun ls20 hl20 => ?_)
                  clear hl9
                  refine lv_aload_n F.1 F.2.1 d_Mo_measure_137 rfl (lv_at hl20 4 rfl) ?_
                  refine gf_Mo_26 F hWo (by omega) mo9 d_Mo_measure_138 ?_
                  refine q_bipush F d_Mo_measure_141 (by decide) (fun v21 hv21 => ?_)
                  refine lv_iload_n F.1 F.2.1 d_Mo_measure_143 rfl (lv_at hl20 2 rfl) ?_
                  refine q_imul F d_Mo_measure_144 (by rw [hv21]; omega) (fun v22 hv22 => ?_)
                  rw [hv21] at hv22
                  refine lv_iload_n F.1 F.2.1 d_Mo_measure_145 rfl (lv_at hl20 1 rfl) ?_
                  refine q_iadd F d_Mo_measure_146 (by omega) (fun v23 hv23 => ?_)
                  refine lv_iload F.1 F.2.1 d_Mo_measure_147 (lv_at hl20 0 rfl) ?_
                  refine lv_aload_n F.1 F.2.1 d_Mo_measure_149 rfl (lv_at hl20 4 rfl) ?_
                  refine gf_Mo_26 F hWo (by omega) mo9 d_Mo_measure_150 ?_
                  refine q_bipush F d_Mo_measure_153 (by decide) (fun v24 hv24 => ?_)
                  refine lv_iload_n F.1 F.2.1 d_Mo_measure_155 rfl (lv_at hl20 2 rfl) ?_
                  refine q_imul F d_Mo_measure_156 (by rw [hv24]; omega) (fun v25 hv25 => ?_)
                  rw [hv24] at hv25
                  refine lv_iload_n F.1 F.2.1 d_Mo_measure_157 rfl (lv_at hl20 1 rfl) ?_
                  refine q_iadd F d_Mo_measure_158 (by omega) (fun v26 hv26 => ?_)
                  refine q_iald F hWo hT1 (by omega) ((40 * a) + b) (by omega) (by omega) d_Mo_measure_159 (fun v27 hv27 => ?_)
                  refine q_icmp_ge (tgt := 168) F d_Mo_measure_160 (by decide) (fun c160 => ?_) (fun c160 => ?_)
                  · refine lv_aload_n F.1 F.2.1 d_Mo_measure_168 rfl (lv_at hl20 4 rfl) ?_
                    refine gf_Mo_26 F hWo (by omega) mo9 d_Mo_measure_169 ?_
                    refine q_bipush F d_Mo_measure_172 (by decide) (fun v28 hv28 => ?_)
                    refine lv_iload_n F.1 F.2.1 d_Mo_measure_174 rfl (lv_at hl20 2 rfl) ?_
                    refine q_imul F d_Mo_measure_175 (by rw [hv28]; omega) (fun v29 hv29 => ?_)
                    rw [hv28] at hv29
                    refine lv_iload_n F.1 F.2.1 d_Mo_measure_176 rfl (lv_at hl20 1 rfl) ?_
                    refine q_iadd F d_Mo_measure_177 (by omega) (fun v30 hv30 => ?_)
                    refine q_iald F hWo hT1 (by omega) ((40 * a) + b) (by omega) (by omega) d_Mo_measure_178 (fun v31 hv31 => ?_)
                    refine q_iast F hWo hT1 (by omega) (40 * a + b) (by omega) (by omega) d_Mo_measure_179 (fun H32 locs32 w32 hW32 hI32 hfr32 => ?_)
                    have hnew : v31.toInt = zw Wt (k + 1) a b := by rw [hs]; unfold zm; split <;> omega
                    refine q_iinc (lv' := fun v33 => [(3, .int v33), (4, .int v19), (2, .int v5), (1, .int v3), (0, .ref (ad 469))]) F d_Mo_measure_180 hl20 (k := 1) rfl (by decide) (by omega) (by decide) (fun _ => rfl) (fun v33 lsv33 hv33 hlv33 => ?_)
                    clear hl20
                    refine lv_goto (tgt := 104) F.1 F.2.1 d_Mo_measure_183 (by decide) ?_
                    exact ihb (b := b + 1) (v8 := v33) (ls9 := lsv33) (wo := w32) (Ho := H32) (locso := locs32) (hbv := by omega) (hbb := by omega) (hWo := hW32) (hfo := fun q hq => (hfr32 q hq).trans (hfo q hq)) (hT := ⟨_, hI32, zmx_s hm40 (by omega) hT2 hnew⟩) (hf2 := by omega) (hl9 := (lv_sub hlv33 [0, 2, 3, 4] rfl))
                  · refine lv_iload F.1 F.2.1 d_Mo_measure_163 (lv_at hl20 0 rfl) ?_
                    refine lv_goto (tgt := 179) F.1 F.2.1 d_Mo_measure_165 (by decide) ?_
                    refine q_iast F hWo hT1 (by omega) (40 * a + b) (by omega) (by omega) d_Mo_measure_179 (fun H34 locs34 w34 hW34 hI34 hfr34 => ?_)
                    have hnew : v19.toInt = zw Wt (k + 1) a b := by rw [hs]; unfold zm; split <;> omega
                    refine q_iinc (lv' := fun v35 => [(3, .int v35), (4, .int v19), (2, .int v5), (1, .int v3), (0, .ref (ad 469))]) F d_Mo_measure_180 hl20 (k := 1) rfl (by decide) (by omega) (by decide) (fun _ => rfl) (fun v35 lsv35 hv35 hlv35 => ?_)
                    clear hl20
                    refine lv_goto (tgt := 104) F.1 F.2.1 d_Mo_measure_183 (by decide) ?_
                    exact ihb (b := b + 1) (v8 := v35) (ls9 := lsv35) (wo := w34) (Ho := H34) (locso := locs34) (hbv := by omega) (hbb := by omega) (hWo := hW34) (hfo := fun q hq => (hfr34 q hq).trans (hfo q hq)) (hT := ⟨_, hI34, zmx_s hm40 (by omega) hT2 hnew⟩) (hf2 := by omega) (hl9 := (lv_sub hlv35 [0, 2, 3, 4] rfl))
    · refine q_iconst F d_Mo_measure_10 (by decide) (fun v36 hv36 => ?_)
      refine lv_istore_n (lv' := [(2, .int v36), (1, .int v1), (0, .ref (ad 469))]) F.1 F.2.1 d_Mo_measure_11 rfl hl2 (by decide) rfl (fun ls37 hl37 => ?_)
      clear hl2
      obtain ⟨j, hj0⟩ : ∃ j : Nat, j = 0 := ⟨_, rfl⟩
      have hjv : v36.toInt = (j : Int) := by omega
      have hjb : j ≤ m := by omega
      obtain ⟨wj, hwj⟩ : ∃ x : Nat → va_E, x = wl := ⟨_, rfl⟩
      have hWj : qW D τ A s Hl locsl ad N wj := by rw [hwj]; exact hWl
      have hfj : (∀ q, q ≠ 474 → wj q = w q) := by rw [hwj]; exact hfl
      have hT : ∃ T, q_I τ wj 474 1600 T ∧ zdn m T (zw0 Wt) i j := ⟨T, by rw [hwj]; exact hT1, by rw [hj0]; exact hT2⟩
      clear hj0 hv36 hwj mo9
      generalize Hl = Hj at hWj ⊢
      generalize locsl = locsj at hWj ⊢
      obtain ⟨f9, hf9⟩ : ∃ f9 : Nat, m + 1 ≤ j + f9 := ⟨m + 1, by omega⟩
      induction f9 generalizing j v36 ls37 wj Hj locsj with
      | zero => exact absurd hf9 (by omega)
      | succ f9 ihj =>
        clear hT2
        clear hT1
        obtain ⟨T, hT1, hT2⟩ := hT
        have mo9 := (hfj 469 (by omega)).trans mo
        have hW8 := hW9.keep (hfj 470 (by omega))
        refine lv_iload_n F.1 F.2.1 d_Mo_measure_12 rfl (lv_at hl37 0 rfl) ?_
        refine lv_aload_n F.1 F.2.1 d_Mo_measure_13 rfl (lv_at hl37 2 rfl) ?_
        refine gf_Mo_7 F hWj (by omega) mo9 d_Mo_measure_14 ?_
        refine q_icmp_ge (tgt := 76) F d_Mo_measure_17 (by decide) (fun c17 => ?_) (fun c17 => ?_)
        · refine q_iinc (lv' := fun v38 => [(1, .int v38), (2, .int v36), (0, .ref (ad 469))]) F d_Mo_measure_76 hl37 (k := 1) rfl (by decide) (by omega) (by decide) (fun _ => rfl) (fun v38 lsv38 hv38 hlv38 => ?_)
          clear hl37
          refine lv_goto (tgt := 2) F.1 F.2.1 d_Mo_measure_79 (by decide) ?_
          exact ihi (i := i + 1) (v1 := v38) (ls2 := lsv38) (wl := wj) (Hl := Hj) (locsl := locsj) (hiv := by omega) (hib := by omega) (hWl := hWj) (hfl := hfj) (hT := ⟨T, hT1, zdn_r hT2 (by omega)⟩) (hf := by omega) (hl2 := (lv_sub hlv38 [0, 2] rfl))
        · have hwb := hg.1 i j (by omega) (by omega)
          refine lv_aload_n F.1 F.2.1 d_Mo_measure_20 rfl (lv_at hl37 2 rfl) ?_
          refine gf_Mo_26 F hWj (by omega) mo9 d_Mo_measure_21 ?_
          refine q_bipush F d_Mo_measure_24 (by decide) (fun v39 hv39 => ?_)
          refine lv_iload_n F.1 F.2.1 d_Mo_measure_26 rfl (lv_at hl37 1 rfl) ?_
          refine q_imul F d_Mo_measure_27 (by rw [hv39]; omega) (fun v40 hv40 => ?_)
          rw [hv39] at hv40
          refine lv_iload_n F.1 F.2.1 d_Mo_measure_28 rfl (lv_at hl37 0 rfl) ?_
          refine q_iadd F d_Mo_measure_29 (by omega) (fun v41 hv41 => ?_)
          refine lv_iload_n F.1 F.2.1 d_Mo_measure_30 rfl (lv_at hl37 1 rfl) ?_
          refine lv_iload_n F.1 F.2.1 d_Mo_measure_31 rfl (lv_at hl37 0 rfl) ?_
          refine q_icmp_ne (tgt := 39) F d_Mo_measure_32 (by decide) (fun c32 => ?_) (fun c32 => ?_)
          · refine lv_aload_n F.1 F.2.1 d_Mo_measure_39 rfl (lv_at hl37 2 rfl) ?_
            refine gf_Mo_13 F hWj (by omega) mo9 d_Mo_measure_40 ?_
            refine q_bipush F d_Mo_measure_43 (by decide) (fun v42 hv42 => ?_)
            refine lv_iload_n F.1 F.2.1 d_Mo_measure_45 rfl (lv_at hl37 1 rfl) ?_
            refine q_imul F d_Mo_measure_46 (by rw [hv42]; omega) (fun v43 hv43 => ?_)
            rw [hv42] at hv43
            refine lv_iload_n F.1 F.2.1 d_Mo_measure_47 rfl (lv_at hl37 0 rfl) ?_
            refine q_iadd F d_Mo_measure_48 (by omega) (fun v44 hv44 => ?_)
            refine q_iald F hWj hW8 (by omega) ((40 * i) + j) (by omega) (by omega) d_Mo_measure_49 (fun v45 hv45 => ?_)
            rw [hW9f i j (by omega) (by omega)] at hv45
            refine q_if_le (tgt := 67) F d_Mo_measure_50 (by decide) (fun c50 => ?_) (fun c50 => ?_)
            · refine q_far F d_Mo_measure_67 (fun v46 hv46 => ?_)
              refine q_iast F hWj hT1 (by omega) (40 * i + j) (by omega) (by omega) d_Mo_measure_69 (fun H47 locs47 w47 hW47 hI47 hfr47 => ?_)
              have hnew : v46.toInt = zw0 Wt i j := by unfold zw0; split; omega; split <;> omega
              refine q_iinc (lv' := fun v48 => [(2, .int v48), (1, .int v1), (0, .ref (ad 469))]) F d_Mo_measure_70 hl37 (k := 0) rfl (by decide) (by omega) (by decide) (fun _ => rfl) (fun v48 lsv48 hv48 hlv48 => ?_)
              clear hl37
              refine lv_goto (tgt := 12) F.1 F.2.1 d_Mo_measure_73 (by decide) ?_
              exact ihj (j := j + 1) (v36 := v48) (ls37 := lsv48) (wj := w47) (Hj := H47) (locsj := locs47) (hjv := by omega) (hjb := by omega) (hWj := hW47) (hfj := fun q hq => (hfr47 q hq).trans (hfj q hq)) (hT := ⟨_, hI47, zdn_s hm40 (by omega) hT2 hnew⟩) (hf9 := by omega) (hl37 := (lv_sub hlv48 [0, 1, 2] rfl))
            · refine lv_aload_n F.1 F.2.1 d_Mo_measure_53 rfl (lv_at hl37 2 rfl) ?_
              refine gf_Mo_13 F hWj (by omega) mo9 d_Mo_measure_54 ?_
              refine q_bipush F d_Mo_measure_57 (by decide) (fun v49 hv49 => ?_)
              refine lv_iload_n F.1 F.2.1 d_Mo_measure_59 rfl (lv_at hl37 1 rfl) ?_
              refine q_imul F d_Mo_measure_60 (by rw [hv49]; omega) (fun v50 hv50 => ?_)
              rw [hv49] at hv50
              refine lv_iload_n F.1 F.2.1 d_Mo_measure_61 rfl (lv_at hl37 0 rfl) ?_
              refine q_iadd F d_Mo_measure_62 (by omega) (fun v51 hv51 => ?_)
              refine q_iald F hWj hW8 (by omega) ((40 * i) + j) (by omega) (by omega) d_Mo_measure_63 (fun v52 hv52 => ?_)
              rw [hW9f i j (by omega) (by omega)] at hv52
              refine lv_goto (tgt := 69) F.1 F.2.1 d_Mo_measure_64 (by decide) ?_
              refine q_iast F hWj hT1 (by omega) (40 * i + j) (by omega) (by omega) d_Mo_measure_69 (fun H53 locs53 w53 hW53 hI53 hfr53 => ?_)
              have hnew : v52.toInt = zw0 Wt i j := by unfold zw0; split; omega; split <;> omega
              refine q_iinc (lv' := fun v54 => [(2, .int v54), (1, .int v1), (0, .ref (ad 469))]) F d_Mo_measure_70 hl37 (k := 0) rfl (by decide) (by omega) (by decide) (fun _ => rfl) (fun v54 lsv54 hv54 hlv54 => ?_)
              clear hl37
              refine lv_goto (tgt := 12) F.1 F.2.1 d_Mo_measure_73 (by decide) ?_
              exact ihj (j := j + 1) (v36 := v54) (ls37 := lsv54) (wj := w53) (Hj := H53) (locsj := locs53) (hjv := by omega) (hjb := by omega) (hWj := hW53) (hfj := fun q hq => (hfr53 q hq).trans (hfj q hq)) (hT := ⟨_, hI53, zdn_s hm40 (by omega) hT2 hnew⟩) (hf9 := by omega) (hl37 := (lv_sub hlv54 [0, 1, 2] rfl))
          · refine q_iconst F d_Mo_measure_35 (by decide) (fun v55 hv55 => ?_)
            refine lv_goto (tgt := 69) F.1 F.2.1 d_Mo_measure_36 (by decide) ?_
            refine q_iast F hWj hT1 (by omega) (40 * i + j) (by omega) (by omega) d_Mo_measure_69 (fun H56 locs56 w56 hW56 hI56 hfr56 => ?_)
            have hnew : v55.toInt = zw0 Wt i j := by unfold zw0; split; omega; split <;> omega
            refine q_iinc (lv' := fun v57 => [(2, .int v57), (1, .int v1), (0, .ref (ad 469))]) F d_Mo_measure_70 hl37 (k := 0) rfl (by decide) (by omega) (by decide) (fun _ => rfl) (fun v57 lsv57 hv57 hlv57 => ?_)
            clear hl37
            refine lv_goto (tgt := 12) F.1 F.2.1 d_Mo_measure_73 (by decide) ?_
            exact ihj (j := j + 1) (v36 := v57) (ls37 := lsv57) (wj := w56) (Hj := H56) (locsj := locs56) (hjv := by omega) (hjb := by omega) (hWj := hW56) (hfj := fun q hq => (hfr56 q hq).trans (hfj q hq)) (hT := ⟨_, hI56, zdn_s hm40 (by omega) hT2 hnew⟩) (hf9 := by omega) (hl37 := (lv_sub hlv57 [0, 1, 2] rfl))
