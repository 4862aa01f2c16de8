/-- the landmarks: the set S of the chosen, balls, clusters, own ones, counts -/
def qLan (τ : Nat → ClassId) (ad : Nat → Nat) (w : Nat → va_E) (S : Nat) (Bl Cl : Nat → Nat) (Ow IB : Nat → Int) : Prop := w 251 = .inr (1, [.ref (ad 85), .ref (ad 168), .ref (ad 252), .ref (ad 253), .ref (ad 254), .ref (ad 255), .long (lN S)]) ∧ q_J τ w 252 40 Bl ∧ q_J τ w 253 40 Cl ∧ q_I τ w 254 40 Ow ∧ q_I τ w 255 40 IB
theorem qLan.keep {τ : Nat → ClassId} {ad : Nat → Nat} {w w' : Nat → va_E} {S : Nat} {Bl Cl : Nat → Nat} {Ow IB : Nat → Int} (h : qLan τ ad w S Bl Cl Ow IB) (e : ∀ q, 251 ≤ q → q < 256 → w' q = w q) : qLan τ ad w' S Bl Cl Ow IB := by
  obtain ⟨h1, h2, h3, h4, h5⟩ := h
  exact ⟨by rw [e 251 (by omega) (by omega)]; exact h1, h2.keep (e _ (by omega) (by omega)), h3.keep (e _ (by omega) (by omega)), h4.keep (e _ (by omega) (by omega)), h5.keep (e _ (by omega) (by omega))⟩
/-- a boolean's int -/
def qb (P : Prop) (r : Int32) : Prop := (P ∧ r = 1) ∨ (¬ P ∧ r = 0)
theorem qb_01 {P : Prop} {r : Int32} (h : qb P r) : r = 0 ∨ r = 1 := h.elim (fun z => Or.inr z.2) (fun z => Or.inl z.2)
theorem qb_t {P : Prop} {r : Int32} (h : qb P r) (hr : r.toInt ≠ 0) : P := by
  rcases h with ⟨z, -⟩ | ⟨-, z⟩
  · exact z
  · subst z; exact absurd rfl hr
theorem qb_f {P : Prop} {r : Int32} (h : qb P r) (hr : r.toInt = 0) : ¬ P := by
  rcases h with ⟨-, z⟩ | ⟨z, -⟩
  · subst z; exact absurd hr (by decide)
  · exact z
theorem qb_1 {P : Prop} {r : Int32} (hr : r.toInt = 1) (h : P) : qb P r := Or.inl ⟨h, q_eqI.mpr hr⟩
theorem qb_0 {P : Prop} {r : Int32} (hr : r.toInt = 0) (h : ¬ P) : qb P r := Or.inr ⟨h, q_eqI.mpr hr⟩
set_option maxHeartbeats 4000000 in
set_option maxRecDepth 100000 in
/-- is a node in a set -/
theorem k_La_has (l : Launch) (D : va_G) (τ : Nat → ClassId) (A : Nat → Prop) (ad : Nat → Nat) (N : Nat) (w : Nat → va_E) (S : Nat) (hS : S < 2 ^ 40) (x : Int32) (a : Nat) (hx : x.toInt = a) (ha : a < 40) : Met l y_La_has (qws y_La_has c_La_has 3 (some .boolean)) ({ frames := 0, cells := 0, slots := 0, locals := 0 }) (qPc D τ A ad N w [.long (lN S), .int x]) (va_Qi (fun r w1 => w1 = w ∧ qb (S.testBit a = true) r) (qB D τ A ad N) A) 0 0 A := by
  refine q_of (by decide) (Nat.le_of_ble_eq_true rfl) rfl ?_
  intro PP EE s MM below meth CC ls F hr hlk hnm hex hl hW
  have hl : lv_has ls 3 [(0, .long (lN S)), (2, .int x)] := hl
  refine lv_lload_n F.1 F.2.1 d_La_has_0 rfl (lv_at hl 0 rfl) ?_
  refine lv_iload_n F.1 F.2.1 d_La_has_1 rfl (lv_at hl 1 rfl) ?_
  refine q_lshr F a (by omega) (by omega) (by omega) d_La_has_2 ?_
  refine lv_lconst (v := lN 1) F.1 F.2.1 d_La_has_3 rfl ?_
  refine q_land1 F (Nat.lt_of_le_of_lt (Nat.div_le_self _ _) (by omega)) d_La_has_4 ?_
  refine lv_lconst (v := lN 0) F.1 F.2.1 d_La_has_5 rfl ?_
  refine q_lcmp0 F (by omega) d_La_has_6 (fun v1 hv1 => ?_)
  refine q_if_eq (tgt := 14) F d_La_has_7 (by decide) (fun c7 => ?_) (fun c7 => ?_)
  · refine q_iconst F d_La_has_14 (by decide) (fun v2 hv2 => ?_)
    have hb := qb_0 hv2 (q_tbf (show S / 2 ^ a % 2 = 0 by omega))
    exact q_zret F hr hlk hW (qb_01 hb) ⟨rfl, hb⟩ d_La_has_15
  · refine q_iconst F d_La_has_10 (by decide) (fun v3 hv3 => ?_)
    refine lv_goto (tgt := 15) F.1 F.2.1 d_La_has_11 (by decide) ?_
    have hb := qb_1 hv3 (q_tbt (show ¬ S / 2 ^ a % 2 = 0 by omega))
    exact q_zret F hr hlk hW (qb_01 hb) ⟨rfl, hb⟩ d_La_has_15
set_option maxHeartbeats 4000000 in
set_option maxRecDepth 100000 in
/-- how many landmarks -/
theorem k_La_howMany (l : Launch) (D : va_G) (τ : Nat → ClassId) (A : Nat → Prop) (ad : Nat → Nat) (N : Nat) (w : Nat → va_E) (hb : 469 ≤ N) (S : Nat) (Bl Cl : Nat → Nat) (Ow IB : Nat → Int) (hL : qLan τ ad w S Bl Cl Ow IB) (hS : S < 2 ^ 40) : Met l y_La_howMany (qws y_La_howMany c_La_howMany 1 (some .int)) ({ frames := 1, cells := 0, slots := 0, locals := 21 }) (qPc D τ A ad N w [.ref (ad 251)]) (va_Qi (fun r w1 => w1 = w ∧ r.toInt = (zc (fun i => S.testBit i = true) 40 : Int)) (qB D τ A ad N) A) 0 0 A := by
  refine q_of (by decide) (Nat.le_of_ble_eq_true rfl) rfl ?_
  intro PP EE s MM below meth CC ls F hr hlk hnm hex hl hW
  have hl : lv_has ls 1 [(0, .ref (ad 251))] := hl
  obtain ⟨lo, lB, lC, lO, lI⟩ := id hL
  refine lv_aload_n F.1 F.2.1 d_La_howMany_0 rfl (lv_at hl 0 rfl) ?_
  refine gf_La_33 F hW (by omega) lo d_La_howMany_1 ?_
  refine q_calli hW (q_cS (As := [.long (lN S)]) (rest := []) F hW cs_La_47 hs_Lo_bitCount (k_Lo_bitCount l D τ A ad N w S hS) rfl rfl ⟨by decide, by decide⟩ rfl hl.1 rfl (Nat.le_of_ble_eq_true rfl) d_La_howMany_4 ⟨Nat.le_refl _, Nat.le_refl _⟩) (fun v1 w1 H1 locs1 hp1 hW1 => ?_)
  obtain ⟨hq1, hp1⟩ := hp1
  replace hq1 := hq1.symm
  subst hq1
  exact q_iret F hr hlk hW1 ⟨rfl, hp1⟩ d_La_howMany_7
set_option maxHeartbeats 4000000 in
set_option maxRecDepth 100000 in
/-- is it a landmark -/
theorem k_La_isLandmark (l : Launch) (D : va_G) (τ : Nat → ClassId) (A : Nat → Prop) (ad : Nat → Nat) (N : Nat) (w : Nat → va_E) (hb : 469 ≤ N) (S : Nat) (Bl Cl : Nat → Nat) (Ow IB : Nat → Int) (hL : qLan τ ad w S Bl Cl Ow IB) (hS : S < 2 ^ 40) (x : Int32) (a : Nat) (hx : x.toInt = a) (ha : a < 40) : Met l y_La_isLandmark (qws y_La_isLandmark c_La_isLandmark 2 (some .boolean)) ({ frames := 1, cells := 0, slots := 0, locals := 22 }) (qPc D τ A ad N w [.ref (ad 251), .int x]) (va_Qi (fun r w1 => w1 = w ∧ qb (S.testBit a = true) r) (qB D τ A ad N) A) 0 0 A := by
  refine q_of (by decide) (Nat.le_of_ble_eq_true rfl) rfl ?_
  intro PP EE s MM below meth CC ls F hr hlk hnm hex hl hW
  have hl : lv_has ls 2 [(0, .ref (ad 251)), (1, .int x)] := hl
  obtain ⟨lo, lB, lC, lO, lI⟩ := id hL
  refine lv_aload_n F.1 F.2.1 d_La_isLandmark_0 rfl (lv_at hl 0 rfl) ?_
  refine gf_La_33 F hW (by omega) lo d_La_isLandmark_1 ?_
  refine lv_iload_n F.1 F.2.1 d_La_isLandmark_4 rfl (lv_at hl 1 rfl) ?_
  refine q_calli hW (q_cS (As := [.long (lN S), .int x]) (rest := []) F hW cs_La_63 hs_La_has (k_La_has l D τ A ad N w S hS x a hx ha) rfl rfl ⟨by decide, by decide⟩ rfl hl.1 rfl (Nat.le_of_ble_eq_true rfl) d_La_isLandmark_5 ⟨Nat.le_refl _, Nat.le_refl _⟩) (fun v1 w1 H1 locs1 hp1 hW1 => ?_)
  obtain ⟨hq1, hp1⟩ := hp1
  replace hq1 := hq1.symm
  subst hq1
  exact q_zret F hr hlk hW1 (qb_01 hp1) ⟨rfl, hp1⟩ d_La_isLandmark_8
set_option maxHeartbeats 4000000 in
set_option maxRecDepth 100000 in
/-- its own landmark -/
theorem k_La_ownOf (l : Launch) (D : va_G) (τ : Nat → ClassId) (A : Nat → Prop) (ad : Nat → Nat) (N : Nat) (w : Nat → va_E) (hb : 469 ≤ N) (S : Nat) (Bl Cl : Nat → Nat) (Ow IB : Nat → Int) (hL : qLan τ ad w S Bl Cl Ow IB) (x : Int32) (a : Nat) (hx : x.toInt = a) (ha : a < 40) : Met l y_La_ownOf (qws y_La_ownOf c_La_ownOf 2 (some .int)) ({ frames := 0, cells := 0, slots := 0, locals := 0 }) (qPc D τ A ad N w [.ref (ad 251), .int x]) (va_Qi (fun r w1 => w1 = w ∧ r.toInt = Ow a) (qB D τ A ad N) A) 0 0 A := by
  refine q_of (by decide) (Nat.le_of_ble_eq_true rfl) rfl ?_
  intro PP EE s MM below meth CC ls F hr hlk hnm hex hl hW
  have hl : lv_has ls 2 [(0, .ref (ad 251)), (1, .int x)] := hl
  obtain ⟨lo, lB, lC, lO, lI⟩ := id hL
  refine lv_aload_n F.1 F.2.1 d_La_ownOf_0 rfl (lv_at hl 0 rfl) ?_
  refine gf_La_18 F hW (by omega) lo d_La_ownOf_1 ?_
  refine lv_iload_n F.1 F.2.1 d_La_ownOf_4 rfl (lv_at hl 1 rfl) ?_
  refine q_iald F hW lO (by omega) a (by omega) (by omega) d_La_ownOf_5 (fun v1 hv1 => ?_)
  exact q_iret F hr hlk hW ⟨rfl, hv1⟩ d_La_ownOf_6
set_option maxHeartbeats 4000000 in
set_option maxRecDepth 100000 in
/-- how large its cluster is -/
theorem k_La_clusterSize (l : Launch) (D : va_G) (τ : Nat → ClassId) (A : Nat → Prop) (ad : Nat → Nat) (N : Nat) (w : Nat → va_E) (hb : 469 ≤ N) (S : Nat) (Bl Cl : Nat → Nat) (Ow IB : Nat → Int) (hL : qLan τ ad w S Bl Cl Ow IB) (x : Int32) (a : Nat) (hx : x.toInt = a) (ha : a < 40) (hC : Cl a < 2 ^ 40) : Met l y_La_clusterSize (qws y_La_clusterSize c_La_clusterSize 2 (some .int)) ({ frames := 1, cells := 0, slots := 0, locals := 21 }) (qPc D τ A ad N w [.ref (ad 251), .int x]) (va_Qi (fun r w1 => w1 = w ∧ r.toInt = (zc (fun i => (Cl a).testBit i = true) 40 : Int)) (qB D τ A ad N) A) 0 0 A := by
  refine q_of (by decide) (Nat.le_of_ble_eq_true rfl) rfl ?_
  intro PP EE s MM below meth CC ls F hr hlk hnm hex hl hW
  have hl : lv_has ls 2 [(0, .ref (ad 251)), (1, .int x)] := hl
  obtain ⟨lo, lB, lC, lO, lI⟩ := id hL
  refine lv_aload_n F.1 F.2.1 d_La_clusterSize_0 rfl (lv_at hl 0 rfl) ?_
  refine gf_La_15 F hW (by omega) lo d_La_clusterSize_1 ?_
  refine lv_iload_n F.1 F.2.1 d_La_clusterSize_4 rfl (lv_at hl 1 rfl) ?_
  refine q_lald F hW lC (by omega) a (by omega) (by omega) d_La_clusterSize_5 ?_
  refine q_calli hW (q_cS (As := [.long (lN (Cl a))]) (rest := []) F hW cs_La_47 hs_Lo_bitCount (k_Lo_bitCount l D τ A ad N w (Cl a) hC) rfl rfl ⟨by decide, by decide⟩ rfl hl.1 rfl (Nat.le_of_ble_eq_true rfl) d_La_clusterSize_6 ⟨Nat.le_refl _, Nat.le_refl _⟩) (fun v1 w1 H1 locs1 hp1 hW1 => ?_)
  obtain ⟨hq1, hp1⟩ := hp1
  replace hq1 := hq1.symm
  subst hq1
  exact q_iret F hr hlk hW1 ⟨rfl, hp1⟩ d_La_clusterSize_9
set_option maxHeartbeats 4000000 in
set_option maxRecDepth 100000 in
/-- has it a row -/
theorem k_La_hasRow (l : Launch) (D : va_G) (τ : Nat → ClassId) (A : Nat → Prop) (ad : Nat → Nat) (N : Nat) (w : Nat → va_E) (hb : 469 ≤ N) (S : Nat) (Bl Cl : Nat → Nat) (Ow IB : Nat → Int) (hL : qLan τ ad w S Bl Cl Ow IB) (hS : S < 2 ^ 40) (x y : Int32) (a c : Nat) (hx : x.toInt = a) (hy : y.toInt = c) (ha : a < 40) (hc : c < 40) (hC : Cl a < 2 ^ 40) : Met l y_La_hasRow (qws y_La_hasRow c_La_hasRow 3 (some .boolean)) ({ frames := 2, cells := 0, slots := 0, locals := 43 }) (qPc D τ A ad N w [.ref (ad 251), .int x, .int y]) (va_Qi (fun r w1 => w1 = w ∧ qb (S.testBit c = true ∨ (Cl a).testBit c = true) r) (qB D τ A ad N) A) 0 0 A := by
  refine q_of (by decide) (Nat.le_of_ble_eq_true rfl) rfl ?_
  intro PP EE s MM below meth CC ls F hr hlk hnm hex hl hW
  have hl : lv_has ls 3 [(0, .ref (ad 251)), (1, .int x), (2, .int y)] := hl
  obtain ⟨lo, lB, lC, lO, lI⟩ := id hL
  refine lv_aload_n F.1 F.2.1 d_La_hasRow_0 rfl (lv_at hl 0 rfl) ?_
  refine lv_iload_n F.1 F.2.1 d_La_hasRow_1 rfl (lv_at hl 2 rfl) ?_
  refine q_calli hW (q_cV (As := [.int y]) (rest := []) F hW cs_La_59 hd_La_isLandmark rfl (by omega) lo (k_La_isLandmark l D τ A ad N w hb S Bl Cl Ow IB hL hS y c hy hc) rfl rfl ⟨by decide, by decide⟩ rfl hl.1 rfl (Nat.le_of_ble_eq_true rfl) d_La_hasRow_2 ⟨Nat.le_refl _, Nat.le_refl _⟩) (fun v1 w1 H1 locs1 hp1 hW1 => ?_)
  obtain ⟨hq1, hp1⟩ := hp1
  replace hq1 := hq1.symm
  subst hq1
  refine q_if_ne (tgt := 21) F d_La_hasRow_5 (by decide) (fun c5 => ?_) (fun c5 => ?_)
  · refine q_iconst F d_La_hasRow_21 (by decide) (fun v2 hv2 => ?_)
    refine lv_goto (tgt := 26) F.1 F.2.1 d_La_hasRow_22 (by decide) ?_
    have hb1 := qb_1 (P := S.testBit c = true ∨ (Cl a).testBit c = true) hv2 (Or.inl (qb_t hp1 c5))
    exact q_zret F hr hlk hW1 (qb_01 hb1) ⟨rfl, hb1⟩ d_La_hasRow_26
  · refine lv_aload_n F.1 F.2.1 d_La_hasRow_8 rfl (lv_at hl 0 rfl) ?_
    refine gf_La_15 F hW1 (by omega) lo d_La_hasRow_9 ?_
    refine lv_iload_n F.1 F.2.1 d_La_hasRow_12 rfl (lv_at hl 1 rfl) ?_
    refine q_lald F hW1 lC (by omega) a (by omega) (by omega) d_La_hasRow_13 ?_
    refine lv_iload_n F.1 F.2.1 d_La_hasRow_14 rfl (lv_at hl 2 rfl) ?_
    refine q_calli hW1 (q_cS (As := [.long (lN (Cl a)), .int y]) (rest := []) F hW1 cs_La_63 hs_La_has (k_La_has l D τ A ad N w (Cl a) hC y c hy hc) rfl rfl ⟨by decide, by decide⟩ rfl hl.1 rfl (Nat.le_of_ble_eq_true rfl) d_La_hasRow_15 ⟨Nat.le_refl _, Nat.le_refl _⟩) (fun v3 w3 H3 locs3 hp3 hW3 => ?_)
    obtain ⟨hq3, hp3⟩ := hp3
    replace hq3 := hq3.symm
    subst hq3
    refine q_if_eq (tgt := 25) F d_La_hasRow_18 (by decide) (fun c18 => ?_) (fun c18 => ?_)
    · refine q_iconst F d_La_hasRow_25 (by decide) (fun v4 hv4 => ?_)
      have hb1 := qb_0 (P := S.testBit c = true ∨ (Cl a).testBit c = true) hv4 (fun q => q.elim (qb_f hp1 c5) (qb_f hp3 c18))
      exact q_zret F hr hlk hW3 (qb_01 hb1) ⟨rfl, hb1⟩ d_La_hasRow_26
    · refine q_iconst F d_La_hasRow_21 (by decide) (fun v5 hv5 => ?_)
      refine lv_goto (tgt := 26) F.1 F.2.1 d_La_hasRow_22 (by decide) ?_
      have hb1 := qb_1 (P := S.testBit c = true ∨ (Cl a).testBit c = true) hv5 (Or.inr (qb_t hp3 c18))
      exact q_zret F hr hlk hW3 (qb_01 hb1) ⟨rfl, hb1⟩ d_La_hasRow_26
set_option maxHeartbeats 4000000 in
set_option maxRecDepth 100000 in
/-- the landmark number x -/
theorem k_La_at (l : Launch) (D : va_G) (τ : Nat → ClassId) (A : Nat → Prop) (ad : Nat → Nat) (N : Nat) (w : Nat → va_E) (hb : 469 ≤ N) (S : Nat) (Bl Cl : Nat → Nat) (Ow IB : Nat → Int) (hL : qLan τ ad w S Bl Cl Ow IB) (hS : S < 2 ^ 40) (m : Nat) (hm40 : m ≤ 40) (n : Int) (bh wt : Nat → Nat → Int) (hN : qNet τ ad w 85 n bh wt) (hn : n = m) (x : Int32) : Met l y_La_at (qws y_La_at c_La_at 4 (some .int)) ({ frames := 2, cells := 0, slots := 0, locals := 43 }) (qPc D τ A ad N w [.ref (ad 251), .int x]) (va_Qi (fun r w1 => w1 = w ∧ r.toInt = zf (fun v => S.testBit v = true ∧ (zc (fun u => S.testBit u = true) v : Int) = x.toInt) m) (qB D τ A ad N) A) 0 0 A := by
  refine q_of (by decide) (Nat.le_of_ble_eq_true rfl) rfl ?_
  intro PP EE s MM below meth CC ls F hr hlk hnm hex hl hW
  have hl : lv_has ls 4 [(0, .ref (ad 251)), (1, .int x)] := hl
  obtain ⟨lo, lB, lC, lO, lI⟩ := id hL
  obtain ⟨⟨nn32, nho, hnn32⟩, nhB, nhT⟩ := id hN
  refine q_iconst F d_La_at_0 (by decide) (fun v1 hv1 => ?_)
  refine lv_istore_n (lv' := [(2, .int v1), (0, .ref (ad 251)), (1, .int x)]) F.1 F.2.1 d_La_at_1 rfl hl (by decide) rfl (fun ls2 hl2 => ?_)
  clear hl
  refine q_iconst F d_La_at_2 (by decide) (fun v3 hv3 => ?_)
  refine lv_istore_n (lv' := [(3, .int v3), (2, .int v1), (0, .ref (ad 251)), (1, .int x)]) F.1 F.2.1 d_La_at_3 rfl hl2 (by decide) rfl (fun ls4 hl4 => ?_)
  clear hl2
  obtain ⟨i, hi0⟩ : ∃ i : Nat, i = 0 := ⟨_, rfl⟩
  have hiv : v3.toInt = (i : Int) := by omega
  have hib : i ≤ m := by omega
  have hWp := hW
  have hc2 : v1.toInt = (zc (fun u => S.testBit u = true) i : Int) := by rw [hv1, hi0]; rfl
  have hno : ∀ v, v < i → ¬ (S.testBit v = true ∧ (zc (fun u => S.testBit u = true) v : Int) = x.toInt) := fun v h => absurd h (by omega)
  clear hi0 hv3 hv1
  generalize s.heap = Hp at hWp ⊢
  generalize ([] : List Loc) = locsp at hWp ⊢
  obtain ⟨f, hf⟩ : ∃ f : Nat, m + 1 ≤ i + f := ⟨m + 1, by omega⟩
  induction f generalizing i v3 ls4 Hp locsp v1 with
  | zero => exact absurd hf (by omega)
  | succ f ihi =>
    refine lv_iload_n F.1 F.2.1 d_La_at_4 rfl (lv_at hl4 0 rfl) ?_
    refine lv_aload_n F.1 F.2.1 d_La_at_5 rfl (lv_at hl4 2 rfl) ?_
    refine gf_La_25 F hWp (by omega) lo d_La_at_6 ?_
    refine q_calli hWp (q_cV (As := []) (rest := [.int v3]) F hWp cs_La_53 hd_Ne_size rfl (by omega) nho (k_Ne_size l D τ A ad N w 85 (by omega) n bh wt hN) rfl rfl ⟨by decide, by decide⟩ rfl hl4.1 rfl (Nat.le_of_ble_eq_true rfl) d_La_at_9 ⟨Nat.le_refl _, Nat.le_refl _⟩) (fun v5 w5 H5 locs5 hp5 hW5 => ?_)
    obtain ⟨hq5, hp5⟩ := hp5
    replace hq5 := hq5.symm
    subst hq5
    refine q_icmp_ge (tgt := 39) F d_La_at_12 (by decide) (fun c12 => ?_) (fun c12 => ?_)
    · refine q_iconst F d_La_at_39 (by decide) (fun v6 hv6 => ?_)
      exact q_iret F hr hlk hW5 ⟨rfl, by rw [hv6]; exact zf_eq (Or.inr ⟨rfl, fun v hv => hno v (by omega)⟩)⟩ d_La_at_40
    · refine lv_aload_n F.1 F.2.1 d_La_at_15 rfl (lv_at hl4 2 rfl) ?_
      refine lv_iload_n F.1 F.2.1 d_La_at_16 rfl (lv_at hl4 0 rfl) ?_
      refine q_calli hW5 (q_cV (As := [.int v3]) (rest := []) F hW5 cs_La_59 hd_La_isLandmark rfl (by omega) lo (k_La_isLandmark l D τ A ad N w hb S Bl Cl Ow IB hL hS v3 i hiv (by omega)) rfl rfl ⟨by decide, by decide⟩ rfl hl4.1 rfl (Nat.le_of_ble_eq_true rfl) d_La_at_17 ⟨Nat.le_refl _, Nat.le_refl _⟩) (fun v7 w7 H7 locs7 hp7 hW7 => ?_)
      obtain ⟨hq7, hp7⟩ := hp7
      replace hq7 := hq7.symm
      subst hq7
      refine q_if_eq (tgt := 33) F d_La_at_20 (by decide) (fun c20 => ?_) (fun c20 => ?_)
      · refine q_iinc (lv' := fun v8 => [(3, .int v8), (2, .int v1), (0, .ref (ad 251)), (1, .int x)]) F d_La_at_33 hl4 (k := 0) rfl (by decide) (by omega) (by decide) (fun _ => rfl) (fun v8 lsv8 hv8 hlv8 => ?_)
        clear hl4
        refine lv_goto (tgt := 4) F.1 F.2.1 d_La_at_36 (by decide) ?_
        exact ihi (i := i + 1) (v3 := v8) (ls4 := lsv8) (Hp := H7) (locsp := locs7) (v1 := v1) (hiv := by omega) (hib := by omega) (hWp := hW7) (hc2 := by rw [zc_f (P := fun u => S.testBit u = true) (qb_f hp7 c20)]; exact hc2) (hno := lt_s hno (fun q => qb_f hp7 c20 q.1)) (hf := by omega) (hl4 := (lv_sub hlv8 [0, 1, 2, 3] rfl))
      · refine lv_iload_n F.1 F.2.1 d_La_at_23 rfl (lv_at hl4 1 rfl) ?_
        refine lv_iload_n F.1 F.2.1 d_La_at_24 rfl (lv_at hl4 3 rfl) ?_
        refine q_icmp_ne (tgt := 30) F d_La_at_25 (by decide) (fun c25 => ?_) (fun c25 => ?_)
        · have hz9 := zc_le (fun u => S.testBit u = true) i
          refine q_iinc (lv' := fun v9 => [(2, .int v9), (3, .int v3), (0, .ref (ad 251)), (1, .int x)]) F d_La_at_30 hl4 (k := 1) rfl (by decide) (by omega) (by decide) (fun _ => rfl) (fun v9 lsv9 hv9 hlv9 => ?_)
          clear hl4
          refine q_iinc (lv' := fun v10 => [(3, .int v10), (2, .int v9), (0, .ref (ad 251)), (1, .int x)]) F d_La_at_33 hlv9 (k := 1) rfl (by decide) (by omega) (by decide) (fun _ => rfl) (fun v10 lsv10 hv10 hlv10 => ?_)
          clear hlv9
          refine lv_goto (tgt := 4) F.1 F.2.1 d_La_at_36 (by decide) ?_
          exact ihi (i := i + 1) (v3 := v10) (ls4 := lsv10) (Hp := H7) (locsp := locs7) (v1 := v9) (hiv := by omega) (hib := by omega) (hWp := hW7) (hc2 := by rw [zc_t (P := fun u => S.testBit u = true) (qb_t hp7 c20)]; omega) (hno := lt_s hno (fun q => by have := q.2; omega)) (hf := by omega) (hl4 := (lv_sub hlv10 [0, 1, 2, 3] rfl))
        · refine lv_iload_n F.1 F.2.1 d_La_at_28 rfl (lv_at hl4 0 rfl) ?_
          exact q_iret F hr hlk hW7 ⟨rfl, by rw [hiv]; exact zf_eq (Or.inl ⟨i, by omega, rfl, ⟨qb_t hp7 c20, by omega⟩, hno⟩)⟩ d_La_at_29
