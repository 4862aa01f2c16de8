/-- the forest: places, sizes, heavy children, lights, by the root; parents of the root at work -/
def qFor (τ : Nat → ClassId) (ad : Nat → Nat) (w : Nat → va_E) (Pl Sz Hv Lt : Nat → Nat → Int) (Pa : Nat → Int) : Prop := w 256 = .inr (0, [.ref (ad 85), .ref (ad 168), .ref (ad 257), .ref (ad 298), .ref (ad 339), .ref (ad 380), .ref (ad 421)]) ∧ q_G τ ad w 257 40 40 Pl ∧ q_G τ ad w 298 40 40 Sz ∧ q_G τ ad w 339 40 40 Hv ∧ q_G τ ad w 380 40 40 Lt ∧ q_I τ w 421 40 Pa
theorem qFor.keep {τ : Nat → ClassId} {ad : Nat → Nat} {w w' : Nat → va_E} {Pl Sz Hv Lt : Nat → Nat → Int} {Pa : Nat → Int} (h : qFor τ ad w Pl Sz Hv Lt Pa) (e : ∀ q, 256 ≤ q → q < 422 → w' q = w q) : qFor τ ad w' Pl Sz Hv Lt Pa := by
  obtain ⟨h1, h2, h3, h4, h5, h6⟩ := h
  exact ⟨by rw [e 256 (by omega) (by omega)]; exact h1, h2.keep (fun i hi => e _ (by omega) (by omega)), h3.keep (fun i hi => e _ (by omega) (by omega)), h4.keep (fun i hi => e _ (by omega) (by omega)), h5.keep (fun i hi => e _ (by omega) (by omega)), h6.keep (e _ (by omega) (by omega))⟩
/-- row i of a table of rows -/
def q_row (M : Nat → Nat → Int) (i : Nat) (G : Nat → Int) : Nat → Nat → Int := fun a b => if a = i then G b else M a b
theorem q_row_eq {M : Nat → Nat → Int} {i : Nat} {G : Nat → Int} {b : Nat} : q_row M i G i b = G b := if_pos rfl
theorem q_row_ne {M : Nat → Nat → Int} {i a : Nat} {G : Nat → Int} {b : Nat} (h : a ≠ i) : q_row M i G a b = M a b := if_neg h
theorem q_G.row {τ : Nat → ClassId} {ad : Nat → Nat} {w w' : Nat → va_E} {k n r i : Nat} {M : Nat → Nat → Int} {G G' : Nat → Int} (h : q_G τ ad w k n r (q_row M i G)) (hi : i < n) (hI : q_I τ w' (k + 1 + i) r G') (e : ∀ q, q ≠ k + 1 + i → w' q = w q) : q_G τ ad w' k n r (q_row M i G') := by
  refine (h.put hi hI e).congr (fun a b _ _ => ?_)
  unfold q_row
  by_cases z : a = i <;> simp [z]
theorem q_G.row0 {τ : Nat → ClassId} {ad : Nat → Nat} {w : Nat → va_E} {k n r i : Nat} {M : Nat → Nat → Int} (h : q_G τ ad w k n r M) : q_G τ ad w k n r (q_row M i (M i)) := by
  refine h.congr (fun a b _ _ => ?_)
  unfold q_row
  by_cases z : a = i
  · subst z; simp
  · simp [z]
theorem q_G.rowI {τ : Nat → ClassId} {ad : Nat → Nat} {w : Nat → va_E} {k n r i : Nat} {M : Nat → Nat → Int} {G : Nat → Int} (h : q_G τ ad w k n r (q_row M i G)) (hi : i < n) : q_I τ w (k + 1 + i) r G := (h.2 i hi).congr (fun _ _ => q_row_eq)
set_option maxHeartbeats 4000000 in
set_option maxRecDepth 100000 in
/-- of a node in a tree -/
theorem k_Fo_placeOf (l : Launch) (D : va_G) (τ : Nat → ClassId) (A : Nat → Prop) (ad : Nat → Nat) (N : Nat) (w : Nat → va_E) (hb : 469 ≤ N) (Pl Sz Hv Lt : Nat → Nat → Int) (Pa : Nat → Int) (hF : qFor τ ad w Pl Sz Hv Lt Pa) (x y : Int32) (r a : Nat) (hx : x.toInt = r) (hy : y.toInt = a) (hr40 : r < 40) (ha : a < 40) : Met l y_Fo_placeOf (qws y_Fo_placeOf c_Fo_placeOf 3 (some .int)) ({ frames := 0, cells := 0, slots := 0, locals := 0 }) (qPc D τ A ad N w [.ref (ad 256), .int x, .int y]) (va_Qi (fun r1 w1 => w1 = w ∧ r1.toInt = Pl r a) (qB D τ A ad N) A) 0 0 A := by
  refine q_of (by decide) (Nat.le_of_ble_eq_true rfl) rfl ?_
  intro PP EE s MM below meth CC ls F hr hlk hnm hex hl hW
  have hl : lv_has ls 3 [(0, .ref (ad 256)), (1, .int x), (2, .int y)] := hl
  obtain ⟨fo, fP, fS, fH, fL, fA⟩ := id hF
  refine lv_aload_n F.1 F.2.1 d_Fo_placeOf_0 rfl (lv_at hl 0 rfl) ?_
  refine gf_Fo_11 F hW (by omega) fo d_Fo_placeOf_1 ?_
  refine lv_iload_n F.1 F.2.1 d_Fo_placeOf_4 rfl (lv_at hl 1 rfl) ?_
  refine q_aald F hW fP (by omega) r (by omega) (by omega) d_Fo_placeOf_5 ?_
  refine lv_iload_n F.1 F.2.1 d_Fo_placeOf_6 rfl (lv_at hl 2 rfl) ?_
  refine q_iald F hW (fP.2 r (by omega)) (by omega) a (by omega) (by omega) d_Fo_placeOf_7 (fun v1 hv1 => ?_)
  exact q_iret F hr hlk hW ⟨rfl, hv1⟩ d_Fo_placeOf_8
set_option maxHeartbeats 4000000 in
set_option maxRecDepth 100000 in
/-- of a node in a tree -/
theorem k_Fo_sizeOf (l : Launch) (D : va_G) (τ : Nat → ClassId) (A : Nat → Prop) (ad : Nat → Nat) (N : Nat) (w : Nat → va_E) (hb : 469 ≤ N) (Pl Sz Hv Lt : Nat → Nat → Int) (Pa : Nat → Int) (hF : qFor τ ad w Pl Sz Hv Lt Pa) (x y : Int32) (r a : Nat) (hx : x.toInt = r) (hy : y.toInt = a) (hr40 : r < 40) (ha : a < 40) : Met l y_Fo_sizeOf (qws y_Fo_sizeOf c_Fo_sizeOf 3 (some .int)) ({ frames := 0, cells := 0, slots := 0, locals := 0 }) (qPc D τ A ad N w [.ref (ad 256), .int x, .int y]) (va_Qi (fun r1 w1 => w1 = w ∧ r1.toInt = Sz r a) (qB D τ A ad N) A) 0 0 A := by
  refine q_of (by decide) (Nat.le_of_ble_eq_true rfl) rfl ?_
  intro PP EE s MM below meth CC ls F hr hlk hnm hex hl hW
  have hl : lv_has ls 3 [(0, .ref (ad 256)), (1, .int x), (2, .int y)] := hl
  obtain ⟨fo, fP, fS, fH, fL, fA⟩ := id hF
  refine lv_aload_n F.1 F.2.1 d_Fo_sizeOf_0 rfl (lv_at hl 0 rfl) ?_
  refine gf_Fo_16 F hW (by omega) fo d_Fo_sizeOf_1 ?_
  refine lv_iload_n F.1 F.2.1 d_Fo_sizeOf_4 rfl (lv_at hl 1 rfl) ?_
  refine q_aald F hW fS (by omega) r (by omega) (by omega) d_Fo_sizeOf_5 ?_
  refine lv_iload_n F.1 F.2.1 d_Fo_sizeOf_6 rfl (lv_at hl 2 rfl) ?_
  refine q_iald F hW (fS.2 r (by omega)) (by omega) a (by omega) (by omega) d_Fo_sizeOf_7 (fun v1 hv1 => ?_)
  exact q_iret F hr hlk hW ⟨rfl, hv1⟩ d_Fo_sizeOf_8
set_option maxHeartbeats 4000000 in
set_option maxRecDepth 100000 in
/-- of a node in a tree -/
theorem k_Fo_heavyOf (l : Launch) (D : va_G) (τ : Nat → ClassId) (A : Nat → Prop) (ad : Nat → Nat) (N : Nat) (w : Nat → va_E) (hb : 469 ≤ N) (Pl Sz Hv Lt : Nat → Nat → Int) (Pa : Nat → Int) (hF : qFor τ ad w Pl Sz Hv Lt Pa) (x y : Int32) (r a : Nat) (hx : x.toInt = r) (hy : y.toInt = a) (hr40 : r < 40) (ha : a < 40) : Met l y_Fo_heavyOf (qws y_Fo_heavyOf c_Fo_heavyOf 3 (some .int)) ({ frames := 0, cells := 0, slots := 0, locals := 0 }) (qPc D τ A ad N w [.ref (ad 256), .int x, .int y]) (va_Qi (fun r1 w1 => w1 = w ∧ r1.toInt = Hv r a) (qB D τ A ad N) A) 0 0 A := by
  refine q_of (by decide) (Nat.le_of_ble_eq_true rfl) rfl ?_
  intro PP EE s MM below meth CC ls F hr hlk hnm hex hl hW
  have hl : lv_has ls 3 [(0, .ref (ad 256)), (1, .int x), (2, .int y)] := hl
  obtain ⟨fo, fP, fS, fH, fL, fA⟩ := id hF
  refine lv_aload_n F.1 F.2.1 d_Fo_heavyOf_0 rfl (lv_at hl 0 rfl) ?_
  refine gf_Fo_19 F hW (by omega) fo d_Fo_heavyOf_1 ?_
  refine lv_iload_n F.1 F.2.1 d_Fo_heavyOf_4 rfl (lv_at hl 1 rfl) ?_
  refine q_aald F hW fH (by omega) r (by omega) (by omega) d_Fo_heavyOf_5 ?_
  refine lv_iload_n F.1 F.2.1 d_Fo_heavyOf_6 rfl (lv_at hl 2 rfl) ?_
  refine q_iald F hW (fH.2 r (by omega)) (by omega) a (by omega) (by omega) d_Fo_heavyOf_7 (fun v1 hv1 => ?_)
  exact q_iret F hr hlk hW ⟨rfl, hv1⟩ d_Fo_heavyOf_8
set_option maxHeartbeats 4000000 in
set_option maxRecDepth 100000 in
/-- of a node in a tree -/
theorem k_Fo_lightsAbove (l : Launch) (D : va_G) (τ : Nat → ClassId) (A : Nat → Prop) (ad : Nat → Nat) (N : Nat) (w : Nat → va_E) (hb : 469 ≤ N) (Pl Sz Hv Lt : Nat → Nat → Int) (Pa : Nat → Int) (hF : qFor τ ad w Pl Sz Hv Lt Pa) (x y : Int32) (r a : Nat) (hx : x.toInt = r) (hy : y.toInt = a) (hr40 : r < 40) (ha : a < 40) : Met l y_Fo_lightsAbove (qws y_Fo_lightsAbove c_Fo_lightsAbove 3 (some .int)) ({ frames := 0, cells := 0, slots := 0, locals := 0 }) (qPc D τ A ad N w [.ref (ad 256), .int x, .int y]) (va_Qi (fun r1 w1 => w1 = w ∧ r1.toInt = Lt r a) (qB D τ A ad N) A) 0 0 A := by
  refine q_of (by decide) (Nat.le_of_ble_eq_true rfl) rfl ?_
  intro PP EE s MM below meth CC ls F hr hlk hnm hex hl hW
  have hl : lv_has ls 3 [(0, .ref (ad 256)), (1, .int x), (2, .int y)] := hl
  obtain ⟨fo, fP, fS, fH, fL, fA⟩ := id hF
  refine lv_aload_n F.1 F.2.1 d_Fo_lightsAbove_0 rfl (lv_at hl 0 rfl) ?_
  refine gf_Fo_22 F hW (by omega) fo d_Fo_lightsAbove_1 ?_
  refine lv_iload_n F.1 F.2.1 d_Fo_lightsAbove_4 rfl (lv_at hl 1 rfl) ?_
  refine q_aald F hW fL (by omega) r (by omega) (by omega) d_Fo_lightsAbove_5 ?_
  refine lv_iload_n F.1 F.2.1 d_Fo_lightsAbove_6 rfl (lv_at hl 2 rfl) ?_
  refine q_iald F hW (fL.2 r (by omega)) (by omega) a (by omega) (by omega) d_Fo_lightsAbove_7 (fun v1 hv1 => ?_)
  exact q_iret F hr hlk hW ⟨rfl, hv1⟩ d_Fo_lightsAbove_8
set_option maxHeartbeats 4000000 in
set_option maxRecDepth 100000 in
/-- is a place at or below a node -/
theorem k_Fo_holds (l : Launch) (D : va_G) (τ : Nat → ClassId) (A : Nat → Prop) (ad : Nat → Nat) (N : Nat) (w : Nat → va_E) (hb : 469 ≤ N) (Pl Sz Hv Lt : Nat → Nat → Int) (Pa : Nat → Int) (hF : qFor τ ad w Pl Sz Hv Lt Pa) (x y : Int32) (r a : Nat) (hx : x.toInt = r) (hy : y.toInt = a) (hr40 : r < 40) (ha : a < 40) (z : Int32) (hrg : -1000 ≤ Pl r a ∧ Pl r a ≤ 1000 ∧ -1000 ≤ Sz r a ∧ Sz r a ≤ 1000) : Met l y_Fo_holds (qws y_Fo_holds c_Fo_holds 5 (some .boolean)) ({ frames := 0, cells := 0, slots := 0, locals := 0 }) (qPc D τ A ad N w [.ref (ad 256), .int x, .int y, .int z]) (va_Qi (fun r1 w1 => w1 = w ∧ qb (Pl r a ≤ z.toInt ∧ z.toInt < Pl r a + Sz r a) r1) (qB D τ A ad N) A) 0 0 A := by
  refine q_of (by decide) (Nat.le_of_ble_eq_true rfl) rfl ?_
  intro PP EE s MM below meth CC ls F hr hlk hnm hex hl hW
  have hl : lv_has ls 5 [(0, .ref (ad 256)), (1, .int x), (2, .int y), (3, .int z)] := hl
  obtain ⟨fo, fP, fS, fH, fL, fA⟩ := id hF
  refine lv_aload_n F.1 F.2.1 d_Fo_holds_0 rfl (lv_at hl 0 rfl) ?_
  refine gf_Fo_11 F hW (by omega) fo d_Fo_holds_1 ?_
  refine lv_iload_n F.1 F.2.1 d_Fo_holds_4 rfl (lv_at hl 1 rfl) ?_
  refine q_aald F hW fP (by omega) r (by omega) (by omega) d_Fo_holds_5 ?_
  refine lv_iload_n F.1 F.2.1 d_Fo_holds_6 rfl (lv_at hl 2 rfl) ?_
  refine q_iald F hW (fP.2 r (by omega)) (by omega) a (by omega) (by omega) d_Fo_holds_7 (fun v1 hv1 => ?_)
  refine lv_istore (lv' := [(4, .int v1), (0, .ref (ad 256)), (1, .int x), (2, .int y), (3, .int z)]) F.1 F.2.1 d_Fo_holds_8 hl (by decide) rfl (fun ls2 hl2 => ?_)
  clear hl
  refine lv_iload_n F.1 F.2.1 d_Fo_holds_10 rfl (lv_at hl2 4 rfl) ?_
  refine lv_iload F.1 F.2.1 d_Fo_holds_11 (lv_at hl2 0 rfl) ?_
  refine q_icmp_lt (tgt := 35) F d_Fo_holds_13 (by decide) (fun c13 => ?_) (fun c13 => ?_)
  · refine q_iconst F d_Fo_holds_35 (by decide) (fun v3 hv3 => ?_)
    have hb1 := qb_0 (P := Pl r a ≤ z.toInt ∧ z.toInt < Pl r a + Sz r a) hv3 (by omega)
    exact q_zret F hr hlk hW (qb_01 hb1) ⟨rfl, hb1⟩ d_Fo_holds_36
  · refine lv_iload_n F.1 F.2.1 d_Fo_holds_16 rfl (lv_at hl2 4 rfl) ?_
    refine lv_iload F.1 F.2.1 d_Fo_holds_17 (lv_at hl2 0 rfl) ?_
    refine lv_aload_n F.1 F.2.1 d_Fo_holds_19 rfl (lv_at hl2 1 rfl) ?_
    refine gf_Fo_16 F hW (by omega) fo d_Fo_holds_20 ?_
    refine lv_iload_n F.1 F.2.1 d_Fo_holds_23 rfl (lv_at hl2 2 rfl) ?_
    refine q_aald F hW fS (by omega) r (by omega) (by omega) d_Fo_holds_24 ?_
    refine lv_iload_n F.1 F.2.1 d_Fo_holds_25 rfl (lv_at hl2 3 rfl) ?_
    refine q_iald F hW (fS.2 r (by omega)) (by omega) a (by omega) (by omega) d_Fo_holds_26 (fun v4 hv4 => ?_)
    refine q_iadd F d_Fo_holds_27 (by omega) (fun v5 hv5 => ?_)
    refine q_icmp_ge (tgt := 35) F d_Fo_holds_28 (by decide) (fun c28 => ?_) (fun c28 => ?_)
    · refine q_iconst F d_Fo_holds_35 (by decide) (fun v6 hv6 => ?_)
      have hb1 := qb_0 (P := Pl r a ≤ z.toInt ∧ z.toInt < Pl r a + Sz r a) hv6 (by omega)
      exact q_zret F hr hlk hW (qb_01 hb1) ⟨rfl, hb1⟩ d_Fo_holds_36
    · refine q_iconst F d_Fo_holds_31 (by decide) (fun v7 hv7 => ?_)
      refine lv_goto (tgt := 36) F.1 F.2.1 d_Fo_holds_32 (by decide) ?_
      have hb1 := qb_1 (P := Pl r a ≤ z.toInt ∧ z.toInt < Pl r a + Sz r a) hv7 (by omega)
      exact q_zret F hr hlk hW (qb_01 hb1) ⟨rfl, hb1⟩ d_Fo_holds_36
set_option maxHeartbeats 4000000 in
set_option maxRecDepth 100000 in
/-- the parent in a tree -/
theorem k_Fo_parentOf (l : Launch) (D : va_G) (τ : Nat → ClassId) (A : Nat → Prop) (ad : Nat → Nat) (N : Nat) (w : Nat → va_E) (hb : 469 ≤ N) (fo : w 256 = .inr (0, [.ref (ad 85), .ref (ad 168), .ref (ad 257), .ref (ad 298), .ref (ad 339), .ref (ad 380), .ref (ad 421)])) (m : Nat) (hm40 : m ≤ 40) (n : Int) (bh wt : Nat → Nat → Int) (hN : qNet τ ad w 85 n bh wt) (hn : n = m) (Wt : Nat → Nat → Int) (od : Nat → Nat → Nat) (hY : qWay τ ad w m Wt od) (hZ : zn_ok m bh wt Wt) (x y : Int32) (r a : Nat) (hx : x.toInt = r) (hy : y.toInt = a) (hr9 : r < m) (ha : a < m) : Met l y_Fo_parentOf (qws y_Fo_parentOf c_Fo_parentOf 3 (some .int)) ({ frames := 2, cells := 0, slots := 0, locals := 47 }) (qPc D τ A ad N w [.ref (ad 256), .int x, .int y]) (va_Qi (fun r1 w1 => w1 = w ∧ r1.toInt = zpa m Wt r a) (qB D τ A ad N) A) 0 0 A := by
  refine q_of (by decide) (Nat.le_of_ble_eq_true rfl) rfl ?_
  intro PP EE s MM below meth CC ls F hr hlk hnm hex hl hW
  have hl : lv_has ls 3 [(0, .ref (ad 256)), (1, .int x), (2, .int y)] := hl
  obtain ⟨hyo, -⟩ := id hY
  refine lv_aload_n F.1 F.2.1 d_Fo_parentOf_0 rfl (lv_at hl 0 rfl) ?_
  refine gf_Fo_33 F hW (by omega) fo d_Fo_parentOf_1 ?_
  refine lv_iload_n F.1 F.2.1 d_Fo_parentOf_4 rfl (lv_at hl 2 rfl) ?_
  refine lv_iload_n F.1 F.2.1 d_Fo_parentOf_5 rfl (lv_at hl 1 rfl) ?_
  refine q_calli hW (q_cV (As := [.int y, .int x]) (rest := []) F hW cs_Fo_50 hd_Wa_next rfl (by omega) hyo (k_Wa_next l D τ A ad N w hb m hm40 Wt od hY n bh wt hN hn hZ y x a r hy hx ha hr9) rfl rfl ⟨by decide, by decide⟩ rfl hl.1 rfl (Nat.le_of_ble_eq_true rfl) d_Fo_parentOf_6 ⟨Nat.le_refl _, Nat.le_refl _⟩) (fun v1 w1 H1 locs1 hp1 hW1 => ?_)
  obtain ⟨hq1, hp1⟩ := hp1
  replace hq1 := hq1.symm
  subst hq1
  exact q_iret F hr hlk hW1 ⟨rfl, hp1⟩ d_Fo_parentOf_9
set_option maxHeartbeats 4000000 in
set_option maxRecDepth 100000 in
/-- all parents -/
theorem k_Fo_findParents (l : Launch) (D : va_G) (τ : Nat → ClassId) (A : Nat → Prop) (ad : Nat → Nat) (N : Nat) (w : Nat → va_E) (hb : 469 ≤ N) (Pl Sz Hv Lt : Nat → Nat → Int) (Pa : Nat → Int) (hF : qFor τ ad w Pl Sz Hv Lt Pa) (m : Nat) (hm40 : m ≤ 40) (n : Int) (bh wt : Nat → Nat → Int) (hN : qNet τ ad w 85 n bh wt) (hn : n = m) (Wt : Nat → Nat → Int) (od : Nat → Nat → Nat) (hY : qWay τ ad w m Wt od) (hZ : zn_ok m bh wt Wt) (x : Int32) (r : Nat) (hx : x.toInt = r) (hr9 : r < m) : Met l y_Fo_findParents (qws y_Fo_findParents c_Fo_findParents 3 none) ({ frames := 3, cells := 0, slots := 0, locals := 69 }) (qPc D τ A ad N w [.ref (ad 256), .int x]) (va_Qv (fun w1 => (∃ Pa1, qFor τ ad w1 Pl Sz Hv Lt Pa1 ∧ ∀ a, a < m → Pa1 a = zpa m Wt r a) ∧ (∀ q, (q < 256 ∨ 422 ≤ q) → w1 q = w q)) (qB D τ A ad N) A) 0 0 A := by
  refine q_of (by decide) (Nat.le_of_ble_eq_true rfl) rfl ?_
  intro PP EE s MM below meth CC ls F hr hlk hnm hex hl hW
  have hl : lv_has ls 3 [(0, .ref (ad 256)), (1, .int x)] := hl
  obtain ⟨fo, fP, fS, fH, fL, fA⟩ := id hF
  obtain ⟨⟨l32, lho, hl32⟩, lhB, lhT⟩ := id hN
  obtain ⟨hyo, ⟨FF, hyF, hyd⟩, OO, hyO, hyo2⟩ := id hY
  refine q_iconst F d_Fo_findParents_0 (by decide) (fun v1 hv1 => ?_)
  refine lv_istore_n (lv' := [(2, .int v1), (0, .ref (ad 256)), (1, .int x)]) F.1 F.2.1 d_Fo_findParents_1 rfl hl (by decide) rfl (fun ls2 hl2 => ?_)
  clear hl
  obtain ⟨i, hi0⟩ : ∃ i : Nat, i = 0 := ⟨_, rfl⟩
  have hiv : v1.toInt = (i : Int) := by omega
  have hib : i ≤ m := by omega
  obtain ⟨wl, hwl⟩ : ∃ x : Nat → va_E, x = w := ⟨_, rfl⟩
  have hWl : qW D τ A s s.heap ([] : List Loc) ad N wl := by rw [hwl]; exact hW
  have fo : wl 256 = .inr (0, [.ref (ad 85), .ref (ad 168), .ref (ad 257), .ref (ad 298), .ref (ad 339), .ref (ad 380), .ref (ad 421)]) := by rw [hwl]; exact fo
  have fP : q_G τ ad wl 257 40 40 Pl := by rw [hwl]; exact fP
  have fS : q_G τ ad wl 298 40 40 Sz := by rw [hwl]; exact fS
  have fH : q_G τ ad wl 339 40 40 Hv := by rw [hwl]; exact fH
  have fL : q_G τ ad wl 380 40 40 Lt := by rw [hwl]; exact fL
  have hN : qNet τ ad wl 85 n bh wt := by rw [hwl]; exact hN
  have hY : qWay τ ad wl m Wt od := by rw [hwl]; exact hY
  have hfl : (∀ q, (q < 256 ∨ 422 ≤ q) → wl q = w q) := fun q _ => by rw [hwl]
  have hA : ∃ Pa1, q_I τ wl 421 40 Pa1 ∧ ∀ a, a < i → Pa1 a = zpa m Wt r a := ⟨Pa, by rw [hwl]; exact fA, fun a h => absurd h (by omega)⟩
  clear hi0 hv1 hwl
  generalize s.heap = Hl at hWl ⊢
  generalize ([] : List Loc) = locsl at hWl ⊢
  obtain ⟨f, hf⟩ : ∃ f : Nat, m + 1 ≤ i + f := ⟨m + 1, by omega⟩
  induction f generalizing i v1 ls2 wl Hl locsl with
  | zero => exact absurd hf (by omega)
  | succ f ihi =>
    obtain ⟨Pa1, fA, hA1⟩ := hA
    obtain ⟨⟨l32, lho, hl32⟩, lhB, lhT⟩ := id hN
    obtain ⟨hyo, ⟨FF, hyF, hyd⟩, OO, hyO, hyo2⟩ := id hY
    refine lv_iload_n F.1 F.2.1 d_Fo_findParents_2 rfl (lv_at hl2 0 rfl) ?_
    refine lv_aload_n F.1 F.2.1 d_Fo_findParents_3 rfl (lv_at hl2 1 rfl) ?_
    refine gf_Fo_29 F hWl (by omega) fo d_Fo_findParents_4 ?_
    refine q_calli hWl (q_cV (As := []) (rest := [.int v1]) F hWl cs_Fo_56 hd_Ne_size rfl (by omega) lho (k_Ne_size l D τ A ad N wl 85 (by omega) n bh wt hN) rfl rfl ⟨by decide, by decide⟩ rfl hl2.1 rfl (Nat.le_of_ble_eq_true rfl) d_Fo_findParents_7 ⟨Nat.le_refl _, Nat.le_refl _⟩) (fun v3 w3 H3 locs3 hp3 hW3 => ?_)
    obtain ⟨hq3, hp3⟩ := hp3
    replace hq3 := hq3.symm
    subst hq3
    refine q_icmp_ge (tgt := 31) F d_Fo_findParents_10 (by decide) (fun c10 => ?_) (fun c10 => ?_)
    · exact q_vret F hr hlk hW3 ⟨⟨Pa1, ⟨fo, fP, fS, fH, fL, fA⟩, fun a ha => hA1 a (by omega)⟩, hfl⟩ d_Fo_findParents_31
    · refine lv_aload_n F.1 F.2.1 d_Fo_findParents_13 rfl (lv_at hl2 1 rfl) ?_
      refine gf_Fo_25 F hW3 (by omega) fo d_Fo_findParents_14 ?_
      refine lv_iload_n F.1 F.2.1 d_Fo_findParents_17 rfl (lv_at hl2 0 rfl) ?_
      refine lv_aload_n F.1 F.2.1 d_Fo_findParents_18 rfl (lv_at hl2 1 rfl) ?_
      refine lv_iload_n F.1 F.2.1 d_Fo_findParents_19 rfl (lv_at hl2 2 rfl) ?_
      refine lv_iload_n F.1 F.2.1 d_Fo_findParents_20 rfl (lv_at hl2 0 rfl) ?_
      refine q_calli hW3 (q_cV (As := [.int x, .int v1]) (rest := [.int v1, .ref (ad 421)]) F hW3 cs_Fo_62 hd_Fo_parentOf rfl (by omega) fo (k_Fo_parentOf l D τ A ad N wl hb fo m hm40 n bh wt hN hn Wt od hY hZ x v1 r i hx hiv hr9 (by omega)) rfl rfl ⟨by decide, by decide⟩ rfl hl2.1 rfl (Nat.le_of_ble_eq_true rfl) d_Fo_findParents_21 ⟨Nat.le_refl _, Nat.le_refl _⟩) (fun v4 w4 H4 locs4 hp4 hW4 => ?_)
      obtain ⟨hq4, hp4⟩ := hp4
      replace hq4 := hq4.symm
      subst hq4
      refine q_iast F hW4 fA (by omega) i (by omega) (by omega) d_Fo_findParents_24 (fun H5 locs5 w5 hW5 hI5 hfr5 => ?_)
      replace fo := (hfr5 _ (by omega)).trans fo
      replace lho := (hfr5 _ (by omega)).trans lho
      replace hyo := (hfr5 _ (by omega)).trans hyo
      replace hN := hN.keep (fun q h1 h2 => hfr5 _ (by omega))
      replace hY := hY.keep (fun q h1 h2 => hfr5 _ (by omega))
      replace fP := fP.keep (fun i hi => hfr5 _ (by omega))
      replace fS := fS.keep (fun i hi => hfr5 _ (by omega))
      replace fH := fH.keep (fun i hi => hfr5 _ (by omega))
      replace fL := fL.keep (fun i hi => hfr5 _ (by omega))
      replace fA := hI5
      replace hfl : (∀ q, (q < 256 ∨ 422 ≤ q) → w5 q = w q) := fun q hq => by rw [hfr5 q (by omega)]; exact hfl q hq
      refine q_iinc (lv' := fun v6 => [(2, .int v6), (0, .ref (ad 256)), (1, .int x)]) F d_Fo_findParents_25 hl2 (k := 0) rfl (by decide) (by omega) (by decide) (fun _ => rfl) (fun v6 lsv6 hv6 hlv6 => ?_)
      clear hl2
      refine lv_goto (tgt := 2) F.1 F.2.1 d_Fo_findParents_28 (by decide) ?_
      exact ihi (i := i + 1) (v1 := v6) (ls2 := lsv6) (wl := w5) (Hl := H5) (locsl := locs5) (hiv := by omega) (hib := by omega) (hWl := hW5) (fo := fo) (fP := fP) (fS := fS) (fH := fH) (fL := fL) (hN := hN) (hY := hY) (hfl := hfl) (hA := ⟨_, fA, q_upP hA1 hp4⟩) (hf := by omega) (hl2 := (lv_sub hlv6 [0, 1, 2] rfl))
set_option maxHeartbeats 4000000 in
set_option maxRecDepth 100000 in
/-- the sizes in a tree -/
theorem k_Fo_addSizes (l : Launch) (D : va_G) (τ : Nat → ClassId) (A : Nat → Prop) (ad : Nat → Nat) (N : Nat) (w : Nat → va_E) (hb : 469 ≤ N) (Pl Sz Hv Lt : Nat → Nat → Int) (Pa : Nat → Int) (hF : qFor τ ad w Pl Sz Hv Lt Pa) (m : Nat) (hm40 : m ≤ 40) (n : Int) (bh wt : Nat → Nat → Int) (hN : qNet τ ad w 85 n bh wt) (hn : n = m) (Wt : Nat → Nat → Int) (od : Nat → Nat → Nat) (hY : qWay τ ad w m Wt od) (hZ : zn_ok m bh wt Wt) (x : Int32) (r : Nat) (hx : x.toInt = r) (hr9 : r < m) (hm1 : 1 ≤ m) (hall : zall m Wt) (hPa : ∀ a, a < m → Pa a = zpa m Wt r a) : Met l y_Fo_addSizes (qws y_Fo_addSizes c_Fo_addSizes 5 none) ({ frames := 1, cells := 0, slots := 0, locals := 23 }) (qPc D τ A ad N w [.ref (ad 256), .int x]) (va_Qv (fun w1 => (∃ Sr, qFor τ ad w1 Pl (q_row Sz r Sr) Hv Lt Pa ∧ ∀ a, a < m → Sr a = (zS m (zpa m Wt r) a : Int)) ∧ (∀ q, (q < 256 ∨ 422 ≤ q) → w1 q = w q)) (qB D τ A ad N) A) 0 0 A := by
  refine q_of (by decide) (Nat.le_of_ble_eq_true rfl) rfl ?_
  intro PP EE s MM below meth CC ls F hr hlk hnm hex hl hW
  have hl : lv_has ls 5 [(0, .ref (ad 256)), (1, .int x)] := hl
  obtain ⟨fo, fP, fS, fH, fL, fA⟩ := id hF
  obtain ⟨⟨l32, lho, hl32⟩, lhB, lhT⟩ := id hN
  obtain ⟨hyo, ⟨FF, hyF, hyd⟩, OO, hyO, hyo2⟩ := id hY
  have T := zpa_ok hZ.1 hall hr9
  have hO := (hyo2 r hr9).1
  have hroot := zo_root hZ.1 hr9 hO
  replace fS := fS.row0 (i := r)
  refine lv_aload_n F.1 F.2.1 d_Fo_addSizes_0 rfl (lv_at hl 0 rfl) ?_
  refine gf_Fo_16 F hW (by omega) fo d_Fo_addSizes_1 ?_
  refine lv_iload_n F.1 F.2.1 d_Fo_addSizes_4 rfl (lv_at hl 1 rfl) ?_
  refine q_aald F hW fS (by omega) r (by omega) (by omega) d_Fo_addSizes_5 ?_
  refine lv_astore_n (lv' := [(2, .ref (ad (298 + 1 + r))), (0, .ref (ad 256)), (1, .int x)]) F.1 F.2.1 d_Fo_addSizes_6 rfl hl (by decide) rfl (fun ls1 hl1 => ?_)
  clear hl
  refine lv_aload_n F.1 F.2.1 d_Fo_addSizes_7 rfl (lv_at hl1 0 rfl) ?_
  refine q_iconst F d_Fo_addSizes_8 (by decide) (fun v2 hv2 => ?_)
  refine q_callv hW (q_cS (As := [.ref (ad (298 + 1 + r)), .int v2]) (rest := []) F hW cs_Fo_65 hs_Ar_fill (k_Ar_fill l D τ A ad N w (298 + 1 + r) 40 _ (by omega) (by decide) (fS.rowI (by omega)) v2) rfl rfl ⟨by decide, by decide⟩ rfl hl1.1 rfl (Nat.le_of_ble_eq_true rfl) d_Fo_addSizes_9 ⟨Nat.le_refl _, Nat.le_refl _⟩) (fun w3 H3 locs3 hp3 hW3 => ?_)
  obtain ⟨hI3, hfr3⟩ := hp3
  replace fo := (hfr3 _ (by omega)).trans fo
  replace lho := (hfr3 _ (by omega)).trans lho
  replace hyo := (hfr3 _ (by omega)).trans hyo
  replace hN := hN.keep (fun q h1 h2 => hfr3 _ (by omega))
  replace hY := hY.keep (fun q h1 h2 => hfr3 _ (by omega))
  replace fP := fP.keep (fun i hi => hfr3 _ (by omega))
  replace fS := fS.row (by omega) hI3 hfr3
  replace fH := fH.keep (fun i hi => hfr3 _ (by omega))
  replace fL := fL.keep (fun i hi => hfr3 _ (by omega))
  replace fA := fA.keep (hfr3 _ (by omega))
  have hfr0 : (∀ q, (q < 256 ∨ 422 ≤ q) → w3 q = w q) := fun q hq => hfr3 q (by omega)
  refine lv_aload_n F.1 F.2.1 d_Fo_addSizes_12 rfl (lv_at hl1 1 rfl) ?_
  refine gf_Fo_29 F hW3 (by omega) fo d_Fo_addSizes_13 ?_
  refine q_calli hW3 (q_cV (As := []) (rest := []) F hW3 cs_Fo_56 hd_Ne_size rfl (by omega) lho (k_Ne_size l D τ A ad N w3 85 (by omega) n bh wt hN) rfl rfl ⟨by decide, by decide⟩ rfl hl1.1 rfl (Nat.le_of_ble_eq_true rfl) d_Fo_addSizes_16 ⟨Nat.le_refl _, Nat.le_refl _⟩) (fun v4 w4 H4 locs4 hp4 hW4 => ?_)
  obtain ⟨hq4, hp4⟩ := hp4
  replace hq4 := hq4.symm
  subst hq4
  refine q_iconst F d_Fo_addSizes_19 (by decide) (fun v5 hv5 => ?_)
  refine q_isub F d_Fo_addSizes_20 (by omega) (fun v6 hv6 => ?_)
  refine lv_istore_n (lv' := [(3, .int v6), (2, .ref (ad (298 + 1 + r))), (0, .ref (ad 256)), (1, .int x)]) F.1 F.2.1 d_Fo_addSizes_21 rfl hl1 (by decide) rfl (fun ls7 hl7 => ?_)
  clear hl1
  obtain ⟨i, hi0⟩ : ∃ i : Nat, i = m - 1 := ⟨_, rfl⟩
  have hiv : v6.toInt = (i : Int) := by omega
  obtain ⟨wl, hwl⟩ : ∃ x : Nat → va_E, x = w3 := ⟨_, rfl⟩
  have hWl : qW D τ A s H4 locs4 ad N wl := by rw [hwl]; exact hW4
  have fo : wl 256 = .inr (0, [.ref (ad 85), .ref (ad 168), .ref (ad 257), .ref (ad 298), .ref (ad 339), .ref (ad 380), .ref (ad 421)]) := by rw [hwl]; exact fo
  have fP : q_G τ ad wl 257 40 40 Pl := by rw [hwl]; exact fP
  have fH : q_G τ ad wl 339 40 40 Hv := by rw [hwl]; exact fH
  have fL : q_G τ ad wl 380 40 40 Lt := by rw [hwl]; exact fL
  have fA : q_I τ wl 421 40 Pa := by rw [hwl]; exact fA
  have hN : qNet τ ad wl 85 n bh wt := by rw [hwl]; exact hN
  have hY : qWay τ ad wl m Wt od := by rw [hwl]; exact hY
  have hfl : (∀ q, (q < 256 ∨ 422 ≤ q) → wl q = w q) := by rw [hwl]; exact hfr0
  have hS : ∃ Sr, q_G τ ad wl 298 40 40 (q_row Sz r Sr) ∧ ∀ a, a < m → Sr a = ((1 + zSx m (zpa m Wt r) a (zpc m (od r) i) m : Nat) : Int) := ⟨_, by rw [hwl]; exact fS, fun a _ => by rw [hi0, zas_0, hv2]; rfl⟩
  have him : i < m := by omega
  clear hi0 hv6 hwl
  generalize H4 = Hl at hWl ⊢
  generalize locs4 = locsl at hWl ⊢
  induction i generalizing v6 ls7 wl Hl locsl with
  | zero =>
    obtain ⟨Sr, fS, hS1⟩ := hS
    obtain ⟨⟨l32, lho, hl32⟩, lhB, lhT⟩ := id hN
    obtain ⟨hyo, ⟨FF, hyF, hyd⟩, OO, hyO, hyo2⟩ := id hY
    refine lv_iload_n F.1 F.2.1 d_Fo_addSizes_22 rfl (lv_at hl7 0 rfl) ?_
    refine q_if_le (tgt := 70) F d_Fo_addSizes_23 (by decide) (fun c23 => ?_) (fun c23 => ?_)
    · exact q_vret F hr hlk hWl ⟨⟨Sr, ⟨fo, fP, fS, fH, fL, fA⟩, fun a ha => by rw [hS1 a ha, zas_end hZ.1 hall hr9 hO ha]⟩, hfl⟩ d_Fo_addSizes_70
    · exact absurd c23 (by omega)
  | succ i ihi =>
    obtain ⟨Sr, fS, hS1⟩ := hS
    obtain ⟨⟨l32, lho, hl32⟩, lhB, lhT⟩ := id hN
    obtain ⟨hyo, ⟨FF, hyF, hyd⟩, OO, hyO, hyo2⟩ := id hY
    refine lv_iload_n F.1 F.2.1 d_Fo_addSizes_22 rfl (lv_at hl7 0 rfl) ?_
    refine q_if_le (tgt := 70) F d_Fo_addSizes_23 (by decide) (fun c23 => ?_) (fun c23 => ?_)
    · exact absurd c23 (by omega)
    · refine lv_aload_n F.1 F.2.1 d_Fo_addSizes_26 rfl (lv_at hl7 2 rfl) ?_
      refine gf_Fo_33 F hWl (by omega) fo d_Fo_addSizes_27 ?_
      refine lv_iload_n F.1 F.2.1 d_Fo_addSizes_30 rfl (lv_at hl7 3 rfl) ?_
      refine lv_iload_n F.1 F.2.1 d_Fo_addSizes_31 rfl (lv_at hl7 0 rfl) ?_
      refine q_calli hWl (q_cV (As := [.int x, .int v6]) (rest := []) F hWl cs_Fo_71 hd_Wa_nearest rfl (by omega) hyo (k_Wa_nearest l D τ A ad N wl hb m hm40 Wt od hY x v6 r (i + 1) hx hiv hr9 (by omega)) rfl rfl ⟨by decide, by decide⟩ rfl hl7.1 rfl (Nat.le_of_ble_eq_true rfl) d_Fo_addSizes_32 ⟨Nat.le_refl _, Nat.le_refl _⟩) (fun v8 w8 H8 locs8 hp8 hW8 => ?_)
      obtain ⟨hq8, hp8⟩ := hp8
      replace hq8 := hq8.symm
      subst hq8
      have hxm := (hO.1 (i + 1) (by omega)).1
      have hxr : od r (i + 1) ≠ r := fun z => by have := zo_inj hO (i + 1) 0 (by omega) (by omega) (by rw [z, hroot]); omega
      obtain ⟨q1, q1e, q1m, -⟩ := T.2.2.1 _ hxm hxr
      have hPx := hPa _ hxm
      have hw := zas_whole hZ.1 hall hr9 hO (show i + 1 < m by omega)
      have hst := zas_step hZ.1 hall hr9 hO (show i + 1 < m by omega) q1e
      have hSx := hS1 _ hxm
      have hSq := hS1 q1 q1m
      have hb1 := zSx_le T hxm (zpc m (od r) (i + 1))
      have hb2 := zSx_le T q1m (zpc m (od r) (i + 1))
      refine lv_istore (lv' := [(4, .int v8), (3, .int v6), (2, .ref (ad (298 + 1 + r))), (0, .ref (ad 256)), (1, .int x)]) F.1 F.2.1 d_Fo_addSizes_35 hl7 (by decide) rfl (fun ls9 hl9 => ?_)
      clear hl7
      refine lv_aload_n F.1 F.2.1 d_Fo_addSizes_37 rfl (lv_at hl9 3 rfl) ?_
      refine gf_Fo_25 F hW8 (by omega) fo d_Fo_addSizes_38 ?_
      refine lv_iload F.1 F.2.1 d_Fo_addSizes_41 (lv_at hl9 0 rfl) ?_
      refine q_iald F hW8 fA (by omega) (od r (i + 1)) (by omega) (by omega) d_Fo_addSizes_43 (fun v10 hv10 => ?_)
      refine q_iconst F d_Fo_addSizes_44 (by decide) (fun v11 hv11 => ?_)
      refine q_icmp_eq (tgt := 64) F d_Fo_addSizes_45 (by decide) (fun c45 => ?_) (fun c45 => ?_)
      · exact absurd c45 (by omega)
      · refine lv_aload_n F.1 F.2.1 d_Fo_addSizes_48 rfl (lv_at hl9 2 rfl) ?_
        refine lv_aload_n F.1 F.2.1 d_Fo_addSizes_49 rfl (lv_at hl9 3 rfl) ?_
        refine gf_Fo_25 F hW8 (by omega) fo d_Fo_addSizes_50 ?_
        refine lv_iload F.1 F.2.1 d_Fo_addSizes_53 (lv_at hl9 0 rfl) ?_
        refine q_iald F hW8 fA (by omega) (od r (i + 1)) (by omega) (by omega) d_Fo_addSizes_55 (fun v12 hv12 => ?_)
        refine lv_dup2_11 F.1 F.2.1 d_Fo_addSizes_56 rfl rfl ?_
        refine q_iald F hW8 (fS.rowI (i := r) (by omega)) (by omega) q1 (by omega) (by omega) d_Fo_addSizes_57 (fun v13 hv13 => ?_)
        refine lv_aload_n F.1 F.2.1 d_Fo_addSizes_58 rfl (lv_at hl9 2 rfl) ?_
        refine lv_iload F.1 F.2.1 d_Fo_addSizes_59 (lv_at hl9 0 rfl) ?_
        refine q_iald F hW8 (fS.rowI (i := r) (by omega)) (by omega) (od r (i + 1)) (by omega) (by omega) d_Fo_addSizes_61 (fun v14 hv14 => ?_)
        refine q_iadd F d_Fo_addSizes_62 (by omega) (fun v15 hv15 => ?_)
        refine q_iast F hW8 (fS.rowI (i := r) (by omega)) (by omega) q1 (by omega) (by omega) d_Fo_addSizes_63 (fun H16 locs16 w16 hW16 hI16 hfr16 => ?_)
        replace fo := (hfr16 _ (by omega)).trans fo
        replace lho := (hfr16 _ (by omega)).trans lho
        replace hyo := (hfr16 _ (by omega)).trans hyo
        replace hN := hN.keep (fun q h1 h2 => hfr16 _ (by omega))
        replace hY := hY.keep (fun q h1 h2 => hfr16 _ (by omega))
        replace fP := fP.keep (fun i hi => hfr16 _ (by omega))
        replace fS := fS.row (by omega) hI16 hfr16
        replace fH := fH.keep (fun i hi => hfr16 _ (by omega))
        replace fL := fL.keep (fun i hi => hfr16 _ (by omega))
        replace fA := fA.keep (hfr16 _ (by omega))
        replace hfl : (∀ q, (q < 256 ∨ 422 ≤ q) → w16 q = w q) := fun q hq => by rw [hfr16 q (by omega)]; exact hfl q hq
        have hnew : ∀ a, a < m → q_up Sr q1 v15.toInt a = ((1 + zSx m (zpa m Wt r) a (zpc m (od r) i) m : Nat) : Int) := by
          intro a ha
          have h1 := (hst a).resolve_right (by omega)
          rw [show i + 1 - 1 = i by omega] at h1
          rw [h1]
          unfold q_up
          by_cases z : a = q1
          · subst z; rw [if_pos rfl, if_pos rfl]; omega
          · rw [if_neg z, if_neg z]; exact hS1 a ha
        refine q_iinc (lv' := fun v17 => [(3, .int v17), (4, .int v8), (2, .ref (ad (298 + 1 + r))), (0, .ref (ad 256)), (1, .int x)]) F d_Fo_addSizes_64 hl9 (k := 1) rfl (by decide) (by omega) (by decide) (fun _ => rfl) (fun v17 lsv17 hv17 hlv17 => ?_)
        clear hl9
        refine lv_goto (tgt := 22) F.1 F.2.1 d_Fo_addSizes_67 (by decide) ?_
        exact ihi (v6 := v17) (ls7 := lsv17) (wl := w16) (Hl := H16) (locsl := locs16) (hiv := by omega) (hWl := hW16) (fo := fo) (fP := fP) (fH := fH) (fL := fL) (fA := fA) (hN := hN) (hY := hY) (hfl := hfl) (hS := ⟨_, fS, hnew⟩) (him := by omega) (hl7 := (lv_sub hlv17 [0, 2, 3, 4] rfl))
