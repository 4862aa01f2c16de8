/-- the class's side of a state -/
def qLR (τ : Nat → ClassId) (ad : Nat → Nat) (w : Nat → va_E) (X : zSt) : Prop := (∃ v0 : Int32, w 0 = .inr (6, [.ref (ad 1), .ref (ad 84), .ref (ad 463), .ref (ad 467), .ref (ad 468), .int v0]) ∧ qb X.bt v0) ∧ qNet τ ad w 1 X.n X.bh X.wt ∧ qSh τ ad w ∧ (X.bt → qSch τ ad w X.n X.bo X.wo X.Wo X.mk) ∧ qPac τ ad w (X.sn % 16) X.pk X.P X.G X.U ∧ (∃ F, q_I τ w 467 40 F) ∧ ∃ F, q_I τ w 468 40 F
theorem qLR.keep {τ : Nat → ClassId} {ad : Nat → Nat} {w w' : Nat → va_E} {X : zSt} (h : qLR τ ad w X) (e : ∀ q, q < 469 → w' q = w q) : qLR τ ad w' X := by
  obtain ⟨⟨v0, h1, h2⟩, h3, h4, h5, h6, ⟨F, h7⟩, G, h8⟩ := h
  exact ⟨⟨v0, by rw [e 0 (by omega)]; exact h1, h2⟩, h3.keep (fun q _ _ => e q (by omega)), h4.keep (fun q _ _ => e q (by omega)), fun b => (h5 b).keep (fun q _ _ => e q (by omega)), h6.keep (fun q _ _ => e q (by omega)), ⟨F, h7.keep (e _ (by omega))⟩, G, h8.keep (e _ (by omega))⟩
theorem zc_cut {P : Nat → Prop} {n m : Nat} (h : ∀ v, P v → v < n) (hm : n ≤ m) : zc P m = zc P n := by
  induction m with
  | zero => rw [show n = 0 by omega]
  | succ m ih =>
    by_cases e : n = m + 1
    · rw [e]
    · rw [zc_f (fun q => by have := h m q; omega)]
      exact ih (by omega)
theorem zc_bits {S n : Nat} {P : Nat → Prop} (h : ∀ v, (S.testBit v = true ↔ P v)) (hl : ∀ v, P v → v < n) (hn : n ≤ 40) : zc (fun i => S.testBit i = true) 40 = zc P n := by
  rw [zc_congr (Q := P) (fun v _ => h v)]
  exact zc_cut hl hn
theorem zc_clus {C n : Nat} {P : Nat → Prop} (h : ∀ v, (C.testBit v = true ↔ v < n ∧ P v)) (hn : n ≤ 40) : zc (fun i => C.testBit i = true) 40 = zc P n := by
  rw [zc_congr (Q := fun v => v < n ∧ P v) (fun v _ => h v), zc_cut (n := n) (fun v q => q.1) hn]
  exact zc_congr (fun v hv => ⟨fun q => q.2, fun q => ⟨hv, q⟩⟩)
theorem zR_edge_set {X : zSt} {a c qa qc : Nat} {z : Int} (ha : a < X.n) (hc : c < X.n) (hac : a ≠ c) (hz : 1 ≤ z) (hz2 : z ≤ 1000) (ea : zp X.bh a c = (qa : Int)) (ec : zp X.bh c a = (qc : Int)) : zR_edge X a c z 0 qa (zs_set X a c qa qc z) := by
  refine Or.inr ⟨⟨⟨by omega, by omega⟩, by omega, by omega⟩, Or.inr ⟨⟨by omega, hz, hz2⟩, Or.inr (Or.inl ⟨rfl, ?_, ?_, ?_⟩)⟩⟩
  · simp only [Int.toNat_natCast]; omega
  · simp only [Int.toNat_natCast]; omega
  · simp only [Int.toNat_natCast]; rw [ea, ec]; rfl
theorem zR_edge_join {X : zSt} {a c qa qc : Nat} {z : Int} (ha : a < X.n) (hc : c < X.n) (hac : a ≠ c) (hz : 1 ≤ z) (hz2 : z ≤ 1000) (h0 : zp X.bh a c = -1) (ea : zp X.bh a (-1) = (qa : Int)) (ec : zp X.bh c (-1) = (qc : Int)) : zR_edge X a c z 0 qa (zs_join X a c qa qc z) := by
  refine Or.inr ⟨⟨⟨by omega, by omega⟩, by omega, by omega⟩, Or.inr ⟨⟨by omega, hz, hz2⟩, Or.inr (Or.inr ⟨rfl, ?_, ?_, ?_, ?_, ?_⟩)⟩⟩
  · simp only [Int.toNat_natCast]; exact h0
  · simp only [Int.toNat_natCast]; omega
  · simp only [Int.toNat_natCast]; omega
  · simp only [Int.toNat_natCast]; omega
  · simp only [Int.toNat_natCast]; rw [ea, ec]; rfl
theorem zR_edge_full {X : zSt} {a c : Nat} {z r : Int} (ha : a < X.n) (hc : c < X.n) (hac : a ≠ c) (hz : 1 ≤ z) (hz2 : z ≤ 1000) (h0 : zp X.bh a c = -1) (h1 : zp X.bh a (-1) = -1 ∨ zp X.bh c (-1) = -1) : zR_edge X a c z 3 r X := by
  refine Or.inr ⟨⟨⟨by omega, by omega⟩, by omega, by omega⟩, Or.inr ⟨⟨by omega, hz, hz2⟩, Or.inl ⟨rfl, rfl, ?_, ?_⟩⟩⟩
  · simp only [Int.toNat_natCast]; exact h0
  · simp only [Int.toNat_natCast]; exact h1
theorem zR_cut_yes {X : zSt} {a c qa qc : Nat} (ha : a < X.n) (hc : c < X.n) (ea : zp X.bh a c = (qa : Int)) (ec : zp X.bh c a = (qc : Int)) : zR_cut X a c 0 (X.Wt a c) (zs_cut X a c qa qc) := by
  refine Or.inr ⟨⟨⟨by omega, by omega⟩, by omega, by omega⟩, Or.inr ⟨rfl, ?_, ?_, ?_⟩⟩
  · simp only [Int.toNat_natCast]; omega
  · simp only [Int.toNat_natCast]
  · simp only [Int.toNat_natCast]; rw [ea, ec]; rfl
section GN
variable {p : Program} {l : Launch} {e : Env} {R : Room} {s : State} {m : MethodId} {args : Array Value} {below : List Frame} {meth : Method} {c : Code} {H : Heap} {locs : List Loc} {cells slots : Nat} {Q : State → Prop}
variable {cc : ByteArray} {nL : Nat} {own : String} {pc : Nat} {ls : Array Slot} {rest : List Value} {D : va_G} {A : Nat → Prop} {τ : Nat → ClassId} {ad : Nat → Nat} {N : Nat} {w : Nat → va_E}
theorem gn_LR_110 (F : CallFix p m c cc nL s args lw_good "LabelRouter") (hW : qW D τ A s H locs ad N w) (hst : qSt A s s.heap) {k : Nat} {v0 v1 v2 v3 v4 : Value} (hk : k < N) (ho : w k = .inr (4, [v0, v1, v2, v3, v4])) (hdg : decode cc pc = .ok (.getfield 110, 3)) (kk : W p l e R s m args below meth c H locs cells slots Q (F0 m (pc + 3) ls (v2 :: rest))) : W p l e R s m args below meth c H locs cells slots Q (F0 m pc ls (.ref (ad k) :: rest)) := q_getN F hW hk ho (C := R_Sc) (T := F_Sc) (n := 5) (host := "LabelRouter") rfl uw_Sc 2 (by decide) (va_Nw.use rfl (hst.2.2.1 (.fieldLinkNest "LabelRouter" 110 "LabelRouter$Scheme" "landmarks" "LLabelRouter$Landmarks;" "LabelRouter") (by decide))) rfl rfl hdg kk
theorem gn_LR_150 (F : CallFix p m c cc nL s args lw_good "LabelRouter") (hW : qW D τ A s H locs ad N w) (hst : qSt A s s.heap) {k : Nat} {v0 v1 v2 v3 v4 : Value} (hk : k < N) (ho : w k = .inr (4, [v0, v1, v2, v3, v4])) (hdg : decode cc pc = .ok (.getfield 150, 3)) (kk : W p l e R s m args below meth c H locs cells slots Q (F0 m (pc + 3) ls (v3 :: rest))) : W p l e R s m args below meth c H locs cells slots Q (F0 m pc ls (.ref (ad k) :: rest)) := q_getN F hW hk ho (C := R_Sc) (T := F_Sc) (n := 5) (host := "LabelRouter") rfl uw_Sc 3 (by decide) (va_Nw.use rfl (hst.2.2.1 (.fieldLinkNest "LabelRouter" 150 "LabelRouter$Scheme" "forest" "LLabelRouter$Forest;" "LabelRouter") (by decide))) rfl rfl hdg kk
end GN
set_option maxHeartbeats 4000000 in
set_option maxRecDepth 100000 in
/-- below a bound -/
theorem k_LR_needBelow (l : Launch) (D : va_G) (τ : Nat → ClassId) (A : Nat → Prop) (ad : Nat → Nat) (N : Nat) (w : Nat → va_E) (hlt : l.stackTraces = false) (x y : Int32) : vx_Met l y_LR_needBelow (qws y_LR_needBelow c_LR_needBelow 3 none) ({ frames := 6, cells := 1, slots := 6, locals := 82 }) (qPx D τ A ad N w [.ref (ad 0), .int x, .int y]) (va_Qv (fun w1 => w1 = w ∧ 0 ≤ x.toInt ∧ x.toInt < y.toInt) (qB D τ A ad N) A) (qXC D τ A ad N (fun E w1 => E = xIO ∧ w1 = w ∧ ¬ (0 ≤ x.toInt ∧ x.toInt < y.toInt))) 1 6 A := by
  refine qx_of (by decide) (Nat.le_of_ble_eq_true rfl) rfl ?_
  intro PP EE s MM below meth CC ls F hr hlk hout hl hW hst
  have hl : lv_has ls 3 [(0, .ref (ad 0)), (1, .int x), (2, .int y)] := hl
  refine lv_iload_n F.1 F.2.1 d_LR_needBelow_0 rfl (lv_at hl 1 rfl) ?_
  refine q_if_lt (tgt := 9) F d_LR_needBelow_1 (by decide) (fun c1 => ?_) (fun c1 => ?_)
  · exact qx_throw F hlt hW hst (cls := xIO) (ik := 198) (ic := 202) (by decide) xa_kIO xa_iIO (text := "there is none with that number") (is := 200) (by decide) (xa_gd xa_in202) xa_bad202 xa_ot202 hl.1 hout hlk (⟨rfl, rfl, by omega⟩) (Nat.le_of_ble_eq_true rfl) (Nat.le_of_ble_eq_true rfl) (Nat.le_of_ble_eq_true rfl) (Nat.le_of_ble_eq_true rfl) (Nat.le_of_ble_eq_true rfl) (Nat.le_of_ble_eq_true rfl) d_LR_needBelow_9 d_LR_needBelow_12 d_LR_needBelow_13 d_LR_needBelow_15 d_LR_needBelow_18
  · refine lv_iload_n F.1 F.2.1 d_LR_needBelow_4 rfl (lv_at hl 1 rfl) ?_
    refine lv_iload_n F.1 F.2.1 d_LR_needBelow_5 rfl (lv_at hl 2 rfl) ?_
    refine q_icmp_lt (tgt := 19) F d_LR_needBelow_6 (by decide) (fun c6 => ?_) (fun c6 => ?_)
    · exact qx_vret F hr hlk hW (⟨rfl, by omega, c6⟩) (Nat.le_of_ble_eq_true rfl) (Nat.le_of_ble_eq_true rfl) d_LR_needBelow_19
    · exact qx_throw F hlt hW hst (cls := xIO) (ik := 198) (ic := 202) (by decide) xa_kIO xa_iIO (text := "there is none with that number") (is := 200) (by decide) (xa_gd xa_in202) xa_bad202 xa_ot202 hl.1 hout hlk (⟨rfl, rfl, by omega⟩) (Nat.le_of_ble_eq_true rfl) (Nat.le_of_ble_eq_true rfl) (Nat.le_of_ble_eq_true rfl) (Nat.le_of_ble_eq_true rfl) (Nat.le_of_ble_eq_true rfl) (Nat.le_of_ble_eq_true rfl) d_LR_needBelow_9 d_LR_needBelow_12 d_LR_needBelow_13 d_LR_needBelow_15 d_LR_needBelow_18
set_option maxHeartbeats 4000000 in
set_option maxRecDepth 100000 in
/-- a node -/
theorem k_LR_needNode (l : Launch) (D : va_G) (τ : Nat → ClassId) (A : Nat → Prop) (ad : Nat → Nat) (N : Nat) (w : Nat → va_E) (hlt : l.stackTraces = false) (hb : 469 ≤ N) (v0 : Int32) (hro : w 0 = .inr (6, [.ref (ad 1), .ref (ad 84), .ref (ad 463), .ref (ad 467), .ref (ad 468), .int v0])) (n : Int) (bh wt : Nat → Nat → Int) (hN : qNet τ ad w 1 n bh wt) (x : Int32) : vx_Met l y_LR_needNode (qws y_LR_needNode c_LR_needNode 2 none) ({ frames := 7, cells := 1, slots := 6, locals := 104 }) (qPx D τ A ad N w [.ref (ad 0), .int x]) (va_Qv (fun w1 => w1 = w ∧ 0 ≤ x.toInt ∧ x.toInt < n) (qB D τ A ad N) A) (qXC D τ A ad N (fun E w1 => E = xIO ∧ w1 = w ∧ ¬ (0 ≤ x.toInt ∧ x.toInt < n))) 1 6 A := by
  refine qx_of (by decide) (Nat.le_of_ble_eq_true rfl) rfl ?_
  intro PP EE s MM below meth CC ls F hr hlk hout hl hW hst
  have hl : lv_has ls 2 [(0, .ref (ad 0)), (1, .int x)] := hl
  obtain ⟨⟨n32, ho, hn32⟩, hB, hT⟩ := id hN
  refine lv_aload_n F.1 F.2.1 d_LR_needNode_0 rfl (lv_at hl 0 rfl) ?_
  refine lv_iload_n F.1 F.2.1 d_LR_needNode_1 rfl (lv_at hl 1 rfl) ?_
  refine lv_aload_n F.1 F.2.1 d_LR_needNode_2 rfl (lv_at hl 0 rfl) ?_
  refine gf_LR_10 F hW (by omega) hro d_LR_needNode_3 ?_
  refine q_calli hW (q_cV (As := []) (rest := [.int x, .ref (ad 0)]) F hW cs_LR_100 hd_Ne_size rfl (by omega) ho (k_Ne_size l D τ A ad N w 1 (by omega) n bh wt hN) rfl rfl ⟨by decide, by decide⟩ rfl hl.1 rfl (Nat.le_of_ble_eq_true rfl) d_LR_needNode_6 ⟨Nat.le_of_ble_eq_true rfl, Nat.le_of_ble_eq_true rfl⟩) (fun v1 w1 H1 locs1 hp1 hW1 => ?_)
  obtain ⟨hq1, hp1⟩ := hp1
  replace hq1 := hq1.symm
  subst hq1
  refine qx_callv hW1 (qx_cV (As := [.int x, .int v1]) (rest := []) F hW1 hst cs_LR_88 hd_LR_needBelow rfl (by omega) hro (k_LR_needBelow l D τ A ad N w hlt x v1) rfl rfl ⟨by decide, by decide⟩ rfl hl.1 rfl (Nat.le_of_ble_eq_true rfl) d_LR_needNode_9 ⟨Nat.le_of_ble_eq_true rfl, Nat.le_of_ble_eq_true rfl⟩) (fun E9 ce9 q9 wx Hx locsx hpx hWx h1x h2x h3x => qx_out hWx hout hlk h1x h2x h3x (by obtain ⟨e1, e2, e3⟩ := hpx; subst e2; subst e1; exact ⟨rfl, rfl, by rw [← hp1]; exact e3⟩) (Nat.le_of_ble_eq_true rfl) (Nat.le_of_ble_eq_true rfl)) (fun w2 H2 locs2 hp2 hW2 => ?_)
  obtain ⟨hq2, hp2⟩ := hp2
  replace hq2 := hq2.symm
  subst hq2
  exact qx_vret F hr hlk hW2 (⟨rfl, hp2.1, by rw [← hp1]; exact hp2.2⟩) (Nat.le_of_ble_eq_true rfl) (Nat.le_of_ble_eq_true rfl) d_LR_needNode_12
set_option maxHeartbeats 4000000 in
set_option maxRecDepth 100000 in
/-- something is built -/
theorem k_LR_needBuilt (l : Launch) (D : va_G) (τ : Nat → ClassId) (A : Nat → Prop) (ad : Nat → Nat) (N : Nat) (w : Nat → va_E) (hlt : l.stackTraces = false) (hb : 469 ≤ N) (v0 : Int32) (hro : w 0 = .inr (6, [.ref (ad 1), .ref (ad 84), .ref (ad 463), .ref (ad 467), .ref (ad 468), .int v0])) (B : Prop) (hB : qb B v0) : vx_Met l y_LR_needBuilt (qws y_LR_needBuilt c_LR_needBuilt 1 none) ({ frames := 6, cells := 1, slots := 6, locals := 82 }) (qPx D τ A ad N w [.ref (ad 0)]) (va_Qv (fun w1 => w1 = w ∧ B) (qB D τ A ad N) A) (qXC D τ A ad N (fun E w1 => E = xIS ∧ w1 = w ∧ ¬ B)) 1 6 A := by
  refine qx_of (by decide) (Nat.le_of_ble_eq_true rfl) rfl ?_
  intro PP EE s MM below meth CC ls F hr hlk hout hl hW hst
  have hl : lv_has ls 1 [(0, .ref (ad 0))] := hl
  refine lv_aload_n F.1 F.2.1 d_LR_needBuilt_0 rfl (lv_at hl 0 rfl) ?_
  refine gf_LR_37 F hW (by omega) hro d_LR_needBuilt_1 ?_
  refine q_if_ne (tgt := 17) F d_LR_needBuilt_4 (by decide) (fun c4 => ?_) (fun c4 => ?_)
  · exact qx_vret F hr hlk hW (⟨rfl, qb_t hB (by omega)⟩) (Nat.le_of_ble_eq_true rfl) (Nat.le_of_ble_eq_true rfl) d_LR_needBuilt_17
  · exact qx_throw F hlt hW hst (cls := xIS) (ik := 67) (ic := 71) (by decide) xa_kIS xa_iIS (text := "nothing is built") (is := 203) (by decide) (xa_gd xa_in71) xa_bad71 xa_ot71 hl.1 hout hlk (⟨rfl, rfl, qb_f hB (by omega)⟩) (Nat.le_of_ble_eq_true rfl) (Nat.le_of_ble_eq_true rfl) (Nat.le_of_ble_eq_true rfl) (Nat.le_of_ble_eq_true rfl) (Nat.le_of_ble_eq_true rfl) (Nat.le_of_ble_eq_true rfl) d_LR_needBuilt_7 d_LR_needBuilt_10 d_LR_needBuilt_11 d_LR_needBuilt_13 d_LR_needBuilt_16
set_option maxHeartbeats 4000000 in
set_option maxRecDepth 100000 in
/-- a packet -/
theorem k_LR_needPacket (l : Launch) (D : va_G) (τ : Nat → ClassId) (A : Nat → Prop) (ad : Nat → Nat) (N : Nat) (w : Nat → va_E) (hlt : l.stackTraces = false) (hb : 469 ≤ N) (v0 : Int32) (hro : w 0 = .inr (6, [.ref (ad 1), .ref (ad 84), .ref (ad 463), .ref (ad 467), .ref (ad 468), .int v0])) (nx ct : Nat) (P G U : Nat → Int) (hP : qPac τ ad w nx ct P G U) (x : Int32) : vx_Met l y_LR_needPacket (qws y_LR_needPacket c_LR_needPacket 2 none) ({ frames := 6, cells := 1, slots := 6, locals := 82 }) (qPx D τ A ad N w [.ref (ad 0), .int x]) (va_Qv (fun w1 => w1 = w ∧ 0 ≤ x.toInt ∧ x.toInt < ct) (qB D τ A ad N) A) (qXC D τ A ad N (fun E w1 => E = xIA ∧ w1 = w ∧ ¬ (0 ≤ x.toInt ∧ x.toInt < ct))) 1 6 A := by
  refine qx_of (by decide) (Nat.le_of_ble_eq_true rfl) rfl ?_
  intro PP EE s MM below meth CC ls F hr hlk hout hl hW hst
  have hl : lv_has ls 2 [(0, .ref (ad 0)), (1, .int x)] := hl
  obtain ⟨⟨a1, a2, hpo, -⟩, -⟩ := id hP
  refine lv_aload_n F.1 F.2.1 d_LR_needPacket_0 rfl (lv_at hl 0 rfl) ?_
  refine gf_LR_26 F hW (by omega) hro d_LR_needPacket_1 ?_
  refine lv_iload_n F.1 F.2.1 d_LR_needPacket_4 rfl (lv_at hl 1 rfl) ?_
  refine q_calli hW (q_cV (As := [.int x]) (rest := []) F hW cs_LR_205 hd_Pa_has rfl (by omega) hpo (k_Pa_has l D τ A ad N w hb nx ct P G U hP x) rfl rfl ⟨by decide, by decide⟩ rfl hl.1 rfl (Nat.le_of_ble_eq_true rfl) d_LR_needPacket_5 ⟨Nat.le_of_ble_eq_true rfl, Nat.le_of_ble_eq_true rfl⟩) (fun v1 w1 H1 locs1 hp1 hW1 => ?_)
  obtain ⟨hq1, hp1⟩ := hp1
  replace hq1 := hq1.symm
  subst hq1
  have hq : qb (0 ≤ x.toInt ∧ x.toInt < ct) v1 := hp1.elim (fun z => Or.inl ⟨⟨z.1, z.2.1⟩, z.2.2⟩) (fun z => Or.inr z)
  refine q_if_ne (tgt := 21) F d_LR_needPacket_8 (by decide) (fun c8 => ?_) (fun c8 => ?_)
  · exact qx_vret F hr hlk hW1 (⟨rfl, qb_t hq (by omega)⟩) (Nat.le_of_ble_eq_true rfl) (Nat.le_of_ble_eq_true rfl) d_LR_needPacket_21
  · exact qx_throw F hlt hW1 hst (cls := xIA) (ik := 41) (ic := 45) (by decide) xa_kIA xa_iIA (text := "there is no such packet") (is := 208) (by decide) (xa_gd xa_in45) xa_bad45 xa_ot45 hl.1 hout hlk (⟨rfl, rfl, qb_f hq (by omega)⟩) (Nat.le_of_ble_eq_true rfl) (Nat.le_of_ble_eq_true rfl) (Nat.le_of_ble_eq_true rfl) (Nat.le_of_ble_eq_true rfl) (Nat.le_of_ble_eq_true rfl) (Nat.le_of_ble_eq_true rfl) d_LR_needPacket_11 d_LR_needPacket_14 d_LR_needPacket_15 d_LR_needPacket_17 d_LR_needPacket_20
set_option maxHeartbeats 4000000 in
set_option maxRecDepth 100000 in
/-- nodes -/
theorem k_LR_nodes (l : Launch) (D : va_G) (τ : Nat → ClassId) (A : Nat → Prop) (ad : Nat → Nat) (N : Nat) (w : Nat → va_E) (hlt : l.stackTraces = false) (hb : 469 ≤ N) (X : zSt) (B : Nat) (hX : qLR τ ad w X) (hO : zOK X B) (hB9 : B ≤ 1000) (x : Int32) : vx_Met l y_LR_nodes (qws y_LR_nodes c_LR_nodes 2 none) ({ frames := 8, cells := 5, slots := 30, locals := 150 }) (qPx D τ A ad N w [.ref (ad 0), .int x]) (va_Qv (fun w1 => ∃ X9, zR_nodes X x.toInt 0 0 X9 ∧ qLR τ ad w1 X9 ∧ (∀ q, 469 ≤ q → w1 q = w q)) (qB D τ A ad N) A) (qXC D τ A ad N (fun E w1 => ((E = xIA ∧ zR_nodes X x.toInt 1 0 X)) ∧ qLR τ ad w1 X ∧ (∀ q, 469 ≤ q → w1 q = w q))) 5 30 A := by
  refine qx_of (by decide) (Nat.le_of_ble_eq_true rfl) rfl ?_
  intro PP EE s MM below meth CC ls F hr hlk hout hl hW hst
  have hl : lv_has ls 2 [(0, .ref (ad 0)), (1, .int x)] := hl
  obtain ⟨⟨v0, hro, hvb⟩, hN, hSh, hSc, hPk, ⟨F1, hF1⟩, F2, hF2⟩ := id hX
  obtain ⟨hm1, hm40, hZ, hBt, hpk16, hpkb, hpk9, hsn⟩ := id hO
  obtain ⟨⟨n32, nho, -⟩, -⟩ := id hN
  obtain ⟨⟨p1, p2, hpo, -⟩, -⟩ := id hPk
  obtain ⟨hso, -⟩ := id hSh
  refine lv_iload_n F.1 F.2.1 d_LR_nodes_0 rfl (lv_at hl 1 rfl) ?_
  refine q_iconst F d_LR_nodes_1 (by decide) (fun v1 hv1 => ?_)
  refine q_icmp_lt (tgt := 11) F d_LR_nodes_2 (by decide) (fun c2 => ?_) (fun c2 => ?_)
  · exact qx_throw F hlt hW hst (cls := xIA) (ik := 41) (ic := 45) (by decide) xa_kIA xa_iIA (text := "n is not 1 .. 40") (is := 43) (by decide) (xa_gd xa_in45) xa_bad45 xa_ot45 hl.1 hout hlk (⟨⟨rfl, Or.inl ⟨rfl, rfl, by omega⟩⟩, hX, fun _ _ => rfl⟩) (Nat.le_of_ble_eq_true rfl) (Nat.le_of_ble_eq_true rfl) (Nat.le_of_ble_eq_true rfl) (Nat.le_of_ble_eq_true rfl) (Nat.le_of_ble_eq_true rfl) (Nat.le_of_ble_eq_true rfl) d_LR_nodes_11 d_LR_nodes_14 d_LR_nodes_15 d_LR_nodes_17 d_LR_nodes_20
  · refine lv_iload_n F.1 F.2.1 d_LR_nodes_5 rfl (lv_at hl 1 rfl) ?_
    refine q_bipush F d_LR_nodes_6 (by decide) (fun v2 hv2 => ?_)
    refine q_icmp_le (tgt := 21) F d_LR_nodes_8 (by decide) (fun c8 => ?_) (fun c8 => ?_)
    · obtain ⟨m9, hm9⟩ : ∃ m9 : Nat, x.toInt = (m9 : Int) := ⟨x.toInt.toNat, by omega⟩
      refine lv_aload_n F.1 F.2.1 d_LR_nodes_21 rfl (lv_at hl 0 rfl) ?_
      refine gf_LR_10 F hW (by omega) hro d_LR_nodes_22 ?_
      refine lv_iload_n F.1 F.2.1 d_LR_nodes_25 rfl (lv_at hl 1 rfl) ?_
      refine q_callv hW (q_cV (As := [.int x]) (rest := []) F hW cs_LR_48 hd_Ne_clear rfl (by omega) nho (k_Ne_clear l D τ A ad N w 1 (by omega) X.n X.bh X.wt hN x) rfl rfl ⟨by decide, by decide⟩ rfl hl.1 rfl (Nat.le_of_ble_eq_true rfl) d_LR_nodes_26 ⟨Nat.le_of_ble_eq_true rfl, Nat.le_of_ble_eq_true rfl⟩) (fun w3 H3 locs3 hp3 hW3 => ?_)
      obtain ⟨hN9, hfr3⟩ := hp3
      replace hro := (hfr3 _ (by omega)).trans hro
      replace hSh := hSh.keep (fun q h1 h2 => hfr3 _ (by omega))
      replace hPk := hPk.keep (fun q h1 h2 => hfr3 _ (by omega))
      replace hF1 := hF1.keep (hfr3 _ (by omega))
      replace hF2 := hF2.keep (hfr3 _ (by omega))
      replace hpo := (hfr3 _ (by omega)).trans hpo
      refine lv_aload_n F.1 F.2.1 d_LR_nodes_29 rfl (lv_at hl 0 rfl) ?_
      refine gf_LR_26 F hW3 (by omega) hro d_LR_nodes_30 ?_
      refine q_callv hW3 (q_cV (As := []) (rest := []) F hW3 cs_LR_52 hd_Pa_clear rfl (by omega) hpo (k_Pa_clear l D τ A ad N w3 hb (X.sn % 16) X.pk X.P X.G X.U hPk) rfl rfl ⟨by decide, by decide⟩ rfl hl.1 rfl (Nat.le_of_ble_eq_true rfl) d_LR_nodes_33 ⟨Nat.le_of_ble_eq_true rfl, Nat.le_of_ble_eq_true rfl⟩) (fun w4 H4 locs4 hp4 hW4 => ?_)
      obtain ⟨hP9, hfr4⟩ := hp4
      replace hro := (hfr4 _ (by omega)).trans hro
      replace hSh := hSh.keep (fun q h1 h2 => hfr4 _ (by omega))
      replace hN9 := hN9.keep (fun q h1 h2 => hfr4 _ (by omega))
      replace hF1 := hF1.keep (hfr4 _ (by omega))
      replace hF2 := hF2.keep (hfr4 _ (by omega))
      refine lv_aload_n F.1 F.2.1 d_LR_nodes_36 rfl (lv_at hl 0 rfl) ?_
      refine q_iconst F d_LR_nodes_37 (by decide) (fun v5 hv5 => ?_)
      refine pf_LR_37 F hW4 (Or.inl (q_eqI.mpr hv5)) (by omega) hro d_LR_nodes_38 (fun H6 locs6 w6 hW6 hI6 hfr6 => ?_)
      replace hro := hI6
      replace hSh := hSh.keep (fun q h1 h2 => hfr6 _ (by omega))
      replace hN9 := hN9.keep (fun q h1 h2 => hfr6 _ (by omega))
      replace hF1 := hF1.keep (hfr6 _ (by omega))
      replace hF2 := hF2.keep (hfr6 _ (by omega))
      replace hP9 := hP9.keep (fun q h1 h2 => hfr6 _ (by omega))
      exact qx_vret F hr hlk hW6 (⟨zs_nodes X m9, by rw [hm9]; exact Or.inr ⟨rfl, by omega, by simp only [Int.toNat_natCast]⟩, ⟨⟨v5, hro, Or.inr ⟨id, q_eqI.mpr hv5⟩⟩, hm9 ▸ hN9, hSh, fun q => absurd q id, hP9, ⟨_, hF1⟩, _, hF2⟩, fun q hq => by rw [hfr6 q (by omega), hfr4 q (by omega), hfr3 q (by omega)]⟩) (Nat.le_of_ble_eq_true rfl) (Nat.le_of_ble_eq_true rfl) d_LR_nodes_41
    · exact qx_throw F hlt hW hst (cls := xIA) (ik := 41) (ic := 45) (by decide) xa_kIA xa_iIA (text := "n is not 1 .. 40") (is := 43) (by decide) (xa_gd xa_in45) xa_bad45 xa_ot45 hl.1 hout hlk (⟨⟨rfl, Or.inl ⟨rfl, rfl, by omega⟩⟩, hX, fun _ _ => rfl⟩) (Nat.le_of_ble_eq_true rfl) (Nat.le_of_ble_eq_true rfl) (Nat.le_of_ble_eq_true rfl) (Nat.le_of_ble_eq_true rfl) (Nat.le_of_ble_eq_true rfl) (Nat.le_of_ble_eq_true rfl) d_LR_nodes_11 d_LR_nodes_14 d_LR_nodes_15 d_LR_nodes_17 d_LR_nodes_20
set_option maxHeartbeats 4000000 in
set_option maxRecDepth 100000 in
/-- edge -/
theorem k_LR_edge (l : Launch) (D : va_G) (τ : Nat → ClassId) (A : Nat → Prop) (ad : Nat → Nat) (N : Nat) (w : Nat → va_E) (hlt : l.stackTraces = false) (hb : 469 ≤ N) (X : zSt) (B : Nat) (hX : qLR τ ad w X) (hO : zOK X B) (hB9 : B ≤ 1000) (x y z : Int32) : vx_Met l y_LR_edge (qws y_LR_edge c_LR_edge 4 (some .int)) ({ frames := 8, cells := 5, slots := 30, locals := 150 }) (qPx D τ A ad N w [.ref (ad 0), .int x, .int y, .int z]) (va_Qi (fun r1 w1 => ∃ X9, zR_edge X x.toInt y.toInt z.toInt 0 r1.toInt X9 ∧ qLR τ ad w1 X9 ∧ (∀ q, 469 ≤ q → w1 q = w q)) (qB D τ A ad N) A) (qXC D τ A ad N (fun E w1 => ((E = xIO ∧ zR_edge X x.toInt y.toInt z.toInt 1 0 X) ∨ (E = xIA ∧ zR_edge X x.toInt y.toInt z.toInt 2 0 X) ∨ (E = xIS ∧ zR_edge X x.toInt y.toInt z.toInt 3 0 X)) ∧ qLR τ ad w1 X ∧ (∀ q, 469 ≤ q → w1 q = w q))) 5 30 A := by
  refine qx_of (by decide) (Nat.le_of_ble_eq_true rfl) rfl ?_
  intro PP EE s MM below meth CC ls F hr hlk hout hl hW hst
  have hl : lv_has ls 4 [(0, .ref (ad 0)), (1, .int x), (2, .int y), (3, .int z)] := hl
  obtain ⟨⟨v0, hro, hvb⟩, hN, hSh, hSc, hPk, ⟨F1, hF1⟩, F2, hF2⟩ := id hX
  obtain ⟨hm1, hm40, hZ, hBt, hpk16, hpkb, hpk9, hsn⟩ := id hO
  obtain ⟨⟨n32, nho, -⟩, -⟩ := id hN
  obtain ⟨⟨p1, p2, hpo, -⟩, -⟩ := id hPk
  obtain ⟨hso, -⟩ := id hSh
  refine lv_aload_n F.1 F.2.1 d_LR_edge_0 rfl (lv_at hl 0 rfl) ?_
  refine lv_iload_n F.1 F.2.1 d_LR_edge_1 rfl (lv_at hl 1 rfl) ?_
  refine qx_callv hW (qx_cV (As := [.int x]) (rest := []) F hW hst cs_LR_54 hd_LR_needNode rfl (by omega) hro (k_LR_needNode l D τ A ad N w hlt hb v0 hro X.n X.bh X.wt hN x) rfl rfl ⟨by decide, by decide⟩ rfl hl.1 rfl (Nat.le_of_ble_eq_true rfl) d_LR_edge_2 ⟨Nat.le_of_ble_eq_true rfl, Nat.le_of_ble_eq_true rfl⟩) (fun E9 ce9 q9 wx Hx locsx hpx hWx h1x h2x h3x => qx_out hWx hout hlk h1x h2x h3x (by obtain ⟨e1, e2, e3⟩ := hpx; subst e2; subst e1; exact ⟨Or.inl (⟨rfl, Or.inl ⟨rfl, rfl, fun q => e3 q.1⟩⟩), hX, fun _ _ => rfl⟩) (Nat.le_of_ble_eq_true rfl) (Nat.le_of_ble_eq_true rfl)) (fun w1 H1 locs1 hp1 hW1 => ?_)
  obtain ⟨hq1, hp1⟩ := hp1
  replace hq1 := hq1.symm
  subst hq1
  refine lv_aload_n F.1 F.2.1 d_LR_edge_5 rfl (lv_at hl 0 rfl) ?_
  refine lv_iload_n F.1 F.2.1 d_LR_edge_6 rfl (lv_at hl 2 rfl) ?_
  refine qx_callv hW1 (qx_cV (As := [.int y]) (rest := []) F hW1 hst cs_LR_54 hd_LR_needNode rfl (by omega) hro (k_LR_needNode l D τ A ad N w hlt hb v0 hro X.n X.bh X.wt hN y) rfl rfl ⟨by decide, by decide⟩ rfl hl.1 rfl (Nat.le_of_ble_eq_true rfl) d_LR_edge_7 ⟨Nat.le_of_ble_eq_true rfl, Nat.le_of_ble_eq_true rfl⟩) (fun E9 ce9 q9 wx Hx locsx hpx hWx h1x h2x h3x => qx_out hWx hout hlk h1x h2x h3x (by obtain ⟨e1, e2, e3⟩ := hpx; subst e2; subst e1; exact ⟨Or.inl (⟨rfl, Or.inl ⟨rfl, rfl, fun q => e3 q.2⟩⟩), hX, fun _ _ => rfl⟩) (Nat.le_of_ble_eq_true rfl) (Nat.le_of_ble_eq_true rfl)) (fun w2 H2 locs2 hp2 hW2 => ?_)
  obtain ⟨hq2, hp2⟩ := hp2
  replace hq2 := hq2.symm
  subst hq2
  obtain ⟨a, hxa⟩ : ∃ a : Nat, x.toInt = (a : Int) := ⟨x.toInt.toNat, by omega⟩
  obtain ⟨c, hyc⟩ : ∃ c : Nat, y.toInt = (c : Int) := ⟨y.toInt.toNat, by omega⟩
  refine lv_iload_n F.1 F.2.1 d_LR_edge_10 rfl (lv_at hl 1 rfl) ?_
  refine lv_iload_n F.1 F.2.1 d_LR_edge_11 rfl (lv_at hl 2 rfl) ?_
  refine q_icmp_eq (tgt := 27) F d_LR_edge_12 (by decide) (fun c12 => ?_) (fun c12 => ?_)
  · exact qx_throw F hlt hW2 hst (cls := xIA) (ik := 41) (ic := 45) (by decide) xa_kIA xa_iIA (text := "no edge can be so") (is := 57) (by decide) (xa_gd xa_in45) xa_bad45 xa_ot45 hl.1 hout hlk (⟨Or.inr (Or.inl (⟨rfl, Or.inr ⟨⟨hp1, hp2⟩, Or.inl ⟨rfl, rfl, by omega⟩⟩⟩)), hX, fun _ _ => rfl⟩) (Nat.le_of_ble_eq_true rfl) (Nat.le_of_ble_eq_true rfl) (Nat.le_of_ble_eq_true rfl) (Nat.le_of_ble_eq_true rfl) (Nat.le_of_ble_eq_true rfl) (Nat.le_of_ble_eq_true rfl) d_LR_edge_27 d_LR_edge_30 d_LR_edge_31 d_LR_edge_33 d_LR_edge_36
  · refine lv_iload_n F.1 F.2.1 d_LR_edge_15 rfl (lv_at hl 3 rfl) ?_
    refine q_iconst F d_LR_edge_16 (by decide) (fun v3 hv3 => ?_)
    refine q_icmp_lt (tgt := 27) F d_LR_edge_17 (by decide) (fun c17 => ?_) (fun c17 => ?_)
    · exact qx_throw F hlt hW2 hst (cls := xIA) (ik := 41) (ic := 45) (by decide) xa_kIA xa_iIA (text := "no edge can be so") (is := 57) (by decide) (xa_gd xa_in45) xa_bad45 xa_ot45 hl.1 hout hlk (⟨Or.inr (Or.inl (⟨rfl, Or.inr ⟨⟨hp1, hp2⟩, Or.inl ⟨rfl, rfl, by omega⟩⟩⟩)), hX, fun _ _ => rfl⟩) (Nat.le_of_ble_eq_true rfl) (Nat.le_of_ble_eq_true rfl) (Nat.le_of_ble_eq_true rfl) (Nat.le_of_ble_eq_true rfl) (Nat.le_of_ble_eq_true rfl) (Nat.le_of_ble_eq_true rfl) d_LR_edge_27 d_LR_edge_30 d_LR_edge_31 d_LR_edge_33 d_LR_edge_36
    · refine lv_iload_n F.1 F.2.1 d_LR_edge_20 rfl (lv_at hl 3 rfl) ?_
      refine q_sipush F d_LR_edge_21 (by decide) (fun v4 hv4 => ?_)
      refine q_icmp_le (tgt := 37) F d_LR_edge_24 (by decide) (fun c24 => ?_) (fun c24 => ?_)
      · refine lv_aload_n F.1 F.2.1 d_LR_edge_37 rfl (lv_at hl 0 rfl) ?_
        refine gf_LR_10 F hW2 (by omega) hro d_LR_edge_38 ?_
        refine lv_iload_n F.1 F.2.1 d_LR_edge_41 rfl (lv_at hl 1 rfl) ?_
        refine lv_iload_n F.1 F.2.1 d_LR_edge_42 rfl (lv_at hl 2 rfl) ?_
        refine q_calli hW2 (q_cV (As := [.int x, .int y]) (rest := []) F hW2 cs_LR_59 hd_Ne_portTo rfl (by omega) nho (k_Ne_portTo l D τ A ad N w 1 (by omega) X.n X.bh X.wt hN x y a hxa (by omega)) rfl rfl ⟨by decide, by decide⟩ rfl hl.1 rfl (Nat.le_of_ble_eq_true rfl) d_LR_edge_43 ⟨Nat.le_of_ble_eq_true rfl, Nat.le_of_ble_eq_true rfl⟩) (fun v5 w5 H5 locs5 hp5 hW5 => ?_)
        obtain ⟨hq5, hp5⟩ := hp5
        replace hq5 := hq5.symm
        subst hq5
        rw [hyc] at hp5
        have hsy := hO.sym (show a < X.n by omega) (show c < X.n by omega)
        refine q_iconst F d_LR_edge_46 (by decide) (fun v6 hv6 => ?_)
        refine q_icmp_ne (tgt := 93) F d_LR_edge_47 (by decide) (fun c47 => ?_) (fun c47 => ?_)
        · have hzc : zp X.bh c (a : Int) ≠ -1 := hsy.mp (by omega)
          obtain ⟨qa, hqa, ea, -⟩ := zp_at (bh := X.bh) (a := a) (b := (c : Int)) (by omega)
          obtain ⟨qc, hqc, ec, -⟩ := zp_at hzc
          have hSc9 : ∀ {w9 : Nat → va_E}, (∀ q, (q < 1 ∨ 1 + 83 ≤ q) → w9 q = w q) → X.bt → qSch τ ad w9 X.n X.bo X.wo X.Wo X.mk := fun e b => (hSc b).keep (fun q _ _ => e q (by omega))
          refine lv_aload_n F.1 F.2.1 d_LR_edge_93 rfl (lv_at hl 0 rfl) ?_
          refine gf_LR_10 F hW5 (by omega) hro d_LR_edge_94 ?_
          refine lv_iload_n F.1 F.2.1 d_LR_edge_97 rfl (lv_at hl 1 rfl) ?_
          refine lv_iload_n F.1 F.2.1 d_LR_edge_98 rfl (lv_at hl 2 rfl) ?_
          refine lv_iload_n F.1 F.2.1 d_LR_edge_99 rfl (lv_at hl 3 rfl) ?_
          refine q_callv hW5 (q_cV (As := [.int x, .int y, .int z]) (rest := []) F hW5 cs_LR_76 hd_Ne_setWeight rfl (by omega) nho (k_Ne_setWeight l D τ A ad N w 1 (by omega) X.n X.bh X.wt hN x y a c hxa hyc (by omega) (by omega) (by omega) qa qc hqa hqc z ea ec) rfl rfl ⟨by decide, by decide⟩ rfl hl.1 rfl (Nat.le_of_ble_eq_true rfl) d_LR_edge_100 ⟨Nat.le_of_ble_eq_true rfl, Nat.le_of_ble_eq_true rfl⟩) (fun w7 H7 locs7 hp7 hW7 => ?_)
          obtain ⟨hN9, hfr7⟩ := hp7
          replace hro := (hfr7 _ (by omega)).trans hro
          replace hSh := hSh.keep (fun q h1 h2 => hfr7 _ (by omega))
          replace hPk := hPk.keep (fun q h1 h2 => hfr7 _ (by omega))
          replace hF1 := hF1.keep (hfr7 _ (by omega))
          replace hF2 := hF2.keep (hfr7 _ (by omega))
          obtain ⟨⟨n33, nho9, -⟩, -⟩ := id hN9
          refine lv_aload_n F.1 F.2.1 d_LR_edge_103 rfl (lv_at hl 0 rfl) ?_
          refine gf_LR_10 F hW7 (by omega) hro d_LR_edge_104 ?_
          refine lv_iload_n F.1 F.2.1 d_LR_edge_107 rfl (lv_at hl 1 rfl) ?_
          refine lv_iload_n F.1 F.2.1 d_LR_edge_108 rfl (lv_at hl 2 rfl) ?_
          refine q_calli hW7 (q_cV (As := [.int x, .int y]) (rest := []) F hW7 cs_LR_59 hd_Ne_portTo rfl (by omega) nho9 (k_Ne_portTo l D τ A ad N w7 1 (by omega) X.n X.bh _ hN9 x y a hxa (by omega)) rfl rfl ⟨by decide, by decide⟩ rfl hl.1 rfl (Nat.le_of_ble_eq_true rfl) d_LR_edge_109 ⟨Nat.le_of_ble_eq_true rfl, Nat.le_of_ble_eq_true rfl⟩) (fun v8 w8 H8 locs8 hp8 hW8 => ?_)
          obtain ⟨hq8, hp8⟩ := hp8
          replace hq8 := hq8.symm
          subst hq8
          rw [hyc, ea] at hp8
          exact qx_iret F hr hlk hW8 (⟨zs_set X a c qa qc z.toInt, by rw [hxa, hyc, hp8]; exact zR_edge_set (by omega) (by omega) (by omega) (by omega) (by omega) ea ec, ⟨⟨v0, hro, hvb⟩, hN9, hSh, hSc9 (fun q hq => by rw [hfr7 q (by omega)]), hPk, ⟨_, hF1⟩, _, hF2⟩, fun q hq => by rw [hfr7 q (by omega)]⟩) (Nat.le_of_ble_eq_true rfl) (Nat.le_of_ble_eq_true rfl) d_LR_edge_112
        · refine lv_aload_n F.1 F.2.1 d_LR_edge_50 rfl (lv_at hl 0 rfl) ?_
          refine gf_LR_10 F hW5 (by omega) hro d_LR_edge_51 ?_
          refine lv_iload_n F.1 F.2.1 d_LR_edge_54 rfl (lv_at hl 1 rfl) ?_
          refine q_calli hW5 (q_cV (As := [.int x]) (rest := []) F hW5 cs_LR_63 hd_Ne_freePort rfl (by omega) nho (k_Ne_freePort l D τ A ad N w 1 (by omega) X.n X.bh X.wt hN x a hxa (by omega)) rfl rfl ⟨by decide, by decide⟩ rfl hl.1 rfl (Nat.le_of_ble_eq_true rfl) d_LR_edge_55 ⟨Nat.le_of_ble_eq_true rfl, Nat.le_of_ble_eq_true rfl⟩) (fun v9 w9 H9 locs9 hp9 hW9 => ?_)
          obtain ⟨hq9, hp9⟩ := hp9
          replace hq9 := hq9.symm
          subst hq9
          refine q_iconst F d_LR_edge_58 (by decide) (fun v10 hv10 => ?_)
          refine q_icmp_eq (tgt := 74) F d_LR_edge_59 (by decide) (fun c59 => ?_) (fun c59 => ?_)
          · exact qx_throw F hlt hW9 hst (cls := xIS) (ik := 67) (ic := 71) (by decide) xa_kIS xa_iIS (text := "a node has no free port") (is := 69) (by decide) (xa_gd xa_in71) xa_bad71 xa_ot71 hl.1 hout hlk (⟨Or.inr (Or.inr (⟨rfl, by rw [hxa, hyc]; exact zR_edge_full (by omega) (by omega) (by omega) (by omega) (by omega) (by omega) (by omega)⟩)), hX, fun _ _ => rfl⟩) (Nat.le_of_ble_eq_true rfl) (Nat.le_of_ble_eq_true rfl) (Nat.le_of_ble_eq_true rfl) (Nat.le_of_ble_eq_true rfl) (Nat.le_of_ble_eq_true rfl) (Nat.le_of_ble_eq_true rfl) d_LR_edge_74 d_LR_edge_77 d_LR_edge_78 d_LR_edge_80 d_LR_edge_83
          · refine lv_aload_n F.1 F.2.1 d_LR_edge_62 rfl (lv_at hl 0 rfl) ?_
            refine gf_LR_10 F hW9 (by omega) hro d_LR_edge_63 ?_
            refine lv_iload_n F.1 F.2.1 d_LR_edge_66 rfl (lv_at hl 2 rfl) ?_
            refine q_calli hW9 (q_cV (As := [.int y]) (rest := []) F hW9 cs_LR_63 hd_Ne_freePort rfl (by omega) nho (k_Ne_freePort l D τ A ad N w 1 (by omega) X.n X.bh X.wt hN y c hyc (by omega)) rfl rfl ⟨by decide, by decide⟩ rfl hl.1 rfl (Nat.le_of_ble_eq_true rfl) d_LR_edge_67 ⟨Nat.le_of_ble_eq_true rfl, Nat.le_of_ble_eq_true rfl⟩) (fun v11 w11 H11 locs11 hp11 hW11 => ?_)
            obtain ⟨hq11, hp11⟩ := hp11
            replace hq11 := hq11.symm
            subst hq11
            refine q_iconst F d_LR_edge_70 (by decide) (fun v12 hv12 => ?_)
            refine q_icmp_ne (tgt := 84) F d_LR_edge_71 (by decide) (fun c71 => ?_) (fun c71 => ?_)
            · obtain ⟨qa, hqa, ea, ea2, ea3⟩ := zp_at (bh := X.bh) (a := a) (b := (-1 : Int)) (by omega)
              obtain ⟨qc, hqc, ec, ec2, ec3⟩ := zp_at (bh := X.bh) (a := c) (b := (-1 : Int)) (by omega)
              have hSc9 : ∀ {w9 : Nat → va_E}, (∀ q, (q < 1 ∨ 1 + 83 ≤ q) → w9 q = w q) → X.bt → qSch τ ad w9 X.n X.bo X.wo X.Wo X.mk := fun e b => (hSc b).keep (fun q _ _ => e q (by omega))
              have hz1 : zp X.bh a (c : Int) = -1 := by omega
              have hz2 : zp X.bh c (a : Int) = -1 := by by_cases e : zp X.bh c (a : Int) = -1; exact e; exact absurd hz1 (hsy.mpr e)
              have hac : a ≠ c := by omega
              have ea9 : zp (q_up2 (q_up2 X.bh a qa c) c qc a) a (c : Int) = (qa : Int) := zp_is hqa (by rw [q_up2_x hac, if_pos ⟨rfl, rfl⟩]) (fun p hp => by rw [q_up2_x hac, if_neg (by omega), if_neg (by omega)]; exact zp_none hz1 (by omega))
              have ec9 : zp (q_up2 (q_up2 X.bh a qa c) c qc a) c (a : Int) = (qc : Int) := zp_is hqc (by rw [q_up2_x hac, if_neg (by omega), if_pos ⟨rfl, rfl⟩]) (fun p hp => by rw [q_up2_x hac, if_neg (by omega), if_neg (by omega)]; exact zp_none hz2 (by omega))
              refine lv_aload_n F.1 F.2.1 d_LR_edge_84 rfl (lv_at hl 0 rfl) ?_
              refine gf_LR_10 F hW11 (by omega) hro d_LR_edge_85 ?_
              refine lv_iload_n F.1 F.2.1 d_LR_edge_88 rfl (lv_at hl 1 rfl) ?_
              refine lv_iload_n F.1 F.2.1 d_LR_edge_89 rfl (lv_at hl 2 rfl) ?_
              refine q_callv hW11 (q_cV (As := [.int x, .int y]) (rest := []) F hW11 cs_LR_72 hd_Ne_join rfl (by omega) nho (k_Ne_join l D τ A ad N w 1 (by omega) X.n X.bh X.wt hN x y a c hxa hyc (by omega) (by omega) hac qa qc hqa hqc ea ec) rfl rfl ⟨by decide, by decide⟩ rfl hl.1 rfl (Nat.le_of_ble_eq_true rfl) d_LR_edge_90 ⟨Nat.le_of_ble_eq_true rfl, Nat.le_of_ble_eq_true rfl⟩) (fun w13 H13 locs13 hp13 hW13 => ?_)
              obtain ⟨hN8, hfr13⟩ := hp13
              replace hro := (hfr13 _ (by omega)).trans hro
              replace hSh := hSh.keep (fun q h1 h2 => hfr13 _ (by omega))
              replace hPk := hPk.keep (fun q h1 h2 => hfr13 _ (by omega))
              replace hF1 := hF1.keep (hfr13 _ (by omega))
              replace hF2 := hF2.keep (hfr13 _ (by omega))
              obtain ⟨⟨n34, nho8, -⟩, -⟩ := id hN8
              refine lv_aload_n F.1 F.2.1 d_LR_edge_93 rfl (lv_at hl 0 rfl) ?_
              refine gf_LR_10 F hW13 (by omega) hro d_LR_edge_94 ?_
              refine lv_iload_n F.1 F.2.1 d_LR_edge_97 rfl (lv_at hl 1 rfl) ?_
              refine lv_iload_n F.1 F.2.1 d_LR_edge_98 rfl (lv_at hl 2 rfl) ?_
              refine lv_iload_n F.1 F.2.1 d_LR_edge_99 rfl (lv_at hl 3 rfl) ?_
              refine q_callv hW13 (q_cV (As := [.int x, .int y, .int z]) (rest := []) F hW13 cs_LR_76 hd_Ne_setWeight rfl (by omega) nho8 (k_Ne_setWeight l D τ A ad N w13 1 (by omega) X.n (q_up2 (q_up2 X.bh a qa c) c qc a) (q_up2 (q_up2 X.wt a qa 0) c qc 0) hN8 x y a c hxa hyc (by omega) (by omega) (by omega) qa qc hqa hqc z ea9 ec9) rfl rfl ⟨by decide, by decide⟩ rfl hl.1 rfl (Nat.le_of_ble_eq_true rfl) d_LR_edge_100 ⟨Nat.le_of_ble_eq_true rfl, Nat.le_of_ble_eq_true rfl⟩) (fun w14 H14 locs14 hp14 hW14 => ?_)
              obtain ⟨hN9, hfr14⟩ := hp14
              replace hro := (hfr14 _ (by omega)).trans hro
              replace hSh := hSh.keep (fun q h1 h2 => hfr14 _ (by omega))
              replace hPk := hPk.keep (fun q h1 h2 => hfr14 _ (by omega))
              replace hF1 := hF1.keep (hfr14 _ (by omega))
              replace hF2 := hF2.keep (hfr14 _ (by omega))
              obtain ⟨⟨n33, nho9, -⟩, -⟩ := id hN9
              refine lv_aload_n F.1 F.2.1 d_LR_edge_103 rfl (lv_at hl 0 rfl) ?_
              refine gf_LR_10 F hW14 (by omega) hro d_LR_edge_104 ?_
              refine lv_iload_n F.1 F.2.1 d_LR_edge_107 rfl (lv_at hl 1 rfl) ?_
              refine lv_iload_n F.1 F.2.1 d_LR_edge_108 rfl (lv_at hl 2 rfl) ?_
              refine q_calli hW14 (q_cV (As := [.int x, .int y]) (rest := []) F hW14 cs_LR_59 hd_Ne_portTo rfl (by omega) nho9 (k_Ne_portTo l D τ A ad N w14 1 (by omega) X.n (q_up2 (q_up2 X.bh a qa c) c qc a) _ hN9 x y a hxa (by omega)) rfl rfl ⟨by decide, by decide⟩ rfl hl.1 rfl (Nat.le_of_ble_eq_true rfl) d_LR_edge_109 ⟨Nat.le_of_ble_eq_true rfl, Nat.le_of_ble_eq_true rfl⟩) (fun v15 w15 H15 locs15 hp15 hW15 => ?_)
              obtain ⟨hq15, hp15⟩ := hp15
              replace hq15 := hq15.symm
              subst hq15
              rw [hyc, ea9] at hp15
              exact qx_iret F hr hlk hW15 (⟨zs_join X a c qa qc z.toInt, by rw [hxa, hyc, hp15]; exact zR_edge_join (by omega) (by omega) hac (by omega) (by omega) hz1 ea ec, ⟨⟨v0, hro, hvb⟩, hN9, hSh, hSc9 (fun q hq => by rw [hfr14 q (by omega), hfr13 q (by omega)]), hPk, ⟨_, hF1⟩, _, hF2⟩, fun q hq => by rw [hfr14 q (by omega), hfr13 q (by omega)]⟩) (Nat.le_of_ble_eq_true rfl) (Nat.le_of_ble_eq_true rfl) d_LR_edge_112
            · exact qx_throw F hlt hW11 hst (cls := xIS) (ik := 67) (ic := 71) (by decide) xa_kIS xa_iIS (text := "a node has no free port") (is := 69) (by decide) (xa_gd xa_in71) xa_bad71 xa_ot71 hl.1 hout hlk (⟨Or.inr (Or.inr (⟨rfl, by rw [hxa, hyc]; exact zR_edge_full (by omega) (by omega) (by omega) (by omega) (by omega) (by omega) (by omega)⟩)), hX, fun _ _ => rfl⟩) (Nat.le_of_ble_eq_true rfl) (Nat.le_of_ble_eq_true rfl) (Nat.le_of_ble_eq_true rfl) (Nat.le_of_ble_eq_true rfl) (Nat.le_of_ble_eq_true rfl) (Nat.le_of_ble_eq_true rfl) d_LR_edge_74 d_LR_edge_77 d_LR_edge_78 d_LR_edge_80 d_LR_edge_83
      · exact qx_throw F hlt hW2 hst (cls := xIA) (ik := 41) (ic := 45) (by decide) xa_kIA xa_iIA (text := "no edge can be so") (is := 57) (by decide) (xa_gd xa_in45) xa_bad45 xa_ot45 hl.1 hout hlk (⟨Or.inr (Or.inl (⟨rfl, Or.inr ⟨⟨hp1, hp2⟩, Or.inl ⟨rfl, rfl, by omega⟩⟩⟩)), hX, fun _ _ => rfl⟩) (Nat.le_of_ble_eq_true rfl) (Nat.le_of_ble_eq_true rfl) (Nat.le_of_ble_eq_true rfl) (Nat.le_of_ble_eq_true rfl) (Nat.le_of_ble_eq_true rfl) (Nat.le_of_ble_eq_true rfl) d_LR_edge_27 d_LR_edge_30 d_LR_edge_31 d_LR_edge_33 d_LR_edge_36
