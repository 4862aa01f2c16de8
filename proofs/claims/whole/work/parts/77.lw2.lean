/-! the law's cases -/
/-- what stands at the head of the law's loop -/
def lwS (D : va_G) (τ : Nat → ClassId) (A : Nat → Prop) (s : State) (ad : Nat → Nat) (b : Nat) (H : Heap) (locs : List Loc) (w : Nat → va_E) (X : zSt) (B : Nat) (iv : Int32) (ls : Array Slot) : Prop := qW D τ A s H locs ad 485 w ∧ qLR τ ad w X ∧ (∃ t0, qMo τ ad w X t0) ∧ zOK X B ∧ (∃ g0, q_O τ w 484 g0) ∧ lv_has ls 7 [(4, .int iv), (3, .ref (ad 484)), (2, .ref (ad 469)), (1, .ref (ad 0)), (0, .ref b)]
section QLC
variable {p : Program} {l : Launch} {e : Env} {s : State} {m : MethodId} {below : List Frame} {meth : Method} {c : Code} {H : Heap} {locs : List Loc} {cells slots : Nat} {Q : State → Prop} {ls : Array Slot} {D : va_G} {A : Nat → Prop} {τ : Nat → ClassId} {ad : Nat → Nat} {w : Nat → va_E} {b L : Nat} {xs : Nat → Int32} {X : zSt} {B : Nat} {iv : Int32}
set_option maxHeartbeats 4000000 in
set_option maxRecDepth 100000 in
theorem lwc_nodes (F : CallFix p m c code 7 s #[Value.ref b] lw_good "LabelRouterLaw") (hlt : l.stackTraces = false) (hst : qSt A s s.heap) (hXs : va_X b L xs s s.heap) (hbl : b < s.heap.size) (hbA : ¬ A b) (hL : L ≤ 2048) (hS : lwS D τ A s ad b H locs w X B iv ls) (hB : B ≤ 600) (i : Nat) (hiv : iv.toInt = (i : Int)) (hi : i + 4 ≤ L) (hc : cells + 5 ≤ 601024) (hs : slots + 30 ≤ 7293034)
    (kk : ∀ (H1 : Heap) (locs1 : List Loc) (w1 : Nat → va_E) (X1 : zSt) (ls1 : Array Slot), lwS D τ A s ad b H1 locs1 w1 X1 (B + 1) iv ls1 → W p l e room_1 s m #[Value.ref b] below meth c H1 locs1 (cells + 5) (slots + 30) Q (F0 m 1088 ls1 [])) :
    W p l e room_1 s m #[Value.ref b] below meth c H locs cells slots Q (F0 m 112 ls []) := by
  obtain ⟨hW, hX, ⟨t0, hM⟩, hO, ⟨g0, hU⟩, hl⟩ := hS
  refine lv_aload_n F.1 F.2.1 d_Lw_law_112 rfl (lv_at hl 3 rfl) ?_
  refine lv_aload_n F.1 F.2.1 d_Lw_law_113 rfl (lv_at hl 4 rfl) ?_
  refine lv_iload F.1 F.2.1 d_Lw_law_114 (lv_at hl 0 rfl) ?_
  refine q_iconst F d_Lw_law_116 (by decide) (fun v1 hv1 => ?_)
  refine q_iadd F d_Lw_law_117 (by omega) (fun v2 hv2 => ?_)
  refine q_sld F hXs hbl hbA hW (i + 1) (by omega) (by omega) d_Lw_law_118 ?_
  refine q_calli hW (qw_cS (As := [.ref (ad 0), .int (xs (i + 1))]) (rest := []) F hW hst cw_Lw_nodes hs_Lw_nodes (k_Lw_nodes l D τ A ad 485 w hlt (Nat.le_refl 485) X B hX hO (by omega) (xs (i + 1))) rfl rfl ⟨by decide, by decide⟩ rfl hl.1 rfl (Nat.le_of_ble_eq_true rfl) d_Lw_law_119 ⟨by show cells + 5 ≤ 601024; omega, by show slots + 30 ≤ 7293034; omega⟩) (fun v3 w3 H3 locs3 hp3 hW3 => ?_)
  obtain ⟨X9, hrel, hX9, hfr⟩ := hp3
  have hM1 := hM.keep (w' := w3) (fun q h1 h2 => hfr q h1)
  have hU9 := hU.keep (w' := w3) (hfr 484 (by omega))
  obtain ⟨⟨th0, n0, b0, s0, p0, hmo, -⟩, -⟩ := id hM1
  refine lv_istore (lv' := [(5, .int v3), (4, .int iv), (3, .ref (ad 484)), (2, .ref (ad 469)), (1, .ref (ad 0)), (0, .ref b)]) F.1 F.2.1 d_Lw_law_122 hl (by decide) rfl (fun ls4 hl4 => ?_)
  clear hl
  refine lv_aload_n F.1 F.2.1 d_Lw_law_124 rfl (lv_at hl4 3 rfl) ?_
  refine lv_aload_n F.1 F.2.1 d_Lw_law_125 rfl (lv_at hl4 5 rfl) ?_
  refine lv_iload F.1 F.2.1 d_Lw_law_126 (lv_at hl4 1 rfl) ?_
  refine q_iconst F d_Lw_law_128 (by decide) (fun v5 hv5 => ?_)
  refine q_iadd F d_Lw_law_129 (by omega) (fun v6 hv6 => ?_)
  refine q_sld F hXs hbl hbA hW3 (i + 1) (by omega) (by omega) d_Lw_law_130 ?_
  refine q_callv hW3 (q_cV (As := [.int (xs (i + 1))]) (rest := []) F hW3 cs_Lw_73 hd_Mo_nodes rfl (by omega) hmo (k_Mo_nodes l D τ A ad 485 w3 (by omega) X B t0 hM1 hO (by omega) (xs (i + 1))) rfl rfl ⟨by decide, by decide⟩ rfl hl4.1 rfl (Nat.le_of_ble_eq_true rfl) d_Lw_law_131 ⟨by show cells + 5 + 0 ≤ 601024; omega, by show slots + 30 + 0 ≤ 7293034; omega⟩) (fun w7 H7 locs7 hp7 hW7 => ?_)
  obtain ⟨kk2, X8, hrel2, hM2, hfr2⟩ := hp7
  obtain ⟨e1, e3⟩ := zU_nodes hrel hrel2
  subst e3
  have hX2 := hX9.keep (w' := w7) (fun q hq => hfr2 q (by omega))
  have hU2 := hU9.keep (w' := w7) (hfr2 484 (by omega))
  have hO2 := zK_nodes hO hrel
  obtain ⟨⟨th1, n1, b1, s1, p1, hmo1, hth, hn1, -⟩, -⟩ := id hM2
  refine lv_aload_n F.1 F.2.1 d_Lw_law_134 rfl (lv_at hl4 3 rfl) ?_
  refine q_calli hW7 (q_cV (As := []) (rest := []) F hW7 cs_Lw_74 hd_Mo_thrown rfl (by omega) hmo1 (k_Mo_thrown l D τ A ad 485 w7 (by omega) th1 n1 b1 s1 p1 hmo1 X9.n hn1 hO2.2.1) rfl rfl ⟨by decide, by decide⟩ rfl hl4.1 rfl (Nat.le_of_ble_eq_true rfl) d_Lw_law_135 ⟨by show cells + 5 + 0 + 0 ≤ 601024; omega, by show slots + 30 + 0 + 0 ≤ 7293034; omega⟩) (fun v8 w8 H8 locs8 hp8 hW8 => ?_)
  obtain ⟨hq3, rfl⟩ := hp8
  replace hq3 := hq3.symm
  subst hq3
  refine lv_iload F.1 F.2.1 d_Lw_law_138 (lv_at hl4 0 rfl) ?_
  refine q_icmp_eq (tgt := 145) F d_Lw_law_140 (by decide) (fun c9 => ?_) (fun c9 => ?_)
  · refine lv_goto (tgt := 1088) F.1 F.2.1 d_Lw_law_145 (by decide) ?_
    exact kk _ _ _ X9 _ ⟨hW8, hX2, ⟨_, hM2⟩, hO2, ⟨_, hU2⟩, (lv_sub hl4 [1, 2, 3, 4, 5] rfl)⟩
  · exact absurd (hth.trans e1.symm) (by omega)
set_option maxHeartbeats 4000000 in
set_option maxRecDepth 100000 in
theorem lwc_edge (F : CallFix p m c code 7 s #[Value.ref b] lw_good "LabelRouterLaw") (hlt : l.stackTraces = false) (hst : qSt A s s.heap) (hXs : va_X b L xs s s.heap) (hbl : b < s.heap.size) (hbA : ¬ A b) (hL : L ≤ 2048) (hS : lwS D τ A s ad b H locs w X B iv ls) (hB : B ≤ 600) (i : Nat) (hiv : iv.toInt = (i : Int)) (hi : i + 4 ≤ L) (hc : cells + 5 ≤ 601024) (hs : slots + 30 ≤ 7293034)
    (kk : ∀ (H1 : Heap) (locs1 : List Loc) (w1 : Nat → va_E) (X1 : zSt) (ls1 : Array Slot), lwS D τ A s ad b H1 locs1 w1 X1 (B + 1) iv ls1 → W p l e room_1 s m #[Value.ref b] below meth c H1 locs1 (cells + 5) (slots + 30) Q (F0 m 1088 ls1 [])) :
    W p l e room_1 s m #[Value.ref b] below meth c H locs cells slots Q (F0 m 148 ls []) := by
  obtain ⟨hW, hX, ⟨t0, hM⟩, hO, ⟨g0, hU⟩, hl⟩ := hS
  refine lv_aload_n F.1 F.2.1 d_Lw_law_148 rfl (lv_at hl 3 rfl) ?_
  refine lv_aload_n F.1 F.2.1 d_Lw_law_149 rfl (lv_at hl 4 rfl) ?_
  refine lv_iload F.1 F.2.1 d_Lw_law_150 (lv_at hl 0 rfl) ?_
  refine q_iconst F d_Lw_law_152 (by decide) (fun v1 hv1 => ?_)
  refine q_iadd F d_Lw_law_153 (by omega) (fun v2 hv2 => ?_)
  refine q_sld F hXs hbl hbA hW (i + 1) (by omega) (by omega) d_Lw_law_154 ?_
  refine lv_aload_n F.1 F.2.1 d_Lw_law_155 rfl (lv_at hl 4 rfl) ?_
  refine lv_iload F.1 F.2.1 d_Lw_law_156 (lv_at hl 0 rfl) ?_
  refine q_iconst F d_Lw_law_158 (by decide) (fun v3 hv3 => ?_)
  refine q_iadd F d_Lw_law_159 (by omega) (fun v4 hv4 => ?_)
  refine q_sld F hXs hbl hbA hW (i + 2) (by omega) (by omega) d_Lw_law_160 ?_
  refine lv_aload_n F.1 F.2.1 d_Lw_law_161 rfl (lv_at hl 4 rfl) ?_
  refine lv_iload F.1 F.2.1 d_Lw_law_162 (lv_at hl 0 rfl) ?_
  refine q_iconst F d_Lw_law_164 (by decide) (fun v5 hv5 => ?_)
  refine q_iadd F d_Lw_law_165 (by omega) (fun v6 hv6 => ?_)
  refine q_sld F hXs hbl hbA hW (i + 3) (by omega) (by omega) d_Lw_law_166 ?_
  refine lv_aload_n F.1 F.2.1 d_Lw_law_167 rfl (lv_at hl 1 rfl) ?_
  refine q_calli hW (qw_cS (As := [.ref (ad 0), .int (xs (i + 1)), .int (xs (i + 2)), .int (xs (i + 3)), .ref (ad 484)]) (rest := []) F hW hst cw_Lw_edge hs_Lw_edge (k_Lw_edge l D τ A ad 485 w hlt (Nat.le_refl 485) X B hX hO (by omega) (xs (i + 1)) (xs (i + 2)) (xs (i + 3)) g0 hU) rfl rfl ⟨by decide, by decide⟩ rfl hl.1 rfl (Nat.le_of_ble_eq_true rfl) d_Lw_law_168 ⟨by show cells + 5 ≤ 601024; omega, by show slots + 30 ≤ 7293034; omega⟩) (fun v7 w7 H7 locs7 hp7 hW7 => ?_)
  obtain ⟨r, X9, g9, hrel, hX9, hU9, hr9, hfr⟩ := hp7
  have hM1 := hM.keep (w' := w7) (fun q h1 h2 => hfr q h1 (by omega))
  obtain ⟨⟨th0, n0, b0, s0, p0, hmo, -⟩, -⟩ := id hM1
  refine lv_istore (lv' := [(5, .int v7), (4, .int iv), (3, .ref (ad 484)), (2, .ref (ad 469)), (1, .ref (ad 0)), (0, .ref b)]) F.1 F.2.1 d_Lw_law_171 hl (by decide) rfl (fun ls8 hl8 => ?_)
  clear hl
  refine lv_aload_n F.1 F.2.1 d_Lw_law_173 rfl (lv_at hl8 3 rfl) ?_
  refine lv_aload_n F.1 F.2.1 d_Lw_law_174 rfl (lv_at hl8 5 rfl) ?_
  refine lv_iload F.1 F.2.1 d_Lw_law_175 (lv_at hl8 1 rfl) ?_
  refine q_iconst F d_Lw_law_177 (by decide) (fun v9 hv9 => ?_)
  refine q_iadd F d_Lw_law_178 (by omega) (fun v10 hv10 => ?_)
  refine q_sld F hXs hbl hbA hW7 (i + 1) (by omega) (by omega) d_Lw_law_179 ?_
  refine lv_aload_n F.1 F.2.1 d_Lw_law_180 rfl (lv_at hl8 5 rfl) ?_
  refine lv_iload F.1 F.2.1 d_Lw_law_181 (lv_at hl8 1 rfl) ?_
  refine q_iconst F d_Lw_law_183 (by decide) (fun v11 hv11 => ?_)
  refine q_iadd F d_Lw_law_184 (by omega) (fun v12 hv12 => ?_)
  refine q_sld F hXs hbl hbA hW7 (i + 2) (by omega) (by omega) d_Lw_law_185 ?_
  refine lv_aload_n F.1 F.2.1 d_Lw_law_186 rfl (lv_at hl8 5 rfl) ?_
  refine lv_iload F.1 F.2.1 d_Lw_law_187 (lv_at hl8 1 rfl) ?_
  refine q_iconst F d_Lw_law_189 (by decide) (fun v13 hv13 => ?_)
  refine q_iadd F d_Lw_law_190 (by omega) (fun v14 hv14 => ?_)
  refine q_sld F hXs hbl hbA hW7 (i + 3) (by omega) (by omega) d_Lw_law_191 ?_
  refine q_calli hW7 (q_cV (As := [.int (xs (i + 1)), .int (xs (i + 2)), .int (xs (i + 3))]) (rest := []) F hW7 cs_Lw_81 hd_Mo_edge rfl (by omega) hmo (k_Mo_edge l D τ A ad 485 w7 (by omega) X B t0 hM1 hO (by omega) (xs (i + 1)) (xs (i + 2)) (xs (i + 3))) rfl rfl ⟨by decide, by decide⟩ rfl hl8.1 rfl (Nat.le_of_ble_eq_true rfl) d_Lw_law_192 ⟨by show cells + 5 + 0 ≤ 601024; omega, by show slots + 30 + 0 ≤ 7293034; omega⟩) (fun v15 w15 H15 locs15 hp15 hW15 => ?_)
  obtain ⟨kk2, X8, hrel2, hM2, hfr2⟩ := hp15
  obtain ⟨e1, e2, e3⟩ := zU_edge hrel hrel2
  subst e3
  have hX2 := hX9.keep (w' := w15) (fun q hq => hfr2 q (by omega))
  have hU2 := hU9.keep (w' := w15) (hfr2 484 (by omega))
  have hO2 := zK_edge hO hrel
  obtain ⟨⟨th1, n1, b1, s1, p1, hmo1, hth, hn1, -⟩, -⟩ := id hM2
  refine lv_istore (lv' := [(6, .int v15), (5, .int v7), (4, .int iv), (3, .ref (ad 484)), (2, .ref (ad 469)), (1, .ref (ad 0)), (0, .ref b)]) F.1 F.2.1 d_Lw_law_195 hl8 (by decide) rfl (fun ls16 hl16 => ?_)
  clear hl8
  refine lv_aload_n F.1 F.2.1 d_Lw_law_197 rfl (lv_at hl16 4 rfl) ?_
  refine q_calli hW15 (q_cV (As := []) (rest := []) F hW15 cs_Lw_74 hd_Mo_thrown rfl (by omega) hmo1 (k_Mo_thrown l D τ A ad 485 w15 (by omega) th1 n1 b1 s1 p1 hmo1 X9.n hn1 hO2.2.1) rfl rfl ⟨by decide, by decide⟩ rfl hl16.1 rfl (Nat.le_of_ble_eq_true rfl) d_Lw_law_198 ⟨by show cells + 5 + 0 + 0 ≤ 601024; omega, by show slots + 30 + 0 + 0 ≤ 7293034; omega⟩) (fun v17 w17 H17 locs17 hp17 hW17 => ?_)
  obtain ⟨hq3, rfl⟩ := hp17
  replace hq3 := hq3.symm
  subst hq3
  refine lv_iload F.1 F.2.1 d_Lw_law_201 (lv_at hl16 1 rfl) ?_
  refine q_icmp_eq (tgt := 208) F d_Lw_law_203 (by decide) (fun c18 => ?_) (fun c18 => ?_)
  · refine lv_iload F.1 F.2.1 d_Lw_law_208 (lv_at hl16 1 rfl) ?_
    refine q_if_ne (tgt := 225) F d_Lw_law_210 (by decide) (fun c19 => ?_) (fun c19 => ?_)
    · refine lv_goto (tgt := 1088) F.1 F.2.1 d_Lw_law_225 (by decide) ?_
      exact kk _ _ _ X9 _ ⟨hW17, hX2, ⟨_, hM2⟩, hO2, ⟨_, hU2⟩, (lv_sub hl16 [2, 3, 4, 5, 6] rfl)⟩
    · obtain ⟨r32, er, er2⟩ := hr9 (by omega)
      refine lv_aload_n F.1 F.2.1 d_Lw_law_213 rfl (lv_at hl16 3 rfl) ?_
      refine q_iconst F d_Lw_law_214 (by decide) (fun v20 hv20 => ?_)
      refine q_laldO F hW17 hU2 (by omega) (by omega) d_Lw_law_215 ?_
      refine lv_iload F.1 F.2.1 d_Lw_law_216 (lv_at hl16 0 rfl) ?_
      refine lv_i2l F.1 F.2.1 d_Lw_law_218 rfl ?_
      refine q_lcmpE F (by rw [er]; congr 1; exact q_eqI.mpr (by rw [er2]; exact e2 (by omega))) d_Lw_law_219 (fun vz hvz => ?_)
      refine q_if_eq (tgt := 225) F d_Lw_law_220 (by decide) (fun c21 => ?_) (fun c21 => ?_)
      · refine lv_goto (tgt := 1088) F.1 F.2.1 d_Lw_law_225 (by decide) ?_
        exact kk _ _ _ X9 _ ⟨hW17, hX2, ⟨_, hM2⟩, hO2, ⟨_, hU2⟩, (lv_sub hl16 [2, 3, 4, 5, 6] rfl)⟩
      · exact absurd hvz (by assumption)
  · exact absurd (hth.trans e1.symm) (by omega)
set_option maxHeartbeats 4000000 in
set_option maxRecDepth 100000 in
theorem lwc_cut (F : CallFix p m c code 7 s #[Value.ref b] lw_good "LabelRouterLaw") (hlt : l.stackTraces = false) (hst : qSt A s s.heap) (hXs : va_X b L xs s s.heap) (hbl : b < s.heap.size) (hbA : ¬ A b) (hL : L ≤ 2048) (hS : lwS D τ A s ad b H locs w X B iv ls) (hB : B ≤ 600) (i : Nat) (hiv : iv.toInt = (i : Int)) (hi : i + 4 ≤ L) (hc : cells + 5 ≤ 601024) (hs : slots + 30 ≤ 7293034)
    (kk : ∀ (H1 : Heap) (locs1 : List Loc) (w1 : Nat → va_E) (X1 : zSt) (ls1 : Array Slot), lwS D τ A s ad b H1 locs1 w1 X1 (B + 1) iv ls1 → W p l e room_1 s m #[Value.ref b] below meth c H1 locs1 (cells + 5) (slots + 30) Q (F0 m 1088 ls1 [])) :
    W p l e room_1 s m #[Value.ref b] below meth c H locs cells slots Q (F0 m 228 ls []) := by
  obtain ⟨hW, hX, ⟨t0, hM⟩, hO, ⟨g0, hU⟩, hl⟩ := hS
  refine lv_aload_n F.1 F.2.1 d_Lw_law_228 rfl (lv_at hl 3 rfl) ?_
  refine lv_aload_n F.1 F.2.1 d_Lw_law_229 rfl (lv_at hl 4 rfl) ?_
  refine lv_iload F.1 F.2.1 d_Lw_law_230 (lv_at hl 0 rfl) ?_
  refine q_iconst F d_Lw_law_232 (by decide) (fun v1 hv1 => ?_)
  refine q_iadd F d_Lw_law_233 (by omega) (fun v2 hv2 => ?_)
  refine q_sld F hXs hbl hbA hW (i + 1) (by omega) (by omega) d_Lw_law_234 ?_
  refine lv_aload_n F.1 F.2.1 d_Lw_law_235 rfl (lv_at hl 4 rfl) ?_
  refine lv_iload F.1 F.2.1 d_Lw_law_236 (lv_at hl 0 rfl) ?_
  refine q_iconst F d_Lw_law_238 (by decide) (fun v3 hv3 => ?_)
  refine q_iadd F d_Lw_law_239 (by omega) (fun v4 hv4 => ?_)
  refine q_sld F hXs hbl hbA hW (i + 2) (by omega) (by omega) d_Lw_law_240 ?_
  refine lv_aload_n F.1 F.2.1 d_Lw_law_241 rfl (lv_at hl 1 rfl) ?_
  refine q_calli hW (qw_cS (As := [.ref (ad 0), .int (xs (i + 1)), .int (xs (i + 2)), .ref (ad 484)]) (rest := []) F hW hst cw_Lw_cut hs_Lw_cut (k_Lw_cut l D τ A ad 485 w hlt (Nat.le_refl 485) X B hX hO (by omega) (xs (i + 1)) (xs (i + 2)) g0 hU) rfl rfl ⟨by decide, by decide⟩ rfl hl.1 rfl (Nat.le_of_ble_eq_true rfl) d_Lw_law_242 ⟨by show cells + 5 ≤ 601024; omega, by show slots + 30 ≤ 7293034; omega⟩) (fun v5 w5 H5 locs5 hp5 hW5 => ?_)
  obtain ⟨r, X9, g9, hrel, hX9, hU9, hr9, hfr⟩ := hp5
  have hM1 := hM.keep (w' := w5) (fun q h1 h2 => hfr q h1 (by omega))
  obtain ⟨⟨th0, n0, b0, s0, p0, hmo, -⟩, -⟩ := id hM1
  refine lv_istore (lv' := [(5, .int v5), (4, .int iv), (3, .ref (ad 484)), (2, .ref (ad 469)), (1, .ref (ad 0)), (0, .ref b)]) F.1 F.2.1 d_Lw_law_245 hl (by decide) rfl (fun ls6 hl6 => ?_)
  clear hl
  refine lv_aload_n F.1 F.2.1 d_Lw_law_247 rfl (lv_at hl6 3 rfl) ?_
  refine lv_aload_n F.1 F.2.1 d_Lw_law_248 rfl (lv_at hl6 5 rfl) ?_
  refine lv_iload F.1 F.2.1 d_Lw_law_249 (lv_at hl6 1 rfl) ?_
  refine q_iconst F d_Lw_law_251 (by decide) (fun v7 hv7 => ?_)
  refine q_iadd F d_Lw_law_252 (by omega) (fun v8 hv8 => ?_)
  refine q_sld F hXs hbl hbA hW5 (i + 1) (by omega) (by omega) d_Lw_law_253 ?_
  refine lv_aload_n F.1 F.2.1 d_Lw_law_254 rfl (lv_at hl6 5 rfl) ?_
  refine lv_iload F.1 F.2.1 d_Lw_law_255 (lv_at hl6 1 rfl) ?_
  refine q_iconst F d_Lw_law_257 (by decide) (fun v9 hv9 => ?_)
  refine q_iadd F d_Lw_law_258 (by omega) (fun v10 hv10 => ?_)
  refine q_sld F hXs hbl hbA hW5 (i + 2) (by omega) (by omega) d_Lw_law_259 ?_
  refine q_calli hW5 (q_cV (As := [.int (xs (i + 1)), .int (xs (i + 2))]) (rest := []) F hW5 cs_Lw_85 hd_Mo_cut rfl (by omega) hmo (k_Mo_cut l D τ A ad 485 w5 (by omega) X B t0 hM1 hO (by omega) (xs (i + 1)) (xs (i + 2))) rfl rfl ⟨by decide, by decide⟩ rfl hl6.1 rfl (Nat.le_of_ble_eq_true rfl) d_Lw_law_260 ⟨by show cells + 5 + 0 ≤ 601024; omega, by show slots + 30 + 0 ≤ 7293034; omega⟩) (fun v11 w11 H11 locs11 hp11 hW11 => ?_)
  obtain ⟨kk2, X8, hrel2, hM2, hfr2⟩ := hp11
  obtain ⟨e1, e2, e3⟩ := zU_cut hrel hrel2
  subst e3
  have hX2 := hX9.keep (w' := w11) (fun q hq => hfr2 q (by omega))
  have hU2 := hU9.keep (w' := w11) (hfr2 484 (by omega))
  have hO2 := zK_cut hO hrel
  obtain ⟨⟨th1, n1, b1, s1, p1, hmo1, hth, hn1, -⟩, -⟩ := id hM2
  refine lv_istore (lv' := [(6, .int v11), (5, .int v5), (4, .int iv), (3, .ref (ad 484)), (2, .ref (ad 469)), (1, .ref (ad 0)), (0, .ref b)]) F.1 F.2.1 d_Lw_law_263 hl6 (by decide) rfl (fun ls12 hl12 => ?_)
  clear hl6
  refine lv_aload_n F.1 F.2.1 d_Lw_law_265 rfl (lv_at hl12 4 rfl) ?_
  refine q_calli hW11 (q_cV (As := []) (rest := []) F hW11 cs_Lw_74 hd_Mo_thrown rfl (by omega) hmo1 (k_Mo_thrown l D τ A ad 485 w11 (by omega) th1 n1 b1 s1 p1 hmo1 X9.n hn1 hO2.2.1) rfl rfl ⟨by decide, by decide⟩ rfl hl12.1 rfl (Nat.le_of_ble_eq_true rfl) d_Lw_law_266 ⟨by show cells + 5 + 0 + 0 ≤ 601024; omega, by show slots + 30 + 0 + 0 ≤ 7293034; omega⟩) (fun v13 w13 H13 locs13 hp13 hW13 => ?_)
  obtain ⟨hq3, rfl⟩ := hp13
  replace hq3 := hq3.symm
  subst hq3
  refine lv_iload F.1 F.2.1 d_Lw_law_269 (lv_at hl12 1 rfl) ?_
  refine q_icmp_eq (tgt := 276) F d_Lw_law_271 (by decide) (fun c14 => ?_) (fun c14 => ?_)
  · refine lv_iload F.1 F.2.1 d_Lw_law_276 (lv_at hl12 1 rfl) ?_
    refine q_if_ne (tgt := 293) F d_Lw_law_278 (by decide) (fun c15 => ?_) (fun c15 => ?_)
    · refine lv_goto (tgt := 1088) F.1 F.2.1 d_Lw_law_293 (by decide) ?_
      exact kk _ _ _ X9 _ ⟨hW13, hX2, ⟨_, hM2⟩, hO2, ⟨_, hU2⟩, (lv_sub hl12 [2, 3, 4, 5, 6] rfl)⟩
    · obtain ⟨r32, er, er2⟩ := hr9 (by omega)
      refine lv_aload_n F.1 F.2.1 d_Lw_law_281 rfl (lv_at hl12 3 rfl) ?_
      refine q_iconst F d_Lw_law_282 (by decide) (fun v16 hv16 => ?_)
      refine q_laldO F hW13 hU2 (by omega) (by omega) d_Lw_law_283 ?_
      refine lv_iload F.1 F.2.1 d_Lw_law_284 (lv_at hl12 0 rfl) ?_
      refine lv_i2l F.1 F.2.1 d_Lw_law_286 rfl ?_
      refine q_lcmpE F (by rw [er]; congr 1; exact q_eqI.mpr (by rw [er2]; exact e2 (by omega))) d_Lw_law_287 (fun vz hvz => ?_)
      refine q_if_eq (tgt := 293) F d_Lw_law_288 (by decide) (fun c17 => ?_) (fun c17 => ?_)
      · refine lv_goto (tgt := 1088) F.1 F.2.1 d_Lw_law_293 (by decide) ?_
        exact kk _ _ _ X9 _ ⟨hW13, hX2, ⟨_, hM2⟩, hO2, ⟨_, hU2⟩, (lv_sub hl12 [2, 3, 4, 5, 6] rfl)⟩
      · exact absurd hvz (by assumption)
  · exact absurd (hth.trans e1.symm) (by omega)
set_option maxHeartbeats 4000000 in
set_option maxRecDepth 100000 in
theorem lwc_port (F : CallFix p m c code 7 s #[Value.ref b] lw_good "LabelRouterLaw") (hlt : l.stackTraces = false) (hst : qSt A s s.heap) (hXs : va_X b L xs s s.heap) (hbl : b < s.heap.size) (hbA : ¬ A b) (hL : L ≤ 2048) (hS : lwS D τ A s ad b H locs w X B iv ls) (hB : B ≤ 600) (i : Nat) (hiv : iv.toInt = (i : Int)) (hi : i + 4 ≤ L) (hc : cells + 5 ≤ 601024) (hs : slots + 30 ≤ 7293034)
    (kk : ∀ (H1 : Heap) (locs1 : List Loc) (w1 : Nat → va_E) (X1 : zSt) (ls1 : Array Slot), lwS D τ A s ad b H1 locs1 w1 X1 (B + 1) iv ls1 → W p l e room_1 s m #[Value.ref b] below meth c H1 locs1 (cells + 5) (slots + 30) Q (F0 m 1088 ls1 [])) :
    W p l e room_1 s m #[Value.ref b] below meth c H locs cells slots Q (F0 m 296 ls []) := by
  obtain ⟨hW, hX, ⟨t0, hM⟩, hO, ⟨g0, hU⟩, hl⟩ := hS
  refine lv_aload_n F.1 F.2.1 d_Lw_law_296 rfl (lv_at hl 3 rfl) ?_
  refine lv_aload_n F.1 F.2.1 d_Lw_law_297 rfl (lv_at hl 4 rfl) ?_
  refine lv_iload F.1 F.2.1 d_Lw_law_298 (lv_at hl 0 rfl) ?_
  refine q_iconst F d_Lw_law_300 (by decide) (fun v1 hv1 => ?_)
  refine q_iadd F d_Lw_law_301 (by omega) (fun v2 hv2 => ?_)
  refine q_sld F hXs hbl hbA hW (i + 1) (by omega) (by omega) d_Lw_law_302 ?_
  refine lv_aload_n F.1 F.2.1 d_Lw_law_303 rfl (lv_at hl 4 rfl) ?_
  refine lv_iload F.1 F.2.1 d_Lw_law_304 (lv_at hl 0 rfl) ?_
  refine q_iconst F d_Lw_law_306 (by decide) (fun v3 hv3 => ?_)
  refine q_iadd F d_Lw_law_307 (by omega) (fun v4 hv4 => ?_)
  refine q_sld F hXs hbl hbA hW (i + 2) (by omega) (by omega) d_Lw_law_308 ?_
  refine lv_aload_n F.1 F.2.1 d_Lw_law_309 rfl (lv_at hl 1 rfl) ?_
  refine q_calli hW (qw_cS (As := [.ref (ad 0), .int (xs (i + 1)), .int (xs (i + 2)), .ref (ad 484)]) (rest := []) F hW hst cw_Lw_port hs_Lw_port (k_Lw_port l D τ A ad 485 w hlt (Nat.le_refl 485) X B hX hO (by omega) (xs (i + 1)) (xs (i + 2)) g0 hU) rfl rfl ⟨by decide, by decide⟩ rfl hl.1 rfl (Nat.le_of_ble_eq_true rfl) d_Lw_law_310 ⟨by show cells + 5 ≤ 601024; omega, by show slots + 30 ≤ 7293034; omega⟩) (fun v5 w5 H5 locs5 hp5 hW5 => ?_)
  obtain ⟨r, X9, g9, hrel, hX9, hU9, hr9, hfr⟩ := hp5
  have hM1 := hM.keep (w' := w5) (fun q h1 h2 => hfr q h1 (by omega))
  obtain ⟨⟨th0, n0, b0, s0, p0, hmo, -⟩, -⟩ := id hM1
  refine lv_istore (lv' := [(5, .int v5), (4, .int iv), (3, .ref (ad 484)), (2, .ref (ad 469)), (1, .ref (ad 0)), (0, .ref b)]) F.1 F.2.1 d_Lw_law_313 hl (by decide) rfl (fun ls6 hl6 => ?_)
  clear hl
  refine lv_aload_n F.1 F.2.1 d_Lw_law_315 rfl (lv_at hl6 3 rfl) ?_
  refine lv_aload_n F.1 F.2.1 d_Lw_law_316 rfl (lv_at hl6 5 rfl) ?_
  refine lv_iload F.1 F.2.1 d_Lw_law_317 (lv_at hl6 1 rfl) ?_
  refine q_iconst F d_Lw_law_319 (by decide) (fun v7 hv7 => ?_)
  refine q_iadd F d_Lw_law_320 (by omega) (fun v8 hv8 => ?_)
  refine q_sld F hXs hbl hbA hW5 (i + 1) (by omega) (by omega) d_Lw_law_321 ?_
  refine lv_aload_n F.1 F.2.1 d_Lw_law_322 rfl (lv_at hl6 5 rfl) ?_
  refine lv_iload F.1 F.2.1 d_Lw_law_323 (lv_at hl6 1 rfl) ?_
  refine q_iconst F d_Lw_law_325 (by decide) (fun v9 hv9 => ?_)
  refine q_iadd F d_Lw_law_326 (by omega) (fun v10 hv10 => ?_)
  refine q_sld F hXs hbl hbA hW5 (i + 2) (by omega) (by omega) d_Lw_law_327 ?_
  refine q_calli hW5 (q_cV (As := [.int (xs (i + 1)), .int (xs (i + 2))]) (rest := []) F hW5 cs_Lw_88 hd_Mo_port rfl (by omega) hmo (k_Mo_port l D τ A ad 485 w5 (by omega) X B t0 hM1 hO (by omega) (xs (i + 1)) (xs (i + 2))) rfl rfl ⟨by decide, by decide⟩ rfl hl6.1 rfl (Nat.le_of_ble_eq_true rfl) d_Lw_law_328 ⟨by show cells + 5 + 0 ≤ 601024; omega, by show slots + 30 + 0 ≤ 7293034; omega⟩) (fun v11 w11 H11 locs11 hp11 hW11 => ?_)
  obtain ⟨kk2, X8, hrel2, hM2, hfr2⟩ := hp11
  obtain ⟨e1, e2, e3⟩ := zU_port hrel hrel2
  subst e3
  have hX2 := hX9.keep (w' := w11) (fun q hq => hfr2 q (by omega))
  have hU2 := hU9.keep (w' := w11) (hfr2 484 (by omega))
  have hO2 : zOK X9 (B + 1) := by obtain ⟨e, -⟩ := hrel; rw [e]; exact hO.up (by omega)
  obtain ⟨⟨th1, n1, b1, s1, p1, hmo1, hth, hn1, -⟩, -⟩ := id hM2
  refine lv_istore (lv' := [(6, .int v11), (5, .int v5), (4, .int iv), (3, .ref (ad 484)), (2, .ref (ad 469)), (1, .ref (ad 0)), (0, .ref b)]) F.1 F.2.1 d_Lw_law_331 hl6 (by decide) rfl (fun ls12 hl12 => ?_)
  clear hl6
  refine lv_aload_n F.1 F.2.1 d_Lw_law_333 rfl (lv_at hl12 4 rfl) ?_
  refine q_calli hW11 (q_cV (As := []) (rest := []) F hW11 cs_Lw_74 hd_Mo_thrown rfl (by omega) hmo1 (k_Mo_thrown l D τ A ad 485 w11 (by omega) th1 n1 b1 s1 p1 hmo1 X9.n hn1 hO2.2.1) rfl rfl ⟨by decide, by decide⟩ rfl hl12.1 rfl (Nat.le_of_ble_eq_true rfl) d_Lw_law_334 ⟨by show cells + 5 + 0 + 0 ≤ 601024; omega, by show slots + 30 + 0 + 0 ≤ 7293034; omega⟩) (fun v13 w13 H13 locs13 hp13 hW13 => ?_)
  obtain ⟨hq3, rfl⟩ := hp13
  replace hq3 := hq3.symm
  subst hq3
  refine lv_iload F.1 F.2.1 d_Lw_law_337 (lv_at hl12 1 rfl) ?_
  refine q_icmp_eq (tgt := 344) F d_Lw_law_339 (by decide) (fun c14 => ?_) (fun c14 => ?_)
  · refine lv_iload F.1 F.2.1 d_Lw_law_344 (lv_at hl12 1 rfl) ?_
    refine q_if_ne (tgt := 361) F d_Lw_law_346 (by decide) (fun c15 => ?_) (fun c15 => ?_)
    · refine lv_goto (tgt := 1088) F.1 F.2.1 d_Lw_law_361 (by decide) ?_
      exact kk _ _ _ X9 _ ⟨hW13, hX2, ⟨_, hM2⟩, hO2, ⟨_, hU2⟩, (lv_sub hl12 [2, 3, 4, 5, 6] rfl)⟩
    · obtain ⟨r32, er, er2⟩ := hr9 (by omega)
      refine lv_aload_n F.1 F.2.1 d_Lw_law_349 rfl (lv_at hl12 3 rfl) ?_
      refine q_iconst F d_Lw_law_350 (by decide) (fun v16 hv16 => ?_)
      refine q_laldO F hW13 hU2 (by omega) (by omega) d_Lw_law_351 ?_
      refine lv_iload F.1 F.2.1 d_Lw_law_352 (lv_at hl12 0 rfl) ?_
      refine lv_i2l F.1 F.2.1 d_Lw_law_354 rfl ?_
      refine q_lcmpE F (by rw [er]; congr 1; exact q_eqI.mpr (by rw [er2]; exact e2 (by omega))) d_Lw_law_355 (fun vz hvz => ?_)
      refine q_if_eq (tgt := 361) F d_Lw_law_356 (by decide) (fun c17 => ?_) (fun c17 => ?_)
      · refine lv_goto (tgt := 1088) F.1 F.2.1 d_Lw_law_361 (by decide) ?_
        exact kk _ _ _ X9 _ ⟨hW13, hX2, ⟨_, hM2⟩, hO2, ⟨_, hU2⟩, (lv_sub hl12 [2, 3, 4, 5, 6] rfl)⟩
      · exact absurd hvz (by assumption)
  · exact absurd (hth.trans e1.symm) (by omega)
set_option maxHeartbeats 4000000 in
set_option maxRecDepth 100000 in
theorem lwc_build (F : CallFix p m c code 7 s #[Value.ref b] lw_good "LabelRouterLaw") (hlt : l.stackTraces = false) (hst : qSt A s s.heap) (hXs : va_X b L xs s s.heap) (hbl : b < s.heap.size) (hbA : ¬ A b) (hL : L ≤ 2048) (hS : lwS D τ A s ad b H locs w X B iv ls) (hB : B ≤ 600) (i : Nat) (hiv : iv.toInt = (i : Int)) (hi : i + 4 ≤ L) (hc : cells + 5 ≤ 601024) (hs : slots + 30 ≤ 7293034)
    (kk : ∀ (H1 : Heap) (locs1 : List Loc) (w1 : Nat → va_E) (X1 : zSt) (ls1 : Array Slot), lwS D τ A s ad b H1 locs1 w1 X1 (B + 1) iv ls1 → W p l e room_1 s m #[Value.ref b] below meth c H1 locs1 (cells + 5) (slots + 30) Q (F0 m 1088 ls1 [])) :
    W p l e room_1 s m #[Value.ref b] below meth c H locs cells slots Q (F0 m 364 ls []) := by
  obtain ⟨hW, hX, ⟨t0, hM⟩, hO, ⟨g0, hU⟩, hl⟩ := hS
  refine lv_aload_n F.1 F.2.1 d_Lw_law_364 rfl (lv_at hl 3 rfl) ?_
  refine lv_aload_n F.1 F.2.1 d_Lw_law_365 rfl (lv_at hl 4 rfl) ?_
  refine lv_iload F.1 F.2.1 d_Lw_law_366 (lv_at hl 0 rfl) ?_
  refine q_iconst F d_Lw_law_368 (by decide) (fun v1 hv1 => ?_)
  refine q_iadd F d_Lw_law_369 (by omega) (fun v2 hv2 => ?_)
  refine q_sld F hXs hbl hbA hW (i + 1) (by omega) (by omega) d_Lw_law_370 ?_
  refine lv_aload_n F.1 F.2.1 d_Lw_law_371 rfl (lv_at hl 1 rfl) ?_
  refine q_calli hW (qw_cS (As := [.ref (ad 0), .int (xs (i + 1)), .ref (ad 484)]) (rest := []) F hW hst cw_Lw_build hs_Lw_build (k_Lw_build l D τ A ad 485 w hlt (Nat.le_refl 485) X B hX hO (by omega) (xs (i + 1)) g0 hU) rfl rfl ⟨by decide, by decide⟩ rfl hl.1 rfl (Nat.le_of_ble_eq_true rfl) d_Lw_law_372 ⟨by show cells + 5 ≤ 601024; omega, by show slots + 30 ≤ 7293034; omega⟩) (fun v3 w3 H3 locs3 hp3 hW3 => ?_)
  obtain ⟨r, X9, g9, hrel, hX9, hU9, hr9, hfr⟩ := hp3
  have hM1 := hM.keep (w' := w3) (fun q h1 h2 => hfr q h1 (by omega))
  obtain ⟨⟨th0, n0, b0, s0, p0, hmo, -⟩, -⟩ := id hM1
  refine lv_istore (lv' := [(5, .int v3), (4, .int iv), (3, .ref (ad 484)), (2, .ref (ad 469)), (1, .ref (ad 0)), (0, .ref b)]) F.1 F.2.1 d_Lw_law_375 hl (by decide) rfl (fun ls4 hl4 => ?_)
  clear hl
  refine lv_aload_n F.1 F.2.1 d_Lw_law_377 rfl (lv_at hl4 3 rfl) ?_
  refine lv_aload_n F.1 F.2.1 d_Lw_law_378 rfl (lv_at hl4 5 rfl) ?_
  refine lv_iload F.1 F.2.1 d_Lw_law_379 (lv_at hl4 1 rfl) ?_
  refine q_iconst F d_Lw_law_381 (by decide) (fun v5 hv5 => ?_)
  refine q_iadd F d_Lw_law_382 (by omega) (fun v6 hv6 => ?_)
  refine q_sld F hXs hbl hbA hW3 (i + 1) (by omega) (by omega) d_Lw_law_383 ?_
  refine q_calli hW3 (q_cV (As := [.int (xs (i + 1))]) (rest := []) F hW3 cs_Lw_92 hd_Mo_build rfl (by omega) hmo (k_Mo_build l D τ A ad 485 w3 (by omega) X B t0 hM1 hO (by omega) (xs (i + 1))) rfl rfl ⟨by decide, by decide⟩ rfl hl4.1 rfl (Nat.le_of_ble_eq_true rfl) d_Lw_law_384 ⟨by show cells + 5 + 0 ≤ 601024; omega, by show slots + 30 + 0 ≤ 7293034; omega⟩) (fun v7 w7 H7 locs7 hp7 hW7 => ?_)
  obtain ⟨kk2, X8, hrel2, hM2, hfr2⟩ := hp7
  obtain ⟨e1, e2, e3⟩ := zU_build hrel hrel2
  subst e3
  have hX2 := hX9.keep (w' := w7) (fun q hq => hfr2 q (by omega))
  have hU2 := hU9.keep (w' := w7) (hfr2 484 (by omega))
  have hO2 := zK_build hO hrel
  obtain ⟨⟨th1, n1, b1, s1, p1, hmo1, hth, hn1, -⟩, -⟩ := id hM2
  refine lv_istore (lv' := [(6, .int v7), (5, .int v3), (4, .int iv), (3, .ref (ad 484)), (2, .ref (ad 469)), (1, .ref (ad 0)), (0, .ref b)]) F.1 F.2.1 d_Lw_law_387 hl4 (by decide) rfl (fun ls8 hl8 => ?_)
  clear hl4
  refine lv_aload_n F.1 F.2.1 d_Lw_law_389 rfl (lv_at hl8 4 rfl) ?_
  refine q_calli hW7 (q_cV (As := []) (rest := []) F hW7 cs_Lw_74 hd_Mo_thrown rfl (by omega) hmo1 (k_Mo_thrown l D τ A ad 485 w7 (by omega) th1 n1 b1 s1 p1 hmo1 X9.n hn1 hO2.2.1) rfl rfl ⟨by decide, by decide⟩ rfl hl8.1 rfl (Nat.le_of_ble_eq_true rfl) d_Lw_law_390 ⟨by show cells + 5 + 0 + 0 ≤ 601024; omega, by show slots + 30 + 0 + 0 ≤ 7293034; omega⟩) (fun v9 w9 H9 locs9 hp9 hW9 => ?_)
  obtain ⟨hq3, rfl⟩ := hp9
  replace hq3 := hq3.symm
  subst hq3
  refine lv_iload F.1 F.2.1 d_Lw_law_393 (lv_at hl8 1 rfl) ?_
  refine q_icmp_eq (tgt := 400) F d_Lw_law_395 (by decide) (fun c10 => ?_) (fun c10 => ?_)
  · refine lv_iload F.1 F.2.1 d_Lw_law_400 (lv_at hl8 1 rfl) ?_
    refine q_if_ne (tgt := 417) F d_Lw_law_402 (by decide) (fun c11 => ?_) (fun c11 => ?_)
    · refine lv_goto (tgt := 1088) F.1 F.2.1 d_Lw_law_417 (by decide) ?_
      exact kk _ _ _ X9 _ ⟨hW9, hX2, ⟨_, hM2⟩, hO2, ⟨_, hU2⟩, (lv_sub hl8 [2, 3, 4, 5, 6] rfl)⟩
    · obtain ⟨r32, er, er2⟩ := hr9 (by omega)
      refine lv_aload_n F.1 F.2.1 d_Lw_law_405 rfl (lv_at hl8 3 rfl) ?_
      refine q_iconst F d_Lw_law_406 (by decide) (fun v12 hv12 => ?_)
      refine q_laldO F hW9 hU2 (by omega) (by omega) d_Lw_law_407 ?_
      refine lv_iload F.1 F.2.1 d_Lw_law_408 (lv_at hl8 0 rfl) ?_
      refine lv_i2l F.1 F.2.1 d_Lw_law_410 rfl ?_
      refine q_lcmpE F (by rw [er]; congr 1; exact q_eqI.mpr (by rw [er2]; exact e2 (by omega))) d_Lw_law_411 (fun vz hvz => ?_)
      refine q_if_eq (tgt := 417) F d_Lw_law_412 (by decide) (fun c13 => ?_) (fun c13 => ?_)
      · refine lv_goto (tgt := 1088) F.1 F.2.1 d_Lw_law_417 (by decide) ?_
        exact kk _ _ _ X9 _ ⟨hW9, hX2, ⟨_, hM2⟩, hO2, ⟨_, hU2⟩, (lv_sub hl8 [2, 3, 4, 5, 6] rfl)⟩
      · exact absurd hvz (by assumption)
  · exact absurd (hth.trans e1.symm) (by omega)
set_option maxHeartbeats 4000000 in
set_option maxRecDepth 100000 in
theorem lwc_landmark (F : CallFix p m c code 7 s #[Value.ref b] lw_good "LabelRouterLaw") (hlt : l.stackTraces = false) (hst : qSt A s s.heap) (hXs : va_X b L xs s s.heap) (hbl : b < s.heap.size) (hbA : ¬ A b) (hL : L ≤ 2048) (hS : lwS D τ A s ad b H locs w X B iv ls) (hB : B ≤ 600) (i : Nat) (hiv : iv.toInt = (i : Int)) (hi : i + 4 ≤ L) (hc : cells + 5 ≤ 601024) (hs : slots + 30 ≤ 7293034)
    (kk : ∀ (H1 : Heap) (locs1 : List Loc) (w1 : Nat → va_E) (X1 : zSt) (ls1 : Array Slot), lwS D τ A s ad b H1 locs1 w1 X1 (B + 1) iv ls1 → W p l e room_1 s m #[Value.ref b] below meth c H1 locs1 (cells + 5) (slots + 30) Q (F0 m 1088 ls1 [])) :
    W p l e room_1 s m #[Value.ref b] below meth c H locs cells slots Q (F0 m 420 ls []) := by
  obtain ⟨hW, hX, ⟨t0, hM⟩, hO, ⟨g0, hU⟩, hl⟩ := hS
  refine lv_aload_n F.1 F.2.1 d_Lw_law_420 rfl (lv_at hl 3 rfl) ?_
  refine lv_aload_n F.1 F.2.1 d_Lw_law_421 rfl (lv_at hl 4 rfl) ?_
  refine lv_iload F.1 F.2.1 d_Lw_law_422 (lv_at hl 0 rfl) ?_
  refine q_iconst F d_Lw_law_424 (by decide) (fun v1 hv1 => ?_)
  refine q_iadd F d_Lw_law_425 (by omega) (fun v2 hv2 => ?_)
  refine q_sld F hXs hbl hbA hW (i + 1) (by omega) (by omega) d_Lw_law_426 ?_
  refine lv_aload_n F.1 F.2.1 d_Lw_law_427 rfl (lv_at hl 1 rfl) ?_
  refine q_calli hW (qw_cS (As := [.ref (ad 0), .int (xs (i + 1)), .ref (ad 484)]) (rest := []) F hW hst cw_Lw_landmark hs_Lw_landmark (k_Lw_landmark l D τ A ad 485 w hlt (Nat.le_refl 485) X B hX hO (by omega) (xs (i + 1)) g0 hU) rfl rfl ⟨by decide, by decide⟩ rfl hl.1 rfl (Nat.le_of_ble_eq_true rfl) d_Lw_law_428 ⟨by show cells + 5 ≤ 601024; omega, by show slots + 30 ≤ 7293034; omega⟩) (fun v3 w3 H3 locs3 hp3 hW3 => ?_)
  obtain ⟨r, X9, g9, hrel, hX9, hU9, hr9, hfr⟩ := hp3
  have hM1 := hM.keep (w' := w3) (fun q h1 h2 => hfr q h1 (by omega))
  obtain ⟨⟨th0, n0, b0, s0, p0, hmo, -⟩, -⟩ := id hM1
  refine lv_istore (lv' := [(5, .int v3), (4, .int iv), (3, .ref (ad 484)), (2, .ref (ad 469)), (1, .ref (ad 0)), (0, .ref b)]) F.1 F.2.1 d_Lw_law_431 hl (by decide) rfl (fun ls4 hl4 => ?_)
  clear hl
  refine lv_aload_n F.1 F.2.1 d_Lw_law_433 rfl (lv_at hl4 3 rfl) ?_
  refine lv_aload_n F.1 F.2.1 d_Lw_law_434 rfl (lv_at hl4 5 rfl) ?_
  refine lv_iload F.1 F.2.1 d_Lw_law_435 (lv_at hl4 1 rfl) ?_
  refine q_iconst F d_Lw_law_437 (by decide) (fun v5 hv5 => ?_)
  refine q_iadd F d_Lw_law_438 (by omega) (fun v6 hv6 => ?_)
  refine q_sld F hXs hbl hbA hW3 (i + 1) (by omega) (by omega) d_Lw_law_439 ?_
  refine q_calli hW3 (q_cV (As := [.int (xs (i + 1))]) (rest := []) F hW3 cs_Lw_95 hd_Mo_landmark rfl (by omega) hmo (k_Mo_landmark l D τ A ad 485 w3 (by omega) X B t0 hM1 hO (by omega) (xs (i + 1))) rfl rfl ⟨by decide, by decide⟩ rfl hl4.1 rfl (Nat.le_of_ble_eq_true rfl) d_Lw_law_440 ⟨by show cells + 5 + 0 ≤ 601024; omega, by show slots + 30 + 0 ≤ 7293034; omega⟩) (fun v7 w7 H7 locs7 hp7 hW7 => ?_)
  obtain ⟨kk2, X8, hrel2, hM2, hfr2⟩ := hp7
  obtain ⟨e1, e2, e3⟩ := zU_landmark hrel hrel2
  subst e3
  have hX2 := hX9.keep (w' := w7) (fun q hq => hfr2 q (by omega))
  have hU2 := hU9.keep (w' := w7) (hfr2 484 (by omega))
  have hO2 : zOK X9 (B + 1) := by obtain ⟨e, -⟩ := hrel; rw [e]; exact hO.up (by omega)
  obtain ⟨⟨th1, n1, b1, s1, p1, hmo1, hth, hn1, -⟩, -⟩ := id hM2
  refine lv_istore (lv' := [(6, .int v7), (5, .int v3), (4, .int iv), (3, .ref (ad 484)), (2, .ref (ad 469)), (1, .ref (ad 0)), (0, .ref b)]) F.1 F.2.1 d_Lw_law_443 hl4 (by decide) rfl (fun ls8 hl8 => ?_)
  clear hl4
  refine lv_aload_n F.1 F.2.1 d_Lw_law_445 rfl (lv_at hl8 4 rfl) ?_
  refine q_calli hW7 (q_cV (As := []) (rest := []) F hW7 cs_Lw_74 hd_Mo_thrown rfl (by omega) hmo1 (k_Mo_thrown l D τ A ad 485 w7 (by omega) th1 n1 b1 s1 p1 hmo1 X9.n hn1 hO2.2.1) rfl rfl ⟨by decide, by decide⟩ rfl hl8.1 rfl (Nat.le_of_ble_eq_true rfl) d_Lw_law_446 ⟨by show cells + 5 + 0 + 0 ≤ 601024; omega, by show slots + 30 + 0 + 0 ≤ 7293034; omega⟩) (fun v9 w9 H9 locs9 hp9 hW9 => ?_)
  obtain ⟨hq3, rfl⟩ := hp9
  replace hq3 := hq3.symm
  subst hq3
  refine lv_iload F.1 F.2.1 d_Lw_law_449 (lv_at hl8 1 rfl) ?_
  refine q_icmp_eq (tgt := 456) F d_Lw_law_451 (by decide) (fun c10 => ?_) (fun c10 => ?_)
  · refine lv_iload F.1 F.2.1 d_Lw_law_456 (lv_at hl8 1 rfl) ?_
    refine q_if_ne (tgt := 473) F d_Lw_law_458 (by decide) (fun c11 => ?_) (fun c11 => ?_)
    · refine lv_goto (tgt := 1088) F.1 F.2.1 d_Lw_law_473 (by decide) ?_
      exact kk _ _ _ X9 _ ⟨hW9, hX2, ⟨_, hM2⟩, hO2, ⟨_, hU2⟩, (lv_sub hl8 [2, 3, 4, 5, 6] rfl)⟩
    · obtain ⟨r32, er, er2⟩ := hr9 (by omega)
      refine lv_aload_n F.1 F.2.1 d_Lw_law_461 rfl (lv_at hl8 3 rfl) ?_
      refine q_iconst F d_Lw_law_462 (by decide) (fun v12 hv12 => ?_)
      refine q_laldO F hW9 hU2 (by omega) (by omega) d_Lw_law_463 ?_
      refine lv_iload F.1 F.2.1 d_Lw_law_464 (lv_at hl8 0 rfl) ?_
      refine lv_i2l F.1 F.2.1 d_Lw_law_466 rfl ?_
      refine q_lcmpE F (by rw [er]; congr 1; exact q_eqI.mpr (by rw [er2]; exact e2 (by omega))) d_Lw_law_467 (fun vz hvz => ?_)
      refine q_if_eq (tgt := 473) F d_Lw_law_468 (by decide) (fun c13 => ?_) (fun c13 => ?_)
      · refine lv_goto (tgt := 1088) F.1 F.2.1 d_Lw_law_473 (by decide) ?_
        exact kk _ _ _ X9 _ ⟨hW9, hX2, ⟨_, hM2⟩, hO2, ⟨_, hU2⟩, (lv_sub hl8 [2, 3, 4, 5, 6] rfl)⟩
      · exact absurd hvz (by assumption)
  · exact absurd (hth.trans e1.symm) (by omega)
set_option maxHeartbeats 4000000 in
set_option maxRecDepth 100000 in
theorem lwc_table (F : CallFix p m c code 7 s #[Value.ref b] lw_good "LabelRouterLaw") (hlt : l.stackTraces = false) (hst : qSt A s s.heap) (hXs : va_X b L xs s s.heap) (hbl : b < s.heap.size) (hbA : ¬ A b) (hL : L ≤ 2048) (hS : lwS D τ A s ad b H locs w X B iv ls) (hB : B ≤ 600) (i : Nat) (hiv : iv.toInt = (i : Int)) (hi : i + 4 ≤ L) (hc : cells + 5 ≤ 601024) (hs : slots + 30 ≤ 7293034)
    (kk : ∀ (H1 : Heap) (locs1 : List Loc) (w1 : Nat → va_E) (X1 : zSt) (ls1 : Array Slot), lwS D τ A s ad b H1 locs1 w1 X1 (B + 1) iv ls1 → W p l e room_1 s m #[Value.ref b] below meth c H1 locs1 (cells + 5) (slots + 30) Q (F0 m 1088 ls1 [])) :
    W p l e room_1 s m #[Value.ref b] below meth c H locs cells slots Q (F0 m 476 ls []) := by
  obtain ⟨hW, hX, ⟨t0, hM⟩, hO, ⟨g0, hU⟩, hl⟩ := hS
  refine lv_aload_n F.1 F.2.1 d_Lw_law_476 rfl (lv_at hl 3 rfl) ?_
  refine lv_aload_n F.1 F.2.1 d_Lw_law_477 rfl (lv_at hl 4 rfl) ?_
  refine lv_iload F.1 F.2.1 d_Lw_law_478 (lv_at hl 0 rfl) ?_
  refine q_iconst F d_Lw_law_480 (by decide) (fun v1 hv1 => ?_)
  refine q_iadd F d_Lw_law_481 (by omega) (fun v2 hv2 => ?_)
  refine q_sld F hXs hbl hbA hW (i + 1) (by omega) (by omega) d_Lw_law_482 ?_
  refine lv_aload_n F.1 F.2.1 d_Lw_law_483 rfl (lv_at hl 4 rfl) ?_
  refine lv_iload F.1 F.2.1 d_Lw_law_484 (lv_at hl 0 rfl) ?_
  refine q_iconst F d_Lw_law_486 (by decide) (fun v3 hv3 => ?_)
  refine q_iadd F d_Lw_law_487 (by omega) (fun v4 hv4 => ?_)
  refine q_sld F hXs hbl hbA hW (i + 2) (by omega) (by omega) d_Lw_law_488 ?_
  refine lv_aload_n F.1 F.2.1 d_Lw_law_489 rfl (lv_at hl 1 rfl) ?_
  refine q_calli hW (qw_cS (As := [.ref (ad 0), .int (xs (i + 1)), .int (xs (i + 2)), .ref (ad 484)]) (rest := []) F hW hst cw_Lw_table hs_Lw_table (k_Lw_table l D τ A ad 485 w hlt (Nat.le_refl 485) X B hX hO (by omega) (xs (i + 1)) (xs (i + 2)) g0 hU) rfl rfl ⟨by decide, by decide⟩ rfl hl.1 rfl (Nat.le_of_ble_eq_true rfl) d_Lw_law_490 ⟨by show cells + 5 ≤ 601024; omega, by show slots + 30 ≤ 7293034; omega⟩) (fun v5 w5 H5 locs5 hp5 hW5 => ?_)
  obtain ⟨r, X9, g9, hrel, hX9, hU9, hr9, hfr⟩ := hp5
  have hM1 := hM.keep (w' := w5) (fun q h1 h2 => hfr q h1 (by omega))
  obtain ⟨⟨th0, n0, b0, s0, p0, hmo, -⟩, -⟩ := id hM1
  refine lv_istore (lv' := [(5, .int v5), (4, .int iv), (3, .ref (ad 484)), (2, .ref (ad 469)), (1, .ref (ad 0)), (0, .ref b)]) F.1 F.2.1 d_Lw_law_493 hl (by decide) rfl (fun ls6 hl6 => ?_)
  clear hl
  refine lv_aload_n F.1 F.2.1 d_Lw_law_495 rfl (lv_at hl6 3 rfl) ?_
  refine lv_aload_n F.1 F.2.1 d_Lw_law_496 rfl (lv_at hl6 5 rfl) ?_
  refine lv_iload F.1 F.2.1 d_Lw_law_497 (lv_at hl6 1 rfl) ?_
  refine q_iconst F d_Lw_law_499 (by decide) (fun v7 hv7 => ?_)
  refine q_iadd F d_Lw_law_500 (by omega) (fun v8 hv8 => ?_)
  refine q_sld F hXs hbl hbA hW5 (i + 1) (by omega) (by omega) d_Lw_law_501 ?_
  refine lv_aload_n F.1 F.2.1 d_Lw_law_502 rfl (lv_at hl6 5 rfl) ?_
  refine lv_iload F.1 F.2.1 d_Lw_law_503 (lv_at hl6 1 rfl) ?_
  refine q_iconst F d_Lw_law_505 (by decide) (fun v9 hv9 => ?_)
  refine q_iadd F d_Lw_law_506 (by omega) (fun v10 hv10 => ?_)
  refine q_sld F hXs hbl hbA hW5 (i + 2) (by omega) (by omega) d_Lw_law_507 ?_
  refine q_calli hW5 (q_cV (As := [.int (xs (i + 1)), .int (xs (i + 2))]) (rest := []) F hW5 cs_Lw_98 hd_Mo_table rfl (by omega) hmo (k_Mo_table l D τ A ad 485 w5 (by omega) X B t0 hM1 hO (by omega) (xs (i + 1)) (xs (i + 2))) rfl rfl ⟨by decide, by decide⟩ rfl hl6.1 rfl (Nat.le_of_ble_eq_true rfl) d_Lw_law_508 ⟨by show cells + 5 + 0 ≤ 601024; omega, by show slots + 30 + 0 ≤ 7293034; omega⟩) (fun v11 w11 H11 locs11 hp11 hW11 => ?_)
  obtain ⟨kk2, X8, hrel2, hM2, hfr2⟩ := hp11
  obtain ⟨e1, e2, e3⟩ := zU_table hrel hrel2
  subst e3
  have hX2 := hX9.keep (w' := w11) (fun q hq => hfr2 q (by omega))
  have hU2 := hU9.keep (w' := w11) (hfr2 484 (by omega))
  have hO2 : zOK X9 (B + 1) := by obtain ⟨e, -⟩ := hrel; rw [e]; exact hO.up (by omega)
  obtain ⟨⟨th1, n1, b1, s1, p1, hmo1, hth, hn1, -⟩, -⟩ := id hM2
  refine lv_istore (lv' := [(6, .int v11), (5, .int v5), (4, .int iv), (3, .ref (ad 484)), (2, .ref (ad 469)), (1, .ref (ad 0)), (0, .ref b)]) F.1 F.2.1 d_Lw_law_511 hl6 (by decide) rfl (fun ls12 hl12 => ?_)
  clear hl6
  refine lv_aload_n F.1 F.2.1 d_Lw_law_513 rfl (lv_at hl12 4 rfl) ?_
  refine q_calli hW11 (q_cV (As := []) (rest := []) F hW11 cs_Lw_74 hd_Mo_thrown rfl (by omega) hmo1 (k_Mo_thrown l D τ A ad 485 w11 (by omega) th1 n1 b1 s1 p1 hmo1 X9.n hn1 hO2.2.1) rfl rfl ⟨by decide, by decide⟩ rfl hl12.1 rfl (Nat.le_of_ble_eq_true rfl) d_Lw_law_514 ⟨by show cells + 5 + 0 + 0 ≤ 601024; omega, by show slots + 30 + 0 + 0 ≤ 7293034; omega⟩) (fun v13 w13 H13 locs13 hp13 hW13 => ?_)
  obtain ⟨hq3, rfl⟩ := hp13
  replace hq3 := hq3.symm
  subst hq3
  refine lv_iload F.1 F.2.1 d_Lw_law_517 (lv_at hl12 1 rfl) ?_
  refine q_icmp_eq (tgt := 524) F d_Lw_law_519 (by decide) (fun c14 => ?_) (fun c14 => ?_)
  · refine lv_iload F.1 F.2.1 d_Lw_law_524 (lv_at hl12 1 rfl) ?_
    refine q_if_ne (tgt := 541) F d_Lw_law_526 (by decide) (fun c15 => ?_) (fun c15 => ?_)
    · refine lv_goto (tgt := 1088) F.1 F.2.1 d_Lw_law_541 (by decide) ?_
      exact kk _ _ _ X9 _ ⟨hW13, hX2, ⟨_, hM2⟩, hO2, ⟨_, hU2⟩, (lv_sub hl12 [2, 3, 4, 5, 6] rfl)⟩
    · obtain ⟨r32, er, er2⟩ := hr9 (by omega)
      refine lv_aload_n F.1 F.2.1 d_Lw_law_529 rfl (lv_at hl12 3 rfl) ?_
      refine q_iconst F d_Lw_law_530 (by decide) (fun v16 hv16 => ?_)
      refine q_laldO F hW13 hU2 (by omega) (by omega) d_Lw_law_531 ?_
      refine lv_iload F.1 F.2.1 d_Lw_law_532 (lv_at hl12 0 rfl) ?_
      refine lv_i2l F.1 F.2.1 d_Lw_law_534 rfl ?_
      refine q_lcmpE F (by rw [er]; congr 1; exact q_eqI.mpr (by rw [er2]; exact e2 (by omega))) d_Lw_law_535 (fun vz hvz => ?_)
      refine q_if_eq (tgt := 541) F d_Lw_law_536 (by decide) (fun c17 => ?_) (fun c17 => ?_)
      · refine lv_goto (tgt := 1088) F.1 F.2.1 d_Lw_law_541 (by decide) ?_
        exact kk _ _ _ X9 _ ⟨hW13, hX2, ⟨_, hM2⟩, hO2, ⟨_, hU2⟩, (lv_sub hl12 [2, 3, 4, 5, 6] rfl)⟩
      · exact absurd hvz (by assumption)
  · exact absurd (hth.trans e1.symm) (by omega)
set_option maxHeartbeats 4000000 in
set_option maxRecDepth 100000 in
theorem lwc_row (F : CallFix p m c code 7 s #[Value.ref b] lw_good "LabelRouterLaw") (hlt : l.stackTraces = false) (hst : qSt A s s.heap) (hXs : va_X b L xs s s.heap) (hbl : b < s.heap.size) (hbA : ¬ A b) (hL : L ≤ 2048) (hS : lwS D τ A s ad b H locs w X B iv ls) (hB : B ≤ 600) (i : Nat) (hiv : iv.toInt = (i : Int)) (hi : i + 4 ≤ L) (hc : cells + 5 ≤ 601024) (hs : slots + 30 ≤ 7293034)
    (kk : ∀ (H1 : Heap) (locs1 : List Loc) (w1 : Nat → va_E) (X1 : zSt) (ls1 : Array Slot), lwS D τ A s ad b H1 locs1 w1 X1 (B + 1) iv ls1 → W p l e room_1 s m #[Value.ref b] below meth c H1 locs1 (cells + 5) (slots + 30) Q (F0 m 1088 ls1 [])) :
    W p l e room_1 s m #[Value.ref b] below meth c H locs cells slots Q (F0 m 544 ls []) := by
  obtain ⟨hW, hX, ⟨t0, hM⟩, hO, ⟨g0, hU⟩, hl⟩ := hS
  refine lv_aload_n F.1 F.2.1 d_Lw_law_544 rfl (lv_at hl 3 rfl) ?_
  refine lv_aload_n F.1 F.2.1 d_Lw_law_545 rfl (lv_at hl 4 rfl) ?_
  refine lv_iload F.1 F.2.1 d_Lw_law_546 (lv_at hl 0 rfl) ?_
  refine q_iconst F d_Lw_law_548 (by decide) (fun v1 hv1 => ?_)
  refine q_iadd F d_Lw_law_549 (by omega) (fun v2 hv2 => ?_)
  refine q_sld F hXs hbl hbA hW (i + 1) (by omega) (by omega) d_Lw_law_550 ?_
  refine lv_aload_n F.1 F.2.1 d_Lw_law_551 rfl (lv_at hl 4 rfl) ?_
  refine lv_iload F.1 F.2.1 d_Lw_law_552 (lv_at hl 0 rfl) ?_
  refine q_iconst F d_Lw_law_554 (by decide) (fun v3 hv3 => ?_)
  refine q_iadd F d_Lw_law_555 (by omega) (fun v4 hv4 => ?_)
  refine q_sld F hXs hbl hbA hW (i + 2) (by omega) (by omega) d_Lw_law_556 ?_
  refine lv_aload_n F.1 F.2.1 d_Lw_law_557 rfl (lv_at hl 1 rfl) ?_
  refine q_calli hW (qw_cS (As := [.ref (ad 0), .int (xs (i + 1)), .int (xs (i + 2)), .ref (ad 484)]) (rest := []) F hW hst cw_Lw_row hs_Lw_row (k_Lw_row l D τ A ad 485 w hlt (Nat.le_refl 485) X B hX hO (by omega) (xs (i + 1)) (xs (i + 2)) g0 hU) rfl rfl ⟨by decide, by decide⟩ rfl hl.1 rfl (Nat.le_of_ble_eq_true rfl) d_Lw_law_558 ⟨by show cells + 5 ≤ 601024; omega, by show slots + 30 ≤ 7293034; omega⟩) (fun v5 w5 H5 locs5 hp5 hW5 => ?_)
  obtain ⟨r, X9, g9, hrel, hX9, hU9, hr9, hfr⟩ := hp5
  have hM1 := hM.keep (w' := w5) (fun q h1 h2 => hfr q h1 (by omega))
  obtain ⟨⟨th0, n0, b0, s0, p0, hmo, -⟩, -⟩ := id hM1
  refine lv_istore (lv' := [(5, .int v5), (4, .int iv), (3, .ref (ad 484)), (2, .ref (ad 469)), (1, .ref (ad 0)), (0, .ref b)]) F.1 F.2.1 d_Lw_law_561 hl (by decide) rfl (fun ls6 hl6 => ?_)
  clear hl
  refine lv_aload_n F.1 F.2.1 d_Lw_law_563 rfl (lv_at hl6 3 rfl) ?_
  refine lv_aload_n F.1 F.2.1 d_Lw_law_564 rfl (lv_at hl6 5 rfl) ?_
  refine lv_iload F.1 F.2.1 d_Lw_law_565 (lv_at hl6 1 rfl) ?_
  refine q_iconst F d_Lw_law_567 (by decide) (fun v7 hv7 => ?_)
  refine q_iadd F d_Lw_law_568 (by omega) (fun v8 hv8 => ?_)
  refine q_sld F hXs hbl hbA hW5 (i + 1) (by omega) (by omega) d_Lw_law_569 ?_
  refine lv_aload_n F.1 F.2.1 d_Lw_law_570 rfl (lv_at hl6 5 rfl) ?_
  refine lv_iload F.1 F.2.1 d_Lw_law_571 (lv_at hl6 1 rfl) ?_
  refine q_iconst F d_Lw_law_573 (by decide) (fun v9 hv9 => ?_)
  refine q_iadd F d_Lw_law_574 (by omega) (fun v10 hv10 => ?_)
  refine q_sld F hXs hbl hbA hW5 (i + 2) (by omega) (by omega) d_Lw_law_575 ?_
  refine q_calli hW5 (q_cV (As := [.int (xs (i + 1)), .int (xs (i + 2))]) (rest := []) F hW5 cs_Lw_101 hd_Mo_row rfl (by omega) hmo (k_Mo_row l D τ A ad 485 w5 (by omega) X B t0 hM1 hO (by omega) (xs (i + 1)) (xs (i + 2))) rfl rfl ⟨by decide, by decide⟩ rfl hl6.1 rfl (Nat.le_of_ble_eq_true rfl) d_Lw_law_576 ⟨by show cells + 5 + 0 ≤ 601024; omega, by show slots + 30 + 0 ≤ 7293034; omega⟩) (fun v11 w11 H11 locs11 hp11 hW11 => ?_)
  obtain ⟨kk2, X8, hrel2, hM2, hfr2⟩ := hp11
  obtain ⟨e1, e2, e3⟩ := zU_row hrel hrel2
  subst e3
  have hX2 := hX9.keep (w' := w11) (fun q hq => hfr2 q (by omega))
  have hU2 := hU9.keep (w' := w11) (hfr2 484 (by omega))
  have hO2 : zOK X9 (B + 1) := by obtain ⟨e, -⟩ := hrel; rw [e]; exact hO.up (by omega)
  obtain ⟨⟨th1, n1, b1, s1, p1, hmo1, hth, hn1, -⟩, -⟩ := id hM2
  refine lv_istore (lv' := [(6, .int v11), (5, .int v5), (4, .int iv), (3, .ref (ad 484)), (2, .ref (ad 469)), (1, .ref (ad 0)), (0, .ref b)]) F.1 F.2.1 d_Lw_law_579 hl6 (by decide) rfl (fun ls12 hl12 => ?_)
  clear hl6
  refine lv_aload_n F.1 F.2.1 d_Lw_law_581 rfl (lv_at hl12 4 rfl) ?_
  refine q_calli hW11 (q_cV (As := []) (rest := []) F hW11 cs_Lw_74 hd_Mo_thrown rfl (by omega) hmo1 (k_Mo_thrown l D τ A ad 485 w11 (by omega) th1 n1 b1 s1 p1 hmo1 X9.n hn1 hO2.2.1) rfl rfl ⟨by decide, by decide⟩ rfl hl12.1 rfl (Nat.le_of_ble_eq_true rfl) d_Lw_law_582 ⟨by show cells + 5 + 0 + 0 ≤ 601024; omega, by show slots + 30 + 0 + 0 ≤ 7293034; omega⟩) (fun v13 w13 H13 locs13 hp13 hW13 => ?_)
  obtain ⟨hq3, rfl⟩ := hp13
  replace hq3 := hq3.symm
  subst hq3
  refine lv_iload F.1 F.2.1 d_Lw_law_585 (lv_at hl12 1 rfl) ?_
  refine q_icmp_eq (tgt := 592) F d_Lw_law_587 (by decide) (fun c14 => ?_) (fun c14 => ?_)
  · refine lv_iload F.1 F.2.1 d_Lw_law_592 (lv_at hl12 1 rfl) ?_
    refine q_if_ne (tgt := 609) F d_Lw_law_594 (by decide) (fun c15 => ?_) (fun c15 => ?_)
    · refine lv_goto (tgt := 1088) F.1 F.2.1 d_Lw_law_609 (by decide) ?_
      exact kk _ _ _ X9 _ ⟨hW13, hX2, ⟨_, hM2⟩, hO2, ⟨_, hU2⟩, (lv_sub hl12 [2, 3, 4, 5, 6] rfl)⟩
    · obtain ⟨r32, er, er2⟩ := hr9 (by omega)
      refine lv_aload_n F.1 F.2.1 d_Lw_law_597 rfl (lv_at hl12 3 rfl) ?_
      refine q_iconst F d_Lw_law_598 (by decide) (fun v16 hv16 => ?_)
      refine q_laldO F hW13 hU2 (by omega) (by omega) d_Lw_law_599 ?_
      refine lv_iload F.1 F.2.1 d_Lw_law_600 (lv_at hl12 0 rfl) ?_
      refine lv_i2l F.1 F.2.1 d_Lw_law_602 rfl ?_
      refine q_lcmpE F (by rw [er]; congr 1; exact q_eqI.mpr (by rw [er2]; exact e2 (by omega))) d_Lw_law_603 (fun vz hvz => ?_)
      refine q_if_eq (tgt := 609) F d_Lw_law_604 (by decide) (fun c17 => ?_) (fun c17 => ?_)
      · refine lv_goto (tgt := 1088) F.1 F.2.1 d_Lw_law_609 (by decide) ?_
        exact kk _ _ _ X9 _ ⟨hW13, hX2, ⟨_, hM2⟩, hO2, ⟨_, hU2⟩, (lv_sub hl12 [2, 3, 4, 5, 6] rfl)⟩
      · exact absurd hvz (by assumption)
  · exact absurd (hth.trans e1.symm) (by omega)
set_option maxHeartbeats 4000000 in
set_option maxRecDepth 100000 in
theorem lwc_label (F : CallFix p m c code 7 s #[Value.ref b] lw_good "LabelRouterLaw") (hlt : l.stackTraces = false) (hst : qSt A s s.heap) (hXs : va_X b L xs s s.heap) (hbl : b < s.heap.size) (hbA : ¬ A b) (hL : L ≤ 2048) (hS : lwS D τ A s ad b H locs w X B iv ls) (hB : B ≤ 600) (i : Nat) (hiv : iv.toInt = (i : Int)) (hi : i + 4 ≤ L) (hc : cells + 5 ≤ 601024) (hs : slots + 30 ≤ 7293034)
    (kk : ∀ (H1 : Heap) (locs1 : List Loc) (w1 : Nat → va_E) (X1 : zSt) (ls1 : Array Slot), lwS D τ A s ad b H1 locs1 w1 X1 (B + 1) iv ls1 → W p l e room_1 s m #[Value.ref b] below meth c H1 locs1 (cells + 5) (slots + 30) Q (F0 m 1088 ls1 [])) :
    W p l e room_1 s m #[Value.ref b] below meth c H locs cells slots Q (F0 m 612 ls []) := by
  obtain ⟨hW, hX, ⟨t0, hM⟩, hO, ⟨g0, hU⟩, hl⟩ := hS
  refine lv_aload_n F.1 F.2.1 d_Lw_law_612 rfl (lv_at hl 3 rfl) ?_
  refine lv_aload_n F.1 F.2.1 d_Lw_law_613 rfl (lv_at hl 4 rfl) ?_
  refine lv_iload F.1 F.2.1 d_Lw_law_614 (lv_at hl 0 rfl) ?_
  refine q_iconst F d_Lw_law_616 (by decide) (fun v1 hv1 => ?_)
  refine q_iadd F d_Lw_law_617 (by omega) (fun v2 hv2 => ?_)
  refine q_sld F hXs hbl hbA hW (i + 1) (by omega) (by omega) d_Lw_law_618 ?_
  refine lv_aload_n F.1 F.2.1 d_Lw_law_619 rfl (lv_at hl 4 rfl) ?_
  refine lv_iload F.1 F.2.1 d_Lw_law_620 (lv_at hl 0 rfl) ?_
  refine q_iconst F d_Lw_law_622 (by decide) (fun v3 hv3 => ?_)
  refine q_iadd F d_Lw_law_623 (by omega) (fun v4 hv4 => ?_)
  refine q_sld F hXs hbl hbA hW (i + 2) (by omega) (by omega) d_Lw_law_624 ?_
  refine lv_aload_n F.1 F.2.1 d_Lw_law_625 rfl (lv_at hl 1 rfl) ?_
  refine q_calli hW (qw_cS (As := [.ref (ad 0), .int (xs (i + 1)), .int (xs (i + 2)), .ref (ad 484)]) (rest := []) F hW hst cw_Lw_label hs_Lw_label (k_Lw_label l D τ A ad 485 w hlt (Nat.le_refl 485) X B hX hO (by omega) (xs (i + 1)) (xs (i + 2)) g0 hU) rfl rfl ⟨by decide, by decide⟩ rfl hl.1 rfl (Nat.le_of_ble_eq_true rfl) d_Lw_law_626 ⟨by show cells + 5 ≤ 601024; omega, by show slots + 30 ≤ 7293034; omega⟩) (fun v5 w5 H5 locs5 hp5 hW5 => ?_)
  obtain ⟨r, X9, g9, hrel, hX9, hU9, hr9, hfr⟩ := hp5
  have hM1 := hM.keep (w' := w5) (fun q h1 h2 => hfr q h1 (by omega))
  obtain ⟨⟨th0, n0, b0, s0, p0, hmo, -⟩, -⟩ := id hM1
  refine lv_istore (lv' := [(5, .int v5), (4, .int iv), (3, .ref (ad 484)), (2, .ref (ad 469)), (1, .ref (ad 0)), (0, .ref b)]) F.1 F.2.1 d_Lw_law_629 hl (by decide) rfl (fun ls6 hl6 => ?_)
  clear hl
  refine lv_aload_n F.1 F.2.1 d_Lw_law_631 rfl (lv_at hl6 3 rfl) ?_
  refine lv_aload_n F.1 F.2.1 d_Lw_law_632 rfl (lv_at hl6 5 rfl) ?_
  refine lv_iload F.1 F.2.1 d_Lw_law_633 (lv_at hl6 1 rfl) ?_
  refine q_iconst F d_Lw_law_635 (by decide) (fun v7 hv7 => ?_)
  refine q_iadd F d_Lw_law_636 (by omega) (fun v8 hv8 => ?_)
  refine q_sld F hXs hbl hbA hW5 (i + 1) (by omega) (by omega) d_Lw_law_637 ?_
  refine lv_aload_n F.1 F.2.1 d_Lw_law_638 rfl (lv_at hl6 5 rfl) ?_
  refine lv_iload F.1 F.2.1 d_Lw_law_639 (lv_at hl6 1 rfl) ?_
  refine q_iconst F d_Lw_law_641 (by decide) (fun v9 hv9 => ?_)
  refine q_iadd F d_Lw_law_642 (by omega) (fun v10 hv10 => ?_)
  refine q_sld F hXs hbl hbA hW5 (i + 2) (by omega) (by omega) d_Lw_law_643 ?_
  refine q_calli hW5 (q_cV (As := [.int (xs (i + 1)), .int (xs (i + 2))]) (rest := []) F hW5 cs_Lw_104 hd_Mo_label rfl (by omega) hmo (k_Mo_label l D τ A ad 485 w5 (by omega) X B t0 hM1 hO (by omega) (xs (i + 1)) (xs (i + 2))) rfl rfl ⟨by decide, by decide⟩ rfl hl6.1 rfl (Nat.le_of_ble_eq_true rfl) d_Lw_law_644 ⟨by show cells + 5 + 0 ≤ 601024; omega, by show slots + 30 + 0 ≤ 7293034; omega⟩) (fun v11 w11 H11 locs11 hp11 hW11 => ?_)
  obtain ⟨kk2, X8, hrel2, hM2, hfr2⟩ := hp11
  obtain ⟨e1, e2, e3⟩ := zU_label hrel hrel2
  subst e3
  have hX2 := hX9.keep (w' := w11) (fun q hq => hfr2 q (by omega))
  have hU2 := hU9.keep (w' := w11) (hfr2 484 (by omega))
  have hO2 : zOK X9 (B + 1) := by obtain ⟨e, -⟩ := hrel; rw [e]; exact hO.up (by omega)
  obtain ⟨⟨th1, n1, b1, s1, p1, hmo1, hth, hn1, -⟩, -⟩ := id hM2
  refine lv_istore (lv' := [(6, .int v11), (5, .int v5), (4, .int iv), (3, .ref (ad 484)), (2, .ref (ad 469)), (1, .ref (ad 0)), (0, .ref b)]) F.1 F.2.1 d_Lw_law_647 hl6 (by decide) rfl (fun ls12 hl12 => ?_)
  clear hl6
  refine lv_aload_n F.1 F.2.1 d_Lw_law_649 rfl (lv_at hl12 4 rfl) ?_
  refine q_calli hW11 (q_cV (As := []) (rest := []) F hW11 cs_Lw_74 hd_Mo_thrown rfl (by omega) hmo1 (k_Mo_thrown l D τ A ad 485 w11 (by omega) th1 n1 b1 s1 p1 hmo1 X9.n hn1 hO2.2.1) rfl rfl ⟨by decide, by decide⟩ rfl hl12.1 rfl (Nat.le_of_ble_eq_true rfl) d_Lw_law_650 ⟨by show cells + 5 + 0 + 0 ≤ 601024; omega, by show slots + 30 + 0 + 0 ≤ 7293034; omega⟩) (fun v13 w13 H13 locs13 hp13 hW13 => ?_)
  obtain ⟨hq3, rfl⟩ := hp13
  replace hq3 := hq3.symm
  subst hq3
  refine lv_iload F.1 F.2.1 d_Lw_law_653 (lv_at hl12 1 rfl) ?_
  refine q_icmp_eq (tgt := 660) F d_Lw_law_655 (by decide) (fun c14 => ?_) (fun c14 => ?_)
  · refine lv_iload F.1 F.2.1 d_Lw_law_660 (lv_at hl12 1 rfl) ?_
    refine q_if_ne (tgt := 677) F d_Lw_law_662 (by decide) (fun c15 => ?_) (fun c15 => ?_)
    · refine lv_goto (tgt := 1088) F.1 F.2.1 d_Lw_law_677 (by decide) ?_
      exact kk _ _ _ X9 _ ⟨hW13, hX2, ⟨_, hM2⟩, hO2, ⟨_, hU2⟩, (lv_sub hl12 [2, 3, 4, 5, 6] rfl)⟩
    · obtain ⟨r32, er, er2⟩ := hr9 (by omega)
      refine lv_aload_n F.1 F.2.1 d_Lw_law_665 rfl (lv_at hl12 3 rfl) ?_
      refine q_iconst F d_Lw_law_666 (by decide) (fun v16 hv16 => ?_)
      refine q_laldO F hW13 hU2 (by omega) (by omega) d_Lw_law_667 ?_
      refine lv_iload F.1 F.2.1 d_Lw_law_668 (lv_at hl12 0 rfl) ?_
      refine lv_i2l F.1 F.2.1 d_Lw_law_670 rfl ?_
      refine q_lcmpE F (by rw [er]; congr 1; exact q_eqI.mpr (by rw [er2]; exact e2 (by omega))) d_Lw_law_671 (fun vz hvz => ?_)
      refine q_if_eq (tgt := 677) F d_Lw_law_672 (by decide) (fun c17 => ?_) (fun c17 => ?_)
      · refine lv_goto (tgt := 1088) F.1 F.2.1 d_Lw_law_677 (by decide) ?_
        exact kk _ _ _ X9 _ ⟨hW13, hX2, ⟨_, hM2⟩, hO2, ⟨_, hU2⟩, (lv_sub hl12 [2, 3, 4, 5, 6] rfl)⟩
      · exact absurd hvz (by assumption)
  · exact absurd (hth.trans e1.symm) (by omega)
set_option maxHeartbeats 4000000 in
set_option maxRecDepth 100000 in
theorem lwc_tree (F : CallFix p m c code 7 s #[Value.ref b] lw_good "LabelRouterLaw") (hlt : l.stackTraces = false) (hst : qSt A s s.heap) (hXs : va_X b L xs s s.heap) (hbl : b < s.heap.size) (hbA : ¬ A b) (hL : L ≤ 2048) (hS : lwS D τ A s ad b H locs w X B iv ls) (hB : B ≤ 600) (i : Nat) (hiv : iv.toInt = (i : Int)) (hi : i + 4 ≤ L) (hc : cells + 5 ≤ 601024) (hs : slots + 30 ≤ 7293034)
    (kk : ∀ (H1 : Heap) (locs1 : List Loc) (w1 : Nat → va_E) (X1 : zSt) (ls1 : Array Slot), lwS D τ A s ad b H1 locs1 w1 X1 (B + 1) iv ls1 → W p l e room_1 s m #[Value.ref b] below meth c H1 locs1 (cells + 5) (slots + 30) Q (F0 m 1088 ls1 [])) :
    W p l e room_1 s m #[Value.ref b] below meth c H locs cells slots Q (F0 m 680 ls []) := by
  obtain ⟨hW, hX, ⟨t0, hM⟩, hO, ⟨g0, hU⟩, hl⟩ := hS
  refine lv_aload_n F.1 F.2.1 d_Lw_law_680 rfl (lv_at hl 3 rfl) ?_
  refine lv_aload_n F.1 F.2.1 d_Lw_law_681 rfl (lv_at hl 4 rfl) ?_
  refine lv_iload F.1 F.2.1 d_Lw_law_682 (lv_at hl 0 rfl) ?_
  refine q_iconst F d_Lw_law_684 (by decide) (fun v1 hv1 => ?_)
  refine q_iadd F d_Lw_law_685 (by omega) (fun v2 hv2 => ?_)
  refine q_sld F hXs hbl hbA hW (i + 1) (by omega) (by omega) d_Lw_law_686 ?_
  refine lv_aload_n F.1 F.2.1 d_Lw_law_687 rfl (lv_at hl 4 rfl) ?_
  refine lv_iload F.1 F.2.1 d_Lw_law_688 (lv_at hl 0 rfl) ?_
  refine q_iconst F d_Lw_law_690 (by decide) (fun v3 hv3 => ?_)
  refine q_iadd F d_Lw_law_691 (by omega) (fun v4 hv4 => ?_)
  refine q_sld F hXs hbl hbA hW (i + 2) (by omega) (by omega) d_Lw_law_692 ?_
  refine lv_aload_n F.1 F.2.1 d_Lw_law_693 rfl (lv_at hl 4 rfl) ?_
  refine lv_iload F.1 F.2.1 d_Lw_law_694 (lv_at hl 0 rfl) ?_
  refine q_iconst F d_Lw_law_696 (by decide) (fun v5 hv5 => ?_)
  refine q_iadd F d_Lw_law_697 (by omega) (fun v6 hv6 => ?_)
  refine q_sld F hXs hbl hbA hW (i + 3) (by omega) (by omega) d_Lw_law_698 ?_
  refine lv_aload_n F.1 F.2.1 d_Lw_law_699 rfl (lv_at hl 1 rfl) ?_
  refine q_calli hW (qw_cS (As := [.ref (ad 0), .int (xs (i + 1)), .int (xs (i + 2)), .int (xs (i + 3)), .ref (ad 484)]) (rest := []) F hW hst cw_Lw_tree hs_Lw_tree (k_Lw_tree l D τ A ad 485 w hlt (Nat.le_refl 485) X B hX hO (by omega) (xs (i + 1)) (xs (i + 2)) (xs (i + 3)) g0 hU) rfl rfl ⟨by decide, by decide⟩ rfl hl.1 rfl (Nat.le_of_ble_eq_true rfl) d_Lw_law_700 ⟨by show cells + 5 ≤ 601024; omega, by show slots + 30 ≤ 7293034; omega⟩) (fun v7 w7 H7 locs7 hp7 hW7 => ?_)
  obtain ⟨r, X9, g9, hrel, hX9, hU9, hr9, hfr⟩ := hp7
  have hM1 := hM.keep (w' := w7) (fun q h1 h2 => hfr q h1 (by omega))
  obtain ⟨⟨th0, n0, b0, s0, p0, hmo, -⟩, -⟩ := id hM1
  refine lv_istore (lv' := [(5, .int v7), (4, .int iv), (3, .ref (ad 484)), (2, .ref (ad 469)), (1, .ref (ad 0)), (0, .ref b)]) F.1 F.2.1 d_Lw_law_703 hl (by decide) rfl (fun ls8 hl8 => ?_)
  clear hl
  refine lv_aload_n F.1 F.2.1 d_Lw_law_705 rfl (lv_at hl8 3 rfl) ?_
  refine lv_aload_n F.1 F.2.1 d_Lw_law_706 rfl (lv_at hl8 5 rfl) ?_
  refine lv_iload F.1 F.2.1 d_Lw_law_707 (lv_at hl8 1 rfl) ?_
  refine q_iconst F d_Lw_law_709 (by decide) (fun v9 hv9 => ?_)
  refine q_iadd F d_Lw_law_710 (by omega) (fun v10 hv10 => ?_)
  refine q_sld F hXs hbl hbA hW7 (i + 1) (by omega) (by omega) d_Lw_law_711 ?_
  refine lv_aload_n F.1 F.2.1 d_Lw_law_712 rfl (lv_at hl8 5 rfl) ?_
  refine lv_iload F.1 F.2.1 d_Lw_law_713 (lv_at hl8 1 rfl) ?_
  refine q_iconst F d_Lw_law_715 (by decide) (fun v11 hv11 => ?_)
  refine q_iadd F d_Lw_law_716 (by omega) (fun v12 hv12 => ?_)
  refine q_sld F hXs hbl hbA hW7 (i + 2) (by omega) (by omega) d_Lw_law_717 ?_
  refine lv_aload_n F.1 F.2.1 d_Lw_law_718 rfl (lv_at hl8 5 rfl) ?_
  refine lv_iload F.1 F.2.1 d_Lw_law_719 (lv_at hl8 1 rfl) ?_
  refine q_iconst F d_Lw_law_721 (by decide) (fun v13 hv13 => ?_)
  refine q_iadd F d_Lw_law_722 (by omega) (fun v14 hv14 => ?_)
  refine q_sld F hXs hbl hbA hW7 (i + 3) (by omega) (by omega) d_Lw_law_723 ?_
  refine q_calli hW7 (q_cV (As := [.int (xs (i + 1)), .int (xs (i + 2)), .int (xs (i + 3))]) (rest := []) F hW7 cs_Lw_107 hd_Mo_tree rfl (by omega) hmo (k_Mo_tree l D τ A ad 485 w7 (by omega) X B t0 hM1 hO (by omega) (xs (i + 1)) (xs (i + 2)) (xs (i + 3))) rfl rfl ⟨by decide, by decide⟩ rfl hl8.1 rfl (Nat.le_of_ble_eq_true rfl) d_Lw_law_724 ⟨by show cells + 5 + 0 ≤ 601024; omega, by show slots + 30 + 0 ≤ 7293034; omega⟩) (fun v15 w15 H15 locs15 hp15 hW15 => ?_)
  obtain ⟨kk2, X8, hrel2, hM2, hfr2⟩ := hp15
  obtain ⟨e1, e2, e3⟩ := zU_tree hrel hrel2
  subst e3
  have hX2 := hX9.keep (w' := w15) (fun q hq => hfr2 q (by omega))
  have hU2 := hU9.keep (w' := w15) (hfr2 484 (by omega))
  have hO2 : zOK X9 (B + 1) := by obtain ⟨e, -⟩ := hrel; rw [e]; exact hO.up (by omega)
  obtain ⟨⟨th1, n1, b1, s1, p1, hmo1, hth, hn1, -⟩, -⟩ := id hM2
  refine lv_istore (lv' := [(6, .int v15), (5, .int v7), (4, .int iv), (3, .ref (ad 484)), (2, .ref (ad 469)), (1, .ref (ad 0)), (0, .ref b)]) F.1 F.2.1 d_Lw_law_727 hl8 (by decide) rfl (fun ls16 hl16 => ?_)
  clear hl8
  refine lv_aload_n F.1 F.2.1 d_Lw_law_729 rfl (lv_at hl16 4 rfl) ?_
  refine q_calli hW15 (q_cV (As := []) (rest := []) F hW15 cs_Lw_74 hd_Mo_thrown rfl (by omega) hmo1 (k_Mo_thrown l D τ A ad 485 w15 (by omega) th1 n1 b1 s1 p1 hmo1 X9.n hn1 hO2.2.1) rfl rfl ⟨by decide, by decide⟩ rfl hl16.1 rfl (Nat.le_of_ble_eq_true rfl) d_Lw_law_730 ⟨by show cells + 5 + 0 + 0 ≤ 601024; omega, by show slots + 30 + 0 + 0 ≤ 7293034; omega⟩) (fun v17 w17 H17 locs17 hp17 hW17 => ?_)
  obtain ⟨hq3, rfl⟩ := hp17
  replace hq3 := hq3.symm
  subst hq3
  refine lv_iload F.1 F.2.1 d_Lw_law_733 (lv_at hl16 1 rfl) ?_
  refine q_icmp_eq (tgt := 740) F d_Lw_law_735 (by decide) (fun c18 => ?_) (fun c18 => ?_)
  · refine lv_iload F.1 F.2.1 d_Lw_law_740 (lv_at hl16 1 rfl) ?_
    refine q_if_ne (tgt := 757) F d_Lw_law_742 (by decide) (fun c19 => ?_) (fun c19 => ?_)
    · refine lv_goto (tgt := 1088) F.1 F.2.1 d_Lw_law_757 (by decide) ?_
      exact kk _ _ _ X9 _ ⟨hW17, hX2, ⟨_, hM2⟩, hO2, ⟨_, hU2⟩, (lv_sub hl16 [2, 3, 4, 5, 6] rfl)⟩
    · obtain ⟨r32, er, er2⟩ := hr9 (by omega)
      refine lv_aload_n F.1 F.2.1 d_Lw_law_745 rfl (lv_at hl16 3 rfl) ?_
      refine q_iconst F d_Lw_law_746 (by decide) (fun v20 hv20 => ?_)
      refine q_laldO F hW17 hU2 (by omega) (by omega) d_Lw_law_747 ?_
      refine lv_iload F.1 F.2.1 d_Lw_law_748 (lv_at hl16 0 rfl) ?_
      refine lv_i2l F.1 F.2.1 d_Lw_law_750 rfl ?_
      refine q_lcmpE F (by rw [er]; congr 1; exact q_eqI.mpr (by rw [er2]; exact e2 (by omega))) d_Lw_law_751 (fun vz hvz => ?_)
      refine q_if_eq (tgt := 757) F d_Lw_law_752 (by decide) (fun c21 => ?_) (fun c21 => ?_)
      · refine lv_goto (tgt := 1088) F.1 F.2.1 d_Lw_law_757 (by decide) ?_
        exact kk _ _ _ X9 _ ⟨hW17, hX2, ⟨_, hM2⟩, hO2, ⟨_, hU2⟩, (lv_sub hl16 [2, 3, 4, 5, 6] rfl)⟩
      · exact absurd hvz (by assumption)
  · exact absurd (hth.trans e1.symm) (by omega)
set_option maxHeartbeats 4000000 in
set_option maxRecDepth 100000 in
theorem lwc_send (F : CallFix p m c code 7 s #[Value.ref b] lw_good "LabelRouterLaw") (hlt : l.stackTraces = false) (hst : qSt A s s.heap) (hXs : va_X b L xs s s.heap) (hbl : b < s.heap.size) (hbA : ¬ A b) (hL : L ≤ 2048) (hS : lwS D τ A s ad b H locs w X B iv ls) (hB : B ≤ 600) (i : Nat) (hiv : iv.toInt = (i : Int)) (hi : i + 4 ≤ L) (hc : cells + 5 ≤ 601024) (hs : slots + 30 ≤ 7293034)
    (kk : ∀ (H1 : Heap) (locs1 : List Loc) (w1 : Nat → va_E) (X1 : zSt) (ls1 : Array Slot), lwS D τ A s ad b H1 locs1 w1 X1 (B + 1) iv ls1 → W p l e room_1 s m #[Value.ref b] below meth c H1 locs1 (cells + 5) (slots + 30) Q (F0 m 1088 ls1 [])) :
    W p l e room_1 s m #[Value.ref b] below meth c H locs cells slots Q (F0 m 760 ls []) := by
  obtain ⟨hW, hX, ⟨t0, hM⟩, hO, ⟨g0, hU⟩, hl⟩ := hS
  refine lv_aload_n F.1 F.2.1 d_Lw_law_760 rfl (lv_at hl 3 rfl) ?_
  refine lv_aload_n F.1 F.2.1 d_Lw_law_761 rfl (lv_at hl 4 rfl) ?_
  refine lv_iload F.1 F.2.1 d_Lw_law_762 (lv_at hl 0 rfl) ?_
  refine q_iconst F d_Lw_law_764 (by decide) (fun v1 hv1 => ?_)
  refine q_iadd F d_Lw_law_765 (by omega) (fun v2 hv2 => ?_)
  refine q_sld F hXs hbl hbA hW (i + 1) (by omega) (by omega) d_Lw_law_766 ?_
  refine lv_aload_n F.1 F.2.1 d_Lw_law_767 rfl (lv_at hl 4 rfl) ?_
  refine lv_iload F.1 F.2.1 d_Lw_law_768 (lv_at hl 0 rfl) ?_
  refine q_iconst F d_Lw_law_770 (by decide) (fun v3 hv3 => ?_)
  refine q_iadd F d_Lw_law_771 (by omega) (fun v4 hv4 => ?_)
  refine q_sld F hXs hbl hbA hW (i + 2) (by omega) (by omega) d_Lw_law_772 ?_
  refine lv_aload_n F.1 F.2.1 d_Lw_law_773 rfl (lv_at hl 1 rfl) ?_
  refine q_calli hW (qw_cS (As := [.ref (ad 0), .int (xs (i + 1)), .int (xs (i + 2)), .ref (ad 484)]) (rest := []) F hW hst cw_Lw_send hs_Lw_send (k_Lw_send l D τ A ad 485 w hlt (Nat.le_refl 485) X B hX hO (by omega) (xs (i + 1)) (xs (i + 2)) g0 hU) rfl rfl ⟨by decide, by decide⟩ rfl hl.1 rfl (Nat.le_of_ble_eq_true rfl) d_Lw_law_774 ⟨by show cells + 5 ≤ 601024; omega, by show slots + 30 ≤ 7293034; omega⟩) (fun v5 w5 H5 locs5 hp5 hW5 => ?_)
  obtain ⟨r, X9, g9, hrel, hX9, hU9, hr9, hfr⟩ := hp5
  have hM1 := hM.keep (w' := w5) (fun q h1 h2 => hfr q h1 (by omega))
  obtain ⟨⟨th0, n0, b0, s0, p0, hmo, -⟩, -⟩ := id hM1
  refine lv_istore (lv' := [(5, .int v5), (4, .int iv), (3, .ref (ad 484)), (2, .ref (ad 469)), (1, .ref (ad 0)), (0, .ref b)]) F.1 F.2.1 d_Lw_law_777 hl (by decide) rfl (fun ls6 hl6 => ?_)
  clear hl
  refine lv_aload_n F.1 F.2.1 d_Lw_law_779 rfl (lv_at hl6 3 rfl) ?_
  refine lv_aload_n F.1 F.2.1 d_Lw_law_780 rfl (lv_at hl6 5 rfl) ?_
  refine lv_iload F.1 F.2.1 d_Lw_law_781 (lv_at hl6 1 rfl) ?_
  refine q_iconst F d_Lw_law_783 (by decide) (fun v7 hv7 => ?_)
  refine q_iadd F d_Lw_law_784 (by omega) (fun v8 hv8 => ?_)
  refine q_sld F hXs hbl hbA hW5 (i + 1) (by omega) (by omega) d_Lw_law_785 ?_
  refine lv_aload_n F.1 F.2.1 d_Lw_law_786 rfl (lv_at hl6 5 rfl) ?_
  refine lv_iload F.1 F.2.1 d_Lw_law_787 (lv_at hl6 1 rfl) ?_
  refine q_iconst F d_Lw_law_789 (by decide) (fun v9 hv9 => ?_)
  refine q_iadd F d_Lw_law_790 (by omega) (fun v10 hv10 => ?_)
  refine q_sld F hXs hbl hbA hW5 (i + 2) (by omega) (by omega) d_Lw_law_791 ?_
  refine q_calli hW5 (q_cV (As := [.int (xs (i + 1)), .int (xs (i + 2))]) (rest := []) F hW5 cs_Lw_110 hd_Mo_send rfl (by omega) hmo (k_Mo_send l D τ A ad 485 w5 (by omega) X B t0 hM1 hO (by omega) (xs (i + 1)) (xs (i + 2))) rfl rfl ⟨by decide, by decide⟩ rfl hl6.1 rfl (Nat.le_of_ble_eq_true rfl) d_Lw_law_792 ⟨by show cells + 5 + 0 ≤ 601024; omega, by show slots + 30 + 0 ≤ 7293034; omega⟩) (fun v11 w11 H11 locs11 hp11 hW11 => ?_)
  obtain ⟨kk2, X8, hrel2, hM2, hfr2⟩ := hp11
  obtain ⟨e1, e2, e3⟩ := zU_send hrel hrel2
  subst e3
  have hX2 := hX9.keep (w' := w11) (fun q hq => hfr2 q (by omega))
  have hU2 := hU9.keep (w' := w11) (hfr2 484 (by omega))
  have hO2 := zK_send hO hrel
  obtain ⟨⟨th1, n1, b1, s1, p1, hmo1, hth, hn1, -⟩, -⟩ := id hM2
  refine lv_istore (lv' := [(6, .int v11), (5, .int v5), (4, .int iv), (3, .ref (ad 484)), (2, .ref (ad 469)), (1, .ref (ad 0)), (0, .ref b)]) F.1 F.2.1 d_Lw_law_795 hl6 (by decide) rfl (fun ls12 hl12 => ?_)
  clear hl6
  refine lv_aload_n F.1 F.2.1 d_Lw_law_797 rfl (lv_at hl12 4 rfl) ?_
  refine q_calli hW11 (q_cV (As := []) (rest := []) F hW11 cs_Lw_74 hd_Mo_thrown rfl (by omega) hmo1 (k_Mo_thrown l D τ A ad 485 w11 (by omega) th1 n1 b1 s1 p1 hmo1 X9.n hn1 hO2.2.1) rfl rfl ⟨by decide, by decide⟩ rfl hl12.1 rfl (Nat.le_of_ble_eq_true rfl) d_Lw_law_798 ⟨by show cells + 5 + 0 + 0 ≤ 601024; omega, by show slots + 30 + 0 + 0 ≤ 7293034; omega⟩) (fun v13 w13 H13 locs13 hp13 hW13 => ?_)
  obtain ⟨hq3, rfl⟩ := hp13
  replace hq3 := hq3.symm
  subst hq3
  refine lv_iload F.1 F.2.1 d_Lw_law_801 (lv_at hl12 1 rfl) ?_
  refine q_icmp_eq (tgt := 808) F d_Lw_law_803 (by decide) (fun c14 => ?_) (fun c14 => ?_)
  · refine lv_iload F.1 F.2.1 d_Lw_law_808 (lv_at hl12 1 rfl) ?_
    refine q_if_ne (tgt := 825) F d_Lw_law_810 (by decide) (fun c15 => ?_) (fun c15 => ?_)
    · refine lv_goto (tgt := 1088) F.1 F.2.1 d_Lw_law_825 (by decide) ?_
      exact kk _ _ _ X9 _ ⟨hW13, hX2, ⟨_, hM2⟩, hO2, ⟨_, hU2⟩, (lv_sub hl12 [2, 3, 4, 5, 6] rfl)⟩
    · obtain ⟨r32, er, er2⟩ := hr9 (by omega)
      refine lv_aload_n F.1 F.2.1 d_Lw_law_813 rfl (lv_at hl12 3 rfl) ?_
      refine q_iconst F d_Lw_law_814 (by decide) (fun v16 hv16 => ?_)
      refine q_laldO F hW13 hU2 (by omega) (by omega) d_Lw_law_815 ?_
      refine lv_iload F.1 F.2.1 d_Lw_law_816 (lv_at hl12 0 rfl) ?_
      refine lv_i2l F.1 F.2.1 d_Lw_law_818 rfl ?_
      refine q_lcmpE F (by rw [er]; congr 1; exact q_eqI.mpr (by rw [er2]; exact e2 (by omega))) d_Lw_law_819 (fun vz hvz => ?_)
      refine q_if_eq (tgt := 825) F d_Lw_law_820 (by decide) (fun c17 => ?_) (fun c17 => ?_)
      · refine lv_goto (tgt := 1088) F.1 F.2.1 d_Lw_law_825 (by decide) ?_
        exact kk _ _ _ X9 _ ⟨hW13, hX2, ⟨_, hM2⟩, hO2, ⟨_, hU2⟩, (lv_sub hl12 [2, 3, 4, 5, 6] rfl)⟩
      · exact absurd hvz (by assumption)
  · exact absurd (hth.trans e1.symm) (by omega)
set_option maxHeartbeats 4000000 in
set_option maxRecDepth 100000 in
theorem lwc_hop (F : CallFix p m c code 7 s #[Value.ref b] lw_good "LabelRouterLaw") (hlt : l.stackTraces = false) (hst : qSt A s s.heap) (hXs : va_X b L xs s s.heap) (hbl : b < s.heap.size) (hbA : ¬ A b) (hL : L ≤ 2048) (hS : lwS D τ A s ad b H locs w X B iv ls) (hB : B ≤ 600) (i : Nat) (hiv : iv.toInt = (i : Int)) (hi : i + 4 ≤ L) (hc : cells + 5 ≤ 601024) (hs : slots + 30 ≤ 7293034)
    (kk : ∀ (H1 : Heap) (locs1 : List Loc) (w1 : Nat → va_E) (X1 : zSt) (ls1 : Array Slot), lwS D τ A s ad b H1 locs1 w1 X1 (B + 1) iv ls1 → W p l e room_1 s m #[Value.ref b] below meth c H1 locs1 (cells + 5) (slots + 30) Q (F0 m 1088 ls1 [])) :
    W p l e room_1 s m #[Value.ref b] below meth c H locs cells slots Q (F0 m 828 ls []) := by
  obtain ⟨hW, hX, ⟨t0, hM⟩, hO, ⟨g0, hU⟩, hl⟩ := hS
  refine lv_aload_n F.1 F.2.1 d_Lw_law_828 rfl (lv_at hl 3 rfl) ?_
  refine lv_aload_n F.1 F.2.1 d_Lw_law_829 rfl (lv_at hl 4 rfl) ?_
  refine lv_iload F.1 F.2.1 d_Lw_law_830 (lv_at hl 0 rfl) ?_
  refine q_iconst F d_Lw_law_832 (by decide) (fun v1 hv1 => ?_)
  refine q_iadd F d_Lw_law_833 (by omega) (fun v2 hv2 => ?_)
  refine q_sld F hXs hbl hbA hW (i + 1) (by omega) (by omega) d_Lw_law_834 ?_
  refine lv_aload_n F.1 F.2.1 d_Lw_law_835 rfl (lv_at hl 1 rfl) ?_
  refine q_calli hW (qw_cS (As := [.ref (ad 0), .int (xs (i + 1)), .ref (ad 484)]) (rest := []) F hW hst cw_Lw_hop hs_Lw_hop (k_Lw_hop l D τ A ad 485 w hlt (Nat.le_refl 485) X B hX hO (by omega) (xs (i + 1)) g0 hU) rfl rfl ⟨by decide, by decide⟩ rfl hl.1 rfl (Nat.le_of_ble_eq_true rfl) d_Lw_law_836 ⟨by show cells + 5 ≤ 601024; omega, by show slots + 30 ≤ 7293034; omega⟩) (fun v3 w3 H3 locs3 hp3 hW3 => ?_)
  obtain ⟨r, X9, g9, hrel, hX9, hU9, hr9, hfr⟩ := hp3
  have hM1 := hM.keep (w' := w3) (fun q h1 h2 => hfr q h1 (by omega))
  obtain ⟨⟨th0, n0, b0, s0, p0, hmo, -⟩, -⟩ := id hM1
  refine lv_istore (lv' := [(5, .int v3), (4, .int iv), (3, .ref (ad 484)), (2, .ref (ad 469)), (1, .ref (ad 0)), (0, .ref b)]) F.1 F.2.1 d_Lw_law_839 hl (by decide) rfl (fun ls4 hl4 => ?_)
  clear hl
  refine lv_aload_n F.1 F.2.1 d_Lw_law_841 rfl (lv_at hl4 3 rfl) ?_
  refine lv_aload_n F.1 F.2.1 d_Lw_law_842 rfl (lv_at hl4 5 rfl) ?_
  refine lv_iload F.1 F.2.1 d_Lw_law_843 (lv_at hl4 1 rfl) ?_
  refine q_iconst F d_Lw_law_845 (by decide) (fun v5 hv5 => ?_)
  refine q_iadd F d_Lw_law_846 (by omega) (fun v6 hv6 => ?_)
  refine q_sld F hXs hbl hbA hW3 (i + 1) (by omega) (by omega) d_Lw_law_847 ?_
  refine q_calli hW3 (q_cV (As := [.int (xs (i + 1))]) (rest := []) F hW3 cs_Lw_113 hd_Mo_hop rfl (by omega) hmo (k_Mo_hop l D τ A ad 485 w3 (by omega) X B t0 hM1 hO (by omega) (xs (i + 1))) rfl rfl ⟨by decide, by decide⟩ rfl hl4.1 rfl (Nat.le_of_ble_eq_true rfl) d_Lw_law_848 ⟨by show cells + 5 + 0 ≤ 601024; omega, by show slots + 30 + 0 ≤ 7293034; omega⟩) (fun v7 w7 H7 locs7 hp7 hW7 => ?_)
  obtain ⟨kk2, X8, hrel2, hM2, hfr2⟩ := hp7
  obtain ⟨e1, e2, e3⟩ := zU_hop hrel hrel2
  subst e3
  have hX2 := hX9.keep (w' := w7) (fun q hq => hfr2 q (by omega))
  have hU2 := hU9.keep (w' := w7) (hfr2 484 (by omega))
  have hO2 := zK_hop hO hrel
  obtain ⟨⟨th1, n1, b1, s1, p1, hmo1, hth, hn1, -⟩, -⟩ := id hM2
  refine lv_istore (lv' := [(6, .int v7), (5, .int v3), (4, .int iv), (3, .ref (ad 484)), (2, .ref (ad 469)), (1, .ref (ad 0)), (0, .ref b)]) F.1 F.2.1 d_Lw_law_851 hl4 (by decide) rfl (fun ls8 hl8 => ?_)
  clear hl4
  refine lv_aload_n F.1 F.2.1 d_Lw_law_853 rfl (lv_at hl8 4 rfl) ?_
  refine q_calli hW7 (q_cV (As := []) (rest := []) F hW7 cs_Lw_74 hd_Mo_thrown rfl (by omega) hmo1 (k_Mo_thrown l D τ A ad 485 w7 (by omega) th1 n1 b1 s1 p1 hmo1 X9.n hn1 hO2.2.1) rfl rfl ⟨by decide, by decide⟩ rfl hl8.1 rfl (Nat.le_of_ble_eq_true rfl) d_Lw_law_854 ⟨by show cells + 5 + 0 + 0 ≤ 601024; omega, by show slots + 30 + 0 + 0 ≤ 7293034; omega⟩) (fun v9 w9 H9 locs9 hp9 hW9 => ?_)
  obtain ⟨hq3, rfl⟩ := hp9
  replace hq3 := hq3.symm
  subst hq3
  refine lv_iload F.1 F.2.1 d_Lw_law_857 (lv_at hl8 1 rfl) ?_
  refine q_icmp_eq (tgt := 864) F d_Lw_law_859 (by decide) (fun c10 => ?_) (fun c10 => ?_)
  · refine lv_iload F.1 F.2.1 d_Lw_law_864 (lv_at hl8 1 rfl) ?_
    refine q_if_ne (tgt := 881) F d_Lw_law_866 (by decide) (fun c11 => ?_) (fun c11 => ?_)
    · refine lv_goto (tgt := 1088) F.1 F.2.1 d_Lw_law_881 (by decide) ?_
      exact kk _ _ _ X9 _ ⟨hW9, hX2, ⟨_, hM2⟩, hO2, ⟨_, hU2⟩, (lv_sub hl8 [2, 3, 4, 5, 6] rfl)⟩
    · obtain ⟨r32, er, er2⟩ := hr9 (by omega)
      refine lv_aload_n F.1 F.2.1 d_Lw_law_869 rfl (lv_at hl8 3 rfl) ?_
      refine q_iconst F d_Lw_law_870 (by decide) (fun v12 hv12 => ?_)
      refine q_laldO F hW9 hU2 (by omega) (by omega) d_Lw_law_871 ?_
      refine lv_iload F.1 F.2.1 d_Lw_law_872 (lv_at hl8 0 rfl) ?_
      refine lv_i2l F.1 F.2.1 d_Lw_law_874 rfl ?_
      refine q_lcmpE F (by rw [er]; congr 1; exact q_eqI.mpr (by rw [er2]; exact e2 (by omega))) d_Lw_law_875 (fun vz hvz => ?_)
      refine q_if_eq (tgt := 881) F d_Lw_law_876 (by decide) (fun c13 => ?_) (fun c13 => ?_)
      · refine lv_goto (tgt := 1088) F.1 F.2.1 d_Lw_law_881 (by decide) ?_
        exact kk _ _ _ X9 _ ⟨hW9, hX2, ⟨_, hM2⟩, hO2, ⟨_, hU2⟩, (lv_sub hl8 [2, 3, 4, 5, 6] rfl)⟩
      · exact absurd hvz (by assumption)
  · exact absurd (hth.trans e1.symm) (by omega)
set_option maxHeartbeats 4000000 in
set_option maxRecDepth 100000 in
theorem lwc_weight (F : CallFix p m c code 7 s #[Value.ref b] lw_good "LabelRouterLaw") (hlt : l.stackTraces = false) (hst : qSt A s s.heap) (hXs : va_X b L xs s s.heap) (hbl : b < s.heap.size) (hbA : ¬ A b) (hL : L ≤ 2048) (hS : lwS D τ A s ad b H locs w X B iv ls) (hB : B ≤ 600) (i : Nat) (hiv : iv.toInt = (i : Int)) (hi : i + 4 ≤ L) (hc : cells + 5 ≤ 601024) (hs : slots + 30 ≤ 7293034)
    (kk : ∀ (H1 : Heap) (locs1 : List Loc) (w1 : Nat → va_E) (X1 : zSt) (ls1 : Array Slot), lwS D τ A s ad b H1 locs1 w1 X1 (B + 1) iv ls1 → W p l e room_1 s m #[Value.ref b] below meth c H1 locs1 (cells + 5) (slots + 30) Q (F0 m 1088 ls1 [])) :
    W p l e room_1 s m #[Value.ref b] below meth c H locs cells slots Q (F0 m 884 ls []) := by
  obtain ⟨hW, hX, ⟨t0, hM⟩, hO, ⟨g0, hU⟩, hl⟩ := hS
  refine lv_aload_n F.1 F.2.1 d_Lw_law_884 rfl (lv_at hl 3 rfl) ?_
  refine lv_aload_n F.1 F.2.1 d_Lw_law_885 rfl (lv_at hl 4 rfl) ?_
  refine lv_iload F.1 F.2.1 d_Lw_law_886 (lv_at hl 0 rfl) ?_
  refine q_iconst F d_Lw_law_888 (by decide) (fun v1 hv1 => ?_)
  refine q_iadd F d_Lw_law_889 (by omega) (fun v2 hv2 => ?_)
  refine q_sld F hXs hbl hbA hW (i + 1) (by omega) (by omega) d_Lw_law_890 ?_
  refine lv_aload_n F.1 F.2.1 d_Lw_law_891 rfl (lv_at hl 1 rfl) ?_
  refine q_calli hW (qw_cS (As := [.ref (ad 0), .int (xs (i + 1)), .ref (ad 484)]) (rest := []) F hW hst cw_Lw_weight hs_Lw_weight (k_Lw_weight l D τ A ad 485 w hlt (Nat.le_refl 485) X B hX hO (by omega) (xs (i + 1)) g0 hU) rfl rfl ⟨by decide, by decide⟩ rfl hl.1 rfl (Nat.le_of_ble_eq_true rfl) d_Lw_law_892 ⟨by show cells + 5 ≤ 601024; omega, by show slots + 30 ≤ 7293034; omega⟩) (fun v3 w3 H3 locs3 hp3 hW3 => ?_)
  obtain ⟨r, X9, g9, hrel, hX9, hU9, hr9, hfr⟩ := hp3
  have hM1 := hM.keep (w' := w3) (fun q h1 h2 => hfr q h1 (by omega))
  obtain ⟨⟨th0, n0, b0, s0, p0, hmo, -⟩, -⟩ := id hM1
  refine lv_istore (lv' := [(5, .int v3), (4, .int iv), (3, .ref (ad 484)), (2, .ref (ad 469)), (1, .ref (ad 0)), (0, .ref b)]) F.1 F.2.1 d_Lw_law_895 hl (by decide) rfl (fun ls4 hl4 => ?_)
  clear hl
  refine lv_aload_n F.1 F.2.1 d_Lw_law_897 rfl (lv_at hl4 3 rfl) ?_
  refine lv_aload_n F.1 F.2.1 d_Lw_law_898 rfl (lv_at hl4 5 rfl) ?_
  refine lv_iload F.1 F.2.1 d_Lw_law_899 (lv_at hl4 1 rfl) ?_
  refine q_iconst F d_Lw_law_901 (by decide) (fun v5 hv5 => ?_)
  refine q_iadd F d_Lw_law_902 (by omega) (fun v6 hv6 => ?_)
  refine q_sld F hXs hbl hbA hW3 (i + 1) (by omega) (by omega) d_Lw_law_903 ?_
  refine q_calli hW3 (q_cV (As := [.int (xs (i + 1))]) (rest := []) F hW3 cs_Lw_116 hd_Mo_weight rfl (by omega) hmo (k_Mo_weight l D τ A ad 485 w3 (by omega) X B t0 hM1 hO (by omega) (xs (i + 1))) rfl rfl ⟨by decide, by decide⟩ rfl hl4.1 rfl (Nat.le_of_ble_eq_true rfl) d_Lw_law_904 ⟨by show cells + 5 + 0 ≤ 601024; omega, by show slots + 30 + 0 ≤ 7293034; omega⟩) (fun v7 w7 H7 locs7 hp7 hW7 => ?_)
  obtain ⟨kk2, X8, hrel2, hM2, hfr2⟩ := hp7
  obtain ⟨e1, e2, e3⟩ := zU_weight hrel hrel2
  subst e3
  have hX2 := hX9.keep (w' := w7) (fun q hq => hfr2 q (by omega))
  have hU2 := hU9.keep (w' := w7) (hfr2 484 (by omega))
  have hO2 : zOK X9 (B + 1) := by obtain ⟨e, -⟩ := hrel; rw [e]; exact hO.up (by omega)
  obtain ⟨⟨th1, n1, b1, s1, p1, hmo1, hth, hn1, -⟩, -⟩ := id hM2
  refine lv_istore (lv' := [(6, .int v7), (5, .int v3), (4, .int iv), (3, .ref (ad 484)), (2, .ref (ad 469)), (1, .ref (ad 0)), (0, .ref b)]) F.1 F.2.1 d_Lw_law_907 hl4 (by decide) rfl (fun ls8 hl8 => ?_)
  clear hl4
  refine lv_aload_n F.1 F.2.1 d_Lw_law_909 rfl (lv_at hl8 4 rfl) ?_
  refine q_calli hW7 (q_cV (As := []) (rest := []) F hW7 cs_Lw_74 hd_Mo_thrown rfl (by omega) hmo1 (k_Mo_thrown l D τ A ad 485 w7 (by omega) th1 n1 b1 s1 p1 hmo1 X9.n hn1 hO2.2.1) rfl rfl ⟨by decide, by decide⟩ rfl hl8.1 rfl (Nat.le_of_ble_eq_true rfl) d_Lw_law_910 ⟨by show cells + 5 + 0 + 0 ≤ 601024; omega, by show slots + 30 + 0 + 0 ≤ 7293034; omega⟩) (fun v9 w9 H9 locs9 hp9 hW9 => ?_)
  obtain ⟨hq3, rfl⟩ := hp9
  replace hq3 := hq3.symm
  subst hq3
  refine lv_iload F.1 F.2.1 d_Lw_law_913 (lv_at hl8 1 rfl) ?_
  refine q_icmp_eq (tgt := 920) F d_Lw_law_915 (by decide) (fun c10 => ?_) (fun c10 => ?_)
  · refine lv_iload F.1 F.2.1 d_Lw_law_920 (lv_at hl8 1 rfl) ?_
    refine q_if_ne (tgt := 937) F d_Lw_law_922 (by decide) (fun c11 => ?_) (fun c11 => ?_)
    · refine lv_goto (tgt := 1088) F.1 F.2.1 d_Lw_law_937 (by decide) ?_
      exact kk _ _ _ X9 _ ⟨hW9, hX2, ⟨_, hM2⟩, hO2, ⟨_, hU2⟩, (lv_sub hl8 [2, 3, 4, 5, 6] rfl)⟩
    · obtain ⟨r32, er, er2⟩ := hr9 (by omega)
      refine lv_aload_n F.1 F.2.1 d_Lw_law_925 rfl (lv_at hl8 3 rfl) ?_
      refine q_iconst F d_Lw_law_926 (by decide) (fun v12 hv12 => ?_)
      refine q_laldO F hW9 hU2 (by omega) (by omega) d_Lw_law_927 ?_
      refine lv_iload F.1 F.2.1 d_Lw_law_928 (lv_at hl8 0 rfl) ?_
      refine lv_i2l F.1 F.2.1 d_Lw_law_930 rfl ?_
      refine q_lcmpE F (by rw [er]; congr 1; exact q_eqI.mpr (by rw [er2]; exact e2 (by omega))) d_Lw_law_931 (fun vz hvz => ?_)
      refine q_if_eq (tgt := 937) F d_Lw_law_932 (by decide) (fun c13 => ?_) (fun c13 => ?_)
      · refine lv_goto (tgt := 1088) F.1 F.2.1 d_Lw_law_937 (by decide) ?_
        exact kk _ _ _ X9 _ ⟨hW9, hX2, ⟨_, hM2⟩, hO2, ⟨_, hU2⟩, (lv_sub hl8 [2, 3, 4, 5, 6] rfl)⟩
      · exact absurd hvz (by assumption)
  · exact absurd (hth.trans e1.symm) (by omega)
set_option maxHeartbeats 4000000 in
set_option maxRecDepth 100000 in
theorem lwc_distance (F : CallFix p m c code 7 s #[Value.ref b] lw_good "LabelRouterLaw") (hlt : l.stackTraces = false) (hst : qSt A s s.heap) (hXs : va_X b L xs s s.heap) (hbl : b < s.heap.size) (hbA : ¬ A b) (hL : L ≤ 2048) (hS : lwS D τ A s ad b H locs w X B iv ls) (hB : B ≤ 600) (i : Nat) (hiv : iv.toInt = (i : Int)) (hi : i + 4 ≤ L) (hc : cells + 5 ≤ 601024) (hs : slots + 30 ≤ 7293034)
    (kk : ∀ (H1 : Heap) (locs1 : List Loc) (w1 : Nat → va_E) (X1 : zSt) (ls1 : Array Slot), lwS D τ A s ad b H1 locs1 w1 X1 (B + 1) iv ls1 → W p l e room_1 s m #[Value.ref b] below meth c H1 locs1 (cells + 5) (slots + 30) Q (F0 m 1088 ls1 [])) :
    W p l e room_1 s m #[Value.ref b] below meth c H locs cells slots Q (F0 m 940 ls []) := by
  obtain ⟨hW, hX, ⟨t0, hM⟩, hO, ⟨g0, hU⟩, hl⟩ := hS
  refine lv_aload_n F.1 F.2.1 d_Lw_law_940 rfl (lv_at hl 3 rfl) ?_
  refine lv_aload_n F.1 F.2.1 d_Lw_law_941 rfl (lv_at hl 4 rfl) ?_
  refine lv_iload F.1 F.2.1 d_Lw_law_942 (lv_at hl 0 rfl) ?_
  refine q_iconst F d_Lw_law_944 (by decide) (fun v1 hv1 => ?_)
  refine q_iadd F d_Lw_law_945 (by omega) (fun v2 hv2 => ?_)
  refine q_sld F hXs hbl hbA hW (i + 1) (by omega) (by omega) d_Lw_law_946 ?_
  refine lv_aload_n F.1 F.2.1 d_Lw_law_947 rfl (lv_at hl 4 rfl) ?_
  refine lv_iload F.1 F.2.1 d_Lw_law_948 (lv_at hl 0 rfl) ?_
  refine q_iconst F d_Lw_law_950 (by decide) (fun v3 hv3 => ?_)
  refine q_iadd F d_Lw_law_951 (by omega) (fun v4 hv4 => ?_)
  refine q_sld F hXs hbl hbA hW (i + 2) (by omega) (by omega) d_Lw_law_952 ?_
  refine lv_aload_n F.1 F.2.1 d_Lw_law_953 rfl (lv_at hl 1 rfl) ?_
  refine q_calli hW (qw_cS (As := [.ref (ad 0), .int (xs (i + 1)), .int (xs (i + 2)), .ref (ad 484)]) (rest := []) F hW hst cw_Lw_distance hs_Lw_distance (k_Lw_distance l D τ A ad 485 w hlt (Nat.le_refl 485) X B hX hO (by omega) (xs (i + 1)) (xs (i + 2)) g0 hU) rfl rfl ⟨by decide, by decide⟩ rfl hl.1 rfl (Nat.le_of_ble_eq_true rfl) d_Lw_law_954 ⟨by show cells + 5 ≤ 601024; omega, by show slots + 30 ≤ 7293034; omega⟩) (fun v5 w5 H5 locs5 hp5 hW5 => ?_)
  obtain ⟨r, X9, g9, hrel, hX9, hU9, hr9, hfr⟩ := hp5
  have hM1 := hM.keep (w' := w5) (fun q h1 h2 => hfr q h1 (by omega))
  obtain ⟨⟨th0, n0, b0, s0, p0, hmo, -⟩, -⟩ := id hM1
  refine lv_istore (lv' := [(5, .int v5), (4, .int iv), (3, .ref (ad 484)), (2, .ref (ad 469)), (1, .ref (ad 0)), (0, .ref b)]) F.1 F.2.1 d_Lw_law_957 hl (by decide) rfl (fun ls6 hl6 => ?_)
  clear hl
  refine lv_aload_n F.1 F.2.1 d_Lw_law_959 rfl (lv_at hl6 3 rfl) ?_
  refine lv_aload_n F.1 F.2.1 d_Lw_law_960 rfl (lv_at hl6 5 rfl) ?_
  refine lv_iload F.1 F.2.1 d_Lw_law_961 (lv_at hl6 1 rfl) ?_
  refine q_iconst F d_Lw_law_963 (by decide) (fun v7 hv7 => ?_)
  refine q_iadd F d_Lw_law_964 (by omega) (fun v8 hv8 => ?_)
  refine q_sld F hXs hbl hbA hW5 (i + 1) (by omega) (by omega) d_Lw_law_965 ?_
  refine lv_aload_n F.1 F.2.1 d_Lw_law_966 rfl (lv_at hl6 5 rfl) ?_
  refine lv_iload F.1 F.2.1 d_Lw_law_967 (lv_at hl6 1 rfl) ?_
  refine q_iconst F d_Lw_law_969 (by decide) (fun v9 hv9 => ?_)
  refine q_iadd F d_Lw_law_970 (by omega) (fun v10 hv10 => ?_)
  refine q_sld F hXs hbl hbA hW5 (i + 2) (by omega) (by omega) d_Lw_law_971 ?_
  refine q_calli hW5 (q_cV (As := [.int (xs (i + 1)), .int (xs (i + 2))]) (rest := []) F hW5 cs_Lw_119 hd_Mo_distance rfl (by omega) hmo (k_Mo_distance l D τ A ad 485 w5 (by omega) X B t0 hM1 hO (by omega) (xs (i + 1)) (xs (i + 2))) rfl rfl ⟨by decide, by decide⟩ rfl hl6.1 rfl (Nat.le_of_ble_eq_true rfl) d_Lw_law_972 ⟨by show cells + 5 + 0 ≤ 601024; omega, by show slots + 30 + 0 ≤ 7293034; omega⟩) (fun v11 w11 H11 locs11 hp11 hW11 => ?_)
  obtain ⟨kk2, X8, hrel2, hM2, hfr2⟩ := hp11
  obtain ⟨e1, e2, e3⟩ := zU_distance hrel hrel2
  subst e3
  have hX2 := hX9.keep (w' := w11) (fun q hq => hfr2 q (by omega))
  have hU2 := hU9.keep (w' := w11) (hfr2 484 (by omega))
  have hO2 : zOK X9 (B + 1) := by obtain ⟨e, -⟩ := hrel; rw [e]; exact hO.up (by omega)
  obtain ⟨⟨th1, n1, b1, s1, p1, hmo1, hth, hn1, -⟩, -⟩ := id hM2
  refine lv_istore (lv' := [(6, .int v11), (5, .int v5), (4, .int iv), (3, .ref (ad 484)), (2, .ref (ad 469)), (1, .ref (ad 0)), (0, .ref b)]) F.1 F.2.1 d_Lw_law_975 hl6 (by decide) rfl (fun ls12 hl12 => ?_)
  clear hl6
  refine lv_aload_n F.1 F.2.1 d_Lw_law_977 rfl (lv_at hl12 4 rfl) ?_
  refine q_calli hW11 (q_cV (As := []) (rest := []) F hW11 cs_Lw_74 hd_Mo_thrown rfl (by omega) hmo1 (k_Mo_thrown l D τ A ad 485 w11 (by omega) th1 n1 b1 s1 p1 hmo1 X9.n hn1 hO2.2.1) rfl rfl ⟨by decide, by decide⟩ rfl hl12.1 rfl (Nat.le_of_ble_eq_true rfl) d_Lw_law_978 ⟨by show cells + 5 + 0 + 0 ≤ 601024; omega, by show slots + 30 + 0 + 0 ≤ 7293034; omega⟩) (fun v13 w13 H13 locs13 hp13 hW13 => ?_)
  obtain ⟨hq3, rfl⟩ := hp13
  replace hq3 := hq3.symm
  subst hq3
  refine lv_iload F.1 F.2.1 d_Lw_law_981 (lv_at hl12 1 rfl) ?_
  refine q_icmp_eq (tgt := 988) F d_Lw_law_983 (by decide) (fun c14 => ?_) (fun c14 => ?_)
  · refine lv_iload F.1 F.2.1 d_Lw_law_988 (lv_at hl12 1 rfl) ?_
    refine q_if_ne (tgt := 1005) F d_Lw_law_990 (by decide) (fun c15 => ?_) (fun c15 => ?_)
    · refine lv_goto (tgt := 1088) F.1 F.2.1 d_Lw_law_1005 (by decide) ?_
      exact kk _ _ _ X9 _ ⟨hW13, hX2, ⟨_, hM2⟩, hO2, ⟨_, hU2⟩, (lv_sub hl12 [2, 3, 4, 5, 6] rfl)⟩
    · obtain ⟨r32, er, er2⟩ := hr9 (by omega)
      refine lv_aload_n F.1 F.2.1 d_Lw_law_993 rfl (lv_at hl12 3 rfl) ?_
      refine q_iconst F d_Lw_law_994 (by decide) (fun v16 hv16 => ?_)
      refine q_laldO F hW13 hU2 (by omega) (by omega) d_Lw_law_995 ?_
      refine lv_iload F.1 F.2.1 d_Lw_law_996 (lv_at hl12 0 rfl) ?_
      refine lv_i2l F.1 F.2.1 d_Lw_law_998 rfl ?_
      refine q_lcmpE F (by rw [er]; congr 1; exact q_eqI.mpr (by rw [er2]; exact e2 (by omega))) d_Lw_law_999 (fun vz hvz => ?_)
      refine q_if_eq (tgt := 1005) F d_Lw_law_1000 (by decide) (fun c17 => ?_) (fun c17 => ?_)
      · refine lv_goto (tgt := 1088) F.1 F.2.1 d_Lw_law_1005 (by decide) ?_
        exact kk _ _ _ X9 _ ⟨hW13, hX2, ⟨_, hM2⟩, hO2, ⟨_, hU2⟩, (lv_sub hl12 [2, 3, 4, 5, 6] rfl)⟩
      · exact absurd hvz (by assumption)
  · exact absurd (hth.trans e1.symm) (by omega)
set_option maxHeartbeats 4000000 in
set_option maxRecDepth 100000 in
theorem lwc_walk (F : CallFix p m c code 7 s #[Value.ref b] lw_good "LabelRouterLaw") (hlt : l.stackTraces = false) (hst : qSt A s s.heap) (hXs : va_X b L xs s s.heap) (hbl : b < s.heap.size) (hbA : ¬ A b) (hL : L ≤ 2048) (hS : lwS D τ A s ad b H locs w X B iv ls) (hB : B ≤ 600) (i : Nat) (hiv : iv.toInt = (i : Int)) (hi : i + 4 ≤ L) (hc : cells + 5 ≤ 601024) (hs : slots + 30 ≤ 7293034)
    (kk : ∀ (H1 : Heap) (locs1 : List Loc) (w1 : Nat → va_E) (X1 : zSt) (ls1 : Array Slot), lwS D τ A s ad b H1 locs1 w1 X1 (B + 1) iv ls1 → W p l e room_1 s m #[Value.ref b] below meth c H1 locs1 (cells + 5) (slots + 30) Q (F0 m 1088 ls1 [])) :
    W p l e room_1 s m #[Value.ref b] below meth c H locs cells slots Q (F0 m 1008 ls []) := by
  obtain ⟨hW, hX, ⟨t0, hM⟩, hO, ⟨g0, hU⟩, hl⟩ := hS
  refine lv_aload_n F.1 F.2.1 d_Lw_law_1008 rfl (lv_at hl 3 rfl) ?_
  refine lv_aload_n F.1 F.2.1 d_Lw_law_1009 rfl (lv_at hl 4 rfl) ?_
  refine lv_iload F.1 F.2.1 d_Lw_law_1010 (lv_at hl 0 rfl) ?_
  refine q_iconst F d_Lw_law_1012 (by decide) (fun v1 hv1 => ?_)
  refine q_iadd F d_Lw_law_1013 (by omega) (fun v2 hv2 => ?_)
  refine q_sld F hXs hbl hbA hW (i + 1) (by omega) (by omega) d_Lw_law_1014 ?_
  refine lv_aload_n F.1 F.2.1 d_Lw_law_1015 rfl (lv_at hl 4 rfl) ?_
  refine lv_iload F.1 F.2.1 d_Lw_law_1016 (lv_at hl 0 rfl) ?_
  refine q_iconst F d_Lw_law_1018 (by decide) (fun v3 hv3 => ?_)
  refine q_iadd F d_Lw_law_1019 (by omega) (fun v4 hv4 => ?_)
  refine q_sld F hXs hbl hbA hW (i + 2) (by omega) (by omega) d_Lw_law_1020 ?_
  refine lv_aload_n F.1 F.2.1 d_Lw_law_1021 rfl (lv_at hl 4 rfl) ?_
  refine lv_iload F.1 F.2.1 d_Lw_law_1022 (lv_at hl 0 rfl) ?_
  refine q_iconst F d_Lw_law_1024 (by decide) (fun v5 hv5 => ?_)
  refine q_iadd F d_Lw_law_1025 (by omega) (fun v6 hv6 => ?_)
  refine q_sld F hXs hbl hbA hW (i + 3) (by omega) (by omega) d_Lw_law_1026 ?_
  refine lv_aload_n F.1 F.2.1 d_Lw_law_1027 rfl (lv_at hl 1 rfl) ?_
  refine q_calli hW (qw_cS (As := [.ref (ad 0), .int (xs (i + 1)), .int (xs (i + 2)), .int (xs (i + 3)), .ref (ad 484)]) (rest := []) F hW hst cw_Lw_walk hs_Lw_walk (k_Lw_walk l D τ A ad 485 w hlt (Nat.le_refl 485) X B hX hO (by omega) (xs (i + 1)) (xs (i + 2)) (xs (i + 3)) g0 hU) rfl rfl ⟨by decide, by decide⟩ rfl hl.1 rfl (Nat.le_of_ble_eq_true rfl) d_Lw_law_1028 ⟨by show cells + 5 ≤ 601024; omega, by show slots + 30 ≤ 7293034; omega⟩) (fun v7 w7 H7 locs7 hp7 hW7 => ?_)
  obtain ⟨r, X9, g9, hrel, hX9, hU9, hr9, hfr⟩ := hp7
  have hM1 := hM.keep (w' := w7) (fun q h1 h2 => hfr q h1 (by omega))
  obtain ⟨⟨th0, n0, b0, s0, p0, hmo, -⟩, -⟩ := id hM1
  refine lv_istore (lv' := [(5, .int v7), (4, .int iv), (3, .ref (ad 484)), (2, .ref (ad 469)), (1, .ref (ad 0)), (0, .ref b)]) F.1 F.2.1 d_Lw_law_1031 hl (by decide) rfl (fun ls8 hl8 => ?_)
  clear hl
  refine lv_aload_n F.1 F.2.1 d_Lw_law_1033 rfl (lv_at hl8 3 rfl) ?_
  refine lv_aload_n F.1 F.2.1 d_Lw_law_1034 rfl (lv_at hl8 5 rfl) ?_
  refine lv_iload F.1 F.2.1 d_Lw_law_1035 (lv_at hl8 1 rfl) ?_
  refine q_iconst F d_Lw_law_1037 (by decide) (fun v9 hv9 => ?_)
  refine q_iadd F d_Lw_law_1038 (by omega) (fun v10 hv10 => ?_)
  refine q_sld F hXs hbl hbA hW7 (i + 1) (by omega) (by omega) d_Lw_law_1039 ?_
  refine lv_aload_n F.1 F.2.1 d_Lw_law_1040 rfl (lv_at hl8 5 rfl) ?_
  refine lv_iload F.1 F.2.1 d_Lw_law_1041 (lv_at hl8 1 rfl) ?_
  refine q_iconst F d_Lw_law_1043 (by decide) (fun v11 hv11 => ?_)
  refine q_iadd F d_Lw_law_1044 (by omega) (fun v12 hv12 => ?_)
  refine q_sld F hXs hbl hbA hW7 (i + 2) (by omega) (by omega) d_Lw_law_1045 ?_
  refine lv_aload_n F.1 F.2.1 d_Lw_law_1046 rfl (lv_at hl8 5 rfl) ?_
  refine lv_iload F.1 F.2.1 d_Lw_law_1047 (lv_at hl8 1 rfl) ?_
  refine q_iconst F d_Lw_law_1049 (by decide) (fun v13 hv13 => ?_)
  refine q_iadd F d_Lw_law_1050 (by omega) (fun v14 hv14 => ?_)
  refine q_sld F hXs hbl hbA hW7 (i + 3) (by omega) (by omega) d_Lw_law_1051 ?_
  refine q_calli hW7 (q_cV (As := [.int (xs (i + 1)), .int (xs (i + 2)), .int (xs (i + 3))]) (rest := []) F hW7 cs_Lw_122 hd_Mo_walk rfl (by omega) hmo (k_Mo_walk l D τ A ad 485 w7 (by omega) X B t0 hM1 hO (by omega) (xs (i + 1)) (xs (i + 2)) (xs (i + 3))) rfl rfl ⟨by decide, by decide⟩ rfl hl8.1 rfl (Nat.le_of_ble_eq_true rfl) d_Lw_law_1052 ⟨by show cells + 5 + 0 ≤ 601024; omega, by show slots + 30 + 0 ≤ 7293034; omega⟩) (fun v15 w15 H15 locs15 hp15 hW15 => ?_)
  obtain ⟨kk2, X8, hrel2, hM2, hfr2⟩ := hp15
  obtain ⟨e1, e2, e3⟩ := zU_walk hrel hrel2
  subst e3
  have hX2 := hX9.keep (w' := w15) (fun q hq => hfr2 q (by omega))
  have hU2 := hU9.keep (w' := w15) (hfr2 484 (by omega))
  have hO2 : zOK X9 (B + 1) := by obtain ⟨e, -⟩ := hrel; rw [e]; exact hO.up (by omega)
  obtain ⟨⟨th1, n1, b1, s1, p1, hmo1, hth, hn1, -⟩, -⟩ := id hM2
  refine lv_istore (lv' := [(6, .int v15), (5, .int v7), (4, .int iv), (3, .ref (ad 484)), (2, .ref (ad 469)), (1, .ref (ad 0)), (0, .ref b)]) F.1 F.2.1 d_Lw_law_1055 hl8 (by decide) rfl (fun ls16 hl16 => ?_)
  clear hl8
  refine lv_aload_n F.1 F.2.1 d_Lw_law_1057 rfl (lv_at hl16 4 rfl) ?_
  refine q_calli hW15 (q_cV (As := []) (rest := []) F hW15 cs_Lw_74 hd_Mo_thrown rfl (by omega) hmo1 (k_Mo_thrown l D τ A ad 485 w15 (by omega) th1 n1 b1 s1 p1 hmo1 X9.n hn1 hO2.2.1) rfl rfl ⟨by decide, by decide⟩ rfl hl16.1 rfl (Nat.le_of_ble_eq_true rfl) d_Lw_law_1058 ⟨by show cells + 5 + 0 + 0 ≤ 601024; omega, by show slots + 30 + 0 + 0 ≤ 7293034; omega⟩) (fun v17 w17 H17 locs17 hp17 hW17 => ?_)
  obtain ⟨hq3, rfl⟩ := hp17
  replace hq3 := hq3.symm
  subst hq3
  refine lv_iload F.1 F.2.1 d_Lw_law_1061 (lv_at hl16 1 rfl) ?_
  refine q_icmp_eq (tgt := 1068) F d_Lw_law_1063 (by decide) (fun c18 => ?_) (fun c18 => ?_)
  · refine lv_iload F.1 F.2.1 d_Lw_law_1068 (lv_at hl16 1 rfl) ?_
    refine q_if_ne (tgt := 1085) F d_Lw_law_1070 (by decide) (fun c19 => ?_) (fun c19 => ?_)
    · refine lv_goto (tgt := 1088) F.1 F.2.1 d_Lw_law_1085 (by decide) ?_
      exact kk _ _ _ X9 _ ⟨hW17, hX2, ⟨_, hM2⟩, hO2, ⟨_, hU2⟩, (lv_sub hl16 [2, 3, 4, 5, 6] rfl)⟩
    · obtain ⟨r32, er, er2⟩ := hr9 (by omega)
      refine lv_aload_n F.1 F.2.1 d_Lw_law_1073 rfl (lv_at hl16 3 rfl) ?_
      refine q_iconst F d_Lw_law_1074 (by decide) (fun v20 hv20 => ?_)
      refine q_laldO F hW17 hU2 (by omega) (by omega) d_Lw_law_1075 ?_
      refine lv_iload F.1 F.2.1 d_Lw_law_1076 (lv_at hl16 0 rfl) ?_
      refine lv_i2l F.1 F.2.1 d_Lw_law_1078 rfl ?_
      refine q_lcmpE F (by rw [er]; congr 1; exact q_eqI.mpr (by rw [er2]; exact e2 (by omega))) d_Lw_law_1079 (fun vz hvz => ?_)
      refine q_if_eq (tgt := 1085) F d_Lw_law_1080 (by decide) (fun c21 => ?_) (fun c21 => ?_)
      · refine lv_goto (tgt := 1088) F.1 F.2.1 d_Lw_law_1085 (by decide) ?_
        exact kk _ _ _ X9 _ ⟨hW17, hX2, ⟨_, hM2⟩, hO2, ⟨_, hU2⟩, (lv_sub hl16 [2, 3, 4, 5, 6] rfl)⟩
      · exact absurd hvz (by assumption)
  · exact absurd (hth.trans e1.symm) (by omega)
end QLC
