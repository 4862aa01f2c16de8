def zwt (q : Int) (x : Int × Int) : Int := if q = 0 then x.2 else x.1
/-- the stretch of a way -/
noncomputable def zst (m : Nat) (bh Wt : Nat → Nat → Int) (mk : Nat → Prop) (a g : Nat) : Int := if zz_dec (zd m Wt a g ≤ 0) = true then 1000 else (1000 * (zwk m bh Wt mk g 120 a).1 + zd m Wt a g - 1) / zd m Wt a g
theorem zwk_bd {m : Nat} {bh wt Wt : Nat → Nat → Int} {mk : Nat → Prop} (h : zBt m bh wt Wt mk) {g : Nat} (hg : g < m) : ∀ (k a : Nat), a < m → (0 ≤ (zwk m bh Wt mk g k a).1 ∧ (zwk m bh Wt mk g k a).1 ≤ 1000 * k) ∧ 0 ≤ (zwk m bh Wt mk g k a).2 ∧ (zwk m bh Wt mk g k a).2 ≤ k := by
  obtain ⟨r, r1, r2, -⟩ := h.own g
  intro k
  induction k with
  | zero => intro a _; exact ⟨⟨Int.le_refl _, Int.le_refl _⟩, Int.le_refl _, Int.le_refl _⟩
  | succ k ih =>
    intro a ha
    by_cases e : a = g
    · subst e
      rw [zwk_there]
      exact ⟨⟨Int.le_refl _, by show (0 : Int) ≤ _; omega⟩, Int.le_refl _, by show (0 : Int) ≤ _; omega⟩
    · obtain ⟨c, c1, c2, c3, c4, -, -⟩ := h.hop ha hg e r2 r1
      rw [zwk_on e c2]
      obtain ⟨⟨i1, i2⟩, i3, i4⟩ := ih c c1
      refine ⟨⟨?_, ?_⟩, ?_, ?_⟩ <;> simp only <;> omega
set_option maxHeartbeats 4000000 in
set_option maxRecDepth 100000 in
/-- a hop along a tree -/
theorem k_Sc_alongTree (l : Launch) (D : va_G) (τ : Nat → ClassId) (A : Nat → Prop) (ad : Nat → Nat) (N : Nat) (w : Nat → va_E) (hb : 469 ≤ N) (m : Nat) (bh wt Wt : Nat → Nat → Int) (mk : Nat → Prop) (hS : qSch τ ad w m bh wt Wt mk) (hB : zBt m bh wt Wt mk) (x : Int32) (a g : Nat) (hx : x.toInt = a) (ha : a < m) (hg : g < m) (hne : a ≠ g) (hnr : ¬ (mk g ∨ znr m (zd m Wt) mk a g)) : Met l y_Sc_alongTree (qws y_Sc_alongTree c_Sc_alongTree 7 (some .int)) ({ frames := 2, cells := 0, slots := 0, locals := 47 }) (qPc D τ A ad N w [.ref (ad 84), .int x, .ref (ad (422 + 1 + g))]) (va_Qi (fun r1 w1 => w1 = w ∧ r1.toInt = zhop m bh Wt mk a g) (qB D τ A ad N) A) 0 0 A := by
  refine q_of (by decide) (Nat.le_of_ble_eq_true rfl) rfl ?_
  intro PP EE s MM below meth CC ls F hr hlk hnm hex hl hW
  have hl : lv_has ls 7 [(0, .ref (ad 84)), (1, .int x), (2, .ref (ad (422 + 1 + g)))] := hl
  obtain ⟨hm1, hm40, hZ, hall, hmk1, hmk2⟩ := id hB
  obtain ⟨so, hN, ⟨od, hY⟩, ⟨S, Bl, Cl, Ow, IB, hL, hS40, hSm, hOw, hCl⟩, ⟨Pl, Sz, Hv, Lt, Pa, hF, hTr⟩, Lb, hG, hLb⟩ := id hS
  obtain ⟨fo, -⟩ := id hF
  obtain ⟨lao, -⟩ := id hL
  obtain ⟨hyo, -⟩ := id hY
  obtain ⟨⟨l32, lho, hl32⟩, -⟩ := id hN
  obtain ⟨r, hrm, hrow, hrk⟩ := hB.own g
  obtain ⟨c, c1, c2, c3, c4, c5, c6⟩ := hB.hop ha hg hne hrow hrm
  obtain ⟨e0, e1, e2, e3, e4⟩ := hLb g hg
  rw [hrow] at e1 e2 e3 e4
  simp only [Int.toNat_natCast] at e2 e3 e4
  have T := zpa_ok hZ.1 hall hrm
  have hpt := zpt_ok hZ hall hrm
  have htr := hTr r hrk
  have hta := htr a ha
  have hpa := zpl_bd T hm40 ha
  have hpg := zpl_bd T hm40 hg
  have hsa := zS_le (n := m) (par := zpa m Wt r) a
  have hzI : zI m (zpa m Wt r) a (zpl m (zpa m Wt r) g) ↔ (Pl r a ≤ Lb g 2 ∧ Lb g 2 < Pl r a + Sz r a) := by unfold zI; rw [hta.1, hta.2.1, e2]
  refine lv_aload_n F.1 F.2.1 d_Sc_alongTree_0 rfl (lv_at hl 2 rfl) ?_
  refine q_iconst F d_Sc_alongTree_1 (by decide) (fun v1 hv1 => ?_)
  refine q_iald F hW (hG.2 g (by omega)) (by omega) 1 (by omega) (by omega) d_Sc_alongTree_2 (fun v2 hv2 => ?_)
  refine lv_istore_n (lv' := [(3, .int v2), (0, .ref (ad 84)), (1, .int x), (2, .ref (ad (422 + 1 + g)))]) F.1 F.2.1 d_Sc_alongTree_3 rfl hl (by decide) rfl (fun ls3 hl3 => ?_)
  clear hl
  refine lv_aload_n F.1 F.2.1 d_Sc_alongTree_4 rfl (lv_at hl3 3 rfl) ?_
  refine q_iconst F d_Sc_alongTree_5 (by decide) (fun v4 hv4 => ?_)
  refine q_iald F hW (hG.2 g (by omega)) (by omega) 2 (by omega) (by omega) d_Sc_alongTree_6 (fun v5 hv5 => ?_)
  refine lv_istore (lv' := [(4, .int v5), (3, .int v2), (0, .ref (ad 84)), (1, .int x), (2, .ref (ad (422 + 1 + g)))]) F.1 F.2.1 d_Sc_alongTree_7 hl3 (by decide) rfl (fun ls6 hl6 => ?_)
  clear hl3
  refine lv_aload_n F.1 F.2.1 d_Sc_alongTree_9 rfl (lv_at hl6 2 rfl) ?_
  refine gf_Sc_39 F hW (by omega) so d_Sc_alongTree_10 ?_
  refine lv_iload_n F.1 F.2.1 d_Sc_alongTree_13 rfl (lv_at hl6 1 rfl) ?_
  refine lv_iload_n F.1 F.2.1 d_Sc_alongTree_14 rfl (lv_at hl6 3 rfl) ?_
  refine lv_iload F.1 F.2.1 d_Sc_alongTree_15 (lv_at hl6 0 rfl) ?_
  refine q_calli hW (q_cV (As := [.int v2, .int x, .int v5]) (rest := []) F hW cs_Sc_107 hd_Fo_holds rfl (by omega) fo (k_Fo_holds l D τ A ad N w hb Pl Sz Hv Lt Pa hF v2 x r a (by omega) hx (by omega) (by omega) v5 (by omega)) rfl rfl ⟨by decide, by decide⟩ rfl hl6.1 rfl (Nat.le_of_ble_eq_true rfl) d_Sc_alongTree_17 ⟨Nat.le_refl _, Nat.le_refl _⟩) (fun v7 w7 H7 locs7 hp7 hW7 => ?_)
  obtain ⟨hq7, hp7⟩ := hp7
  replace hq7 := hq7.symm
  subst hq7
  rw [hv5] at hp7
  refine q_if_ne (tgt := 33) F d_Sc_alongTree_20 (by decide) (fun c20 => ?_) (fun c20 => ?_)
  · have hin := hzI.mpr (qb_t hp7 (by omega))
    obtain ⟨b, hbm, hbe⟩ := c6 hnr hin
    have htb := htr b hbm
    have hpb := zpl_bd T hm40 hbm
    have hsb := zS_le (n := m) (par := zpa m Wt r) b
    have hzB : zI m (zpa m Wt r) b (zpl m (zpa m Wt r) g) ↔ (Pl r b ≤ Lb g 2 ∧ Lb g 2 < Pl r b + Sz r b) := by unfold zI; rw [htb.1, htb.2.1, e2]
    refine lv_aload_n F.1 F.2.1 d_Sc_alongTree_33 rfl (lv_at hl6 2 rfl) ?_
    refine gf_Sc_39 F hW7 (by omega) so d_Sc_alongTree_34 ?_
    refine lv_iload_n F.1 F.2.1 d_Sc_alongTree_37 rfl (lv_at hl6 1 rfl) ?_
    refine lv_iload_n F.1 F.2.1 d_Sc_alongTree_38 rfl (lv_at hl6 3 rfl) ?_
    refine q_calli hW7 (q_cV (As := [.int v2, .int x]) (rest := []) F hW7 cs_Sc_96 hd_Fo_heavyOf rfl (by omega) fo (k_Fo_heavyOf l D τ A ad N w hb Pl Sz Hv Lt Pa hF v2 x r a (by omega) hx (by omega) (by omega)) rfl rfl ⟨by decide, by decide⟩ rfl hl6.1 rfl (Nat.le_of_ble_eq_true rfl) d_Sc_alongTree_39 ⟨Nat.le_refl _, Nat.le_refl _⟩) (fun v8 w8 H8 locs8 hp8 hW8 => ?_)
    obtain ⟨hq8, hp8⟩ := hp8
    replace hq8 := hq8.symm
    subst hq8
    have hv9 : v8.toInt = (b : Int) := by rw [hp8, hta.2.2.1]; exact hbe
    refine lv_istore (lv' := [(5, .int v8), (4, .int v5), (3, .int v2), (0, .ref (ad 84)), (1, .int x), (2, .ref (ad (422 + 1 + g)))]) F.1 F.2.1 d_Sc_alongTree_42 hl6 (by decide) rfl (fun ls9 hl9 => ?_)
    clear hl6
    refine lv_iload F.1 F.2.1 d_Sc_alongTree_44 (lv_at hl9 0 rfl) ?_
    refine q_iconst F d_Sc_alongTree_46 (by decide) (fun v10 hv10 => ?_)
    refine q_icmp_eq (tgt := 68) F d_Sc_alongTree_47 (by decide) (fun c47 => ?_) (fun c47 => ?_)
    · exact absurd hv9 (by omega)
    · refine lv_aload_n F.1 F.2.1 d_Sc_alongTree_50 rfl (lv_at hl9 3 rfl) ?_
      refine gf_Sc_39 F hW8 (by omega) so d_Sc_alongTree_51 ?_
      refine lv_iload_n F.1 F.2.1 d_Sc_alongTree_54 rfl (lv_at hl9 2 rfl) ?_
      refine lv_iload F.1 F.2.1 d_Sc_alongTree_55 (lv_at hl9 0 rfl) ?_
      refine lv_iload F.1 F.2.1 d_Sc_alongTree_57 (lv_at hl9 1 rfl) ?_
      refine q_calli hW8 (q_cV (As := [.int v2, .int v8, .int v5]) (rest := []) F hW8 cs_Sc_107 hd_Fo_holds rfl (by omega) fo (k_Fo_holds l D τ A ad N w hb Pl Sz Hv Lt Pa hF v2 v8 r b (by omega) hv9 (by omega) (by omega) v5 (by omega)) rfl rfl ⟨by decide, by decide⟩ rfl hl9.1 rfl (Nat.le_of_ble_eq_true rfl) d_Sc_alongTree_59 ⟨Nat.le_refl _, Nat.le_refl _⟩) (fun v11 w11 H11 locs11 hp11 hW11 => ?_)
      obtain ⟨hq11, hp11⟩ := hp11
      replace hq11 := hq11.symm
      subst hq11
      rw [hv5] at hp11
      refine q_if_eq (tgt := 68) F d_Sc_alongTree_62 (by decide) (fun c62 => ?_) (fun c62 => ?_)
      · have hnb : ¬ zI m (zpa m Wt r) b (zpl m (zpa m Wt r) g) := fun z => qb_f hp11 (by omega) (hzB.mp z)
        obtain ⟨k9, hk9, hk5⟩ := zli_bd T hm40 ha
        have hwb := zwd_bd T hm40 hpt hg
        obtain ⟨W9, hW9⟩ : ∃ W9 : Nat, zwd m (zpa m Wt r) (zpt m bh Wt r) g = (W9 : Int) := ⟨(zwd m (zpa m Wt r) (zpt m bh Wt r) g).toNat, by omega⟩
        refine q_iconst F d_Sc_alongTree_68 (by decide) (fun v12 hv12 => ?_)
        refine lv_aload_n F.1 F.2.1 d_Sc_alongTree_69 rfl (lv_at hl9 3 rfl) ?_
        refine gf_Sc_39 F hW11 (by omega) so d_Sc_alongTree_70 ?_
        refine lv_iload_n F.1 F.2.1 d_Sc_alongTree_73 rfl (lv_at hl9 2 rfl) ?_
        refine lv_iload_n F.1 F.2.1 d_Sc_alongTree_74 rfl (lv_at hl9 4 rfl) ?_
        refine q_calli hW11 (q_cV (As := [.int v2, .int x]) (rest := [.int v12]) F hW11 cs_Sc_87 hd_Fo_lightsAbove rfl (by omega) fo (k_Fo_lightsAbove l D τ A ad N w hb Pl Sz Hv Lt Pa hF v2 x r a (by omega) hx (by omega) (by omega)) rfl rfl ⟨by decide, by decide⟩ rfl hl9.1 rfl (Nat.le_of_ble_eq_true rfl) d_Sc_alongTree_75 ⟨Nat.le_refl _, Nat.le_refl _⟩) (fun v13 w13 H13 locs13 hp13 hW13 => ?_)
        obtain ⟨hq13, hp13⟩ := hp13
        replace hq13 := hq13.symm
        subst hq13
        have hv8 : v13.toInt = (k9 : Int) := by rw [hp13, hta.2.2.2]; exact hk9
        refine q_imul F d_Sc_alongTree_78 (by rw [hv12, hv8]; omega) (fun v14 hv14 => ?_)
        rw [hv12, hv8] at hv14
        refine lv_istore (lv' := [(6, .int v14), (5, .int v8), (4, .int v5), (3, .int v2), (0, .ref (ad 84)), (1, .int x), (2, .ref (ad (422 + 1 + g)))]) F.1 F.2.1 d_Sc_alongTree_79 hl9 (by decide) rfl (fun ls15 hl15 => ?_)
        clear hl9
        refine lv_aload_n F.1 F.2.1 d_Sc_alongTree_81 rfl (lv_at hl15 4 rfl) ?_
        refine gf_Sc_12 F hW13 (by omega) so d_Sc_alongTree_82 ?_
        refine lv_iload_n F.1 F.2.1 d_Sc_alongTree_85 rfl (lv_at hl15 5 rfl) ?_
        refine lv_aload_n F.1 F.2.1 d_Sc_alongTree_86 rfl (lv_at hl15 6 rfl) ?_
        refine q_iconst F d_Sc_alongTree_87 (by decide) (fun v16 hv16 => ?_)
        refine q_iald F hW13 (hG.2 g (by omega)) (by omega) 4 (by omega) (by omega) d_Sc_alongTree_88 (fun v17 hv17 => ?_)
        refine lv_iload F.1 F.2.1 d_Sc_alongTree_89 (lv_at hl15 0 rfl) ?_
        refine q_ishr4 F W9 k9 (by omega) (by omega) (by omega) (by omega) d_Sc_alongTree_91 (fun v18 hv18 => ?_)
        have hdv : W9 / 16 ^ k9 ≤ W9 := Nat.div_le_self _ _
        refine q_bipush F d_Sc_alongTree_92 (by decide) (fun v19 hv19 => ?_)
        refine q_iand15 F (W9 / 16 ^ k9) hv18 (by omega) (by omega) d_Sc_alongTree_94 (fun v20 hv20 => ?_)
        refine q_calli hW13 (q_cV (As := [.int x, .int v20]) (rest := []) F hW13 cs_Sc_111 hd_Ne_behindPort rfl (by omega) lho (k_Ne_behindPort l D τ A ad N w 85 (by omega) m bh wt hN x v20 a (W9 / 16 ^ k9 % 16) hx hv20 (by omega) (Nat.mod_lt _ (by decide))) rfl rfl ⟨by decide, by decide⟩ rfl hl15.1 rfl (Nat.le_of_ble_eq_true rfl) d_Sc_alongTree_95 ⟨Nat.le_refl _, Nat.le_refl _⟩) (fun v21 w21 H21 locs21 hp21 hW21 => ?_)
        obtain ⟨hq21, hp21⟩ := hp21
        replace hq21 := hq21.symm
        subst hq21
        exact q_iret F hr hlk hW21 ⟨rfl, by rw [zhop_light hne hnr hrow hin hbe hnb hk9 hW9]; exact hp21⟩ d_Sc_alongTree_98
      · refine lv_iload F.1 F.2.1 d_Sc_alongTree_65 (lv_at hl9 0 rfl) ?_
        exact q_iret F hr hlk hW11 ⟨rfl, by rw [zhop_heavy hne hnr hrow hin hbe (hzB.mpr (qb_t hp11 (by omega)))]; exact hv9⟩ d_Sc_alongTree_67
  · have hin : ¬ zI m (zpa m Wt r) a (zpl m (zpa m Wt r) g) := fun z => qb_f hp7 (by omega) (hzI.mp z)
    refine lv_aload_n F.1 F.2.1 d_Sc_alongTree_23 rfl (lv_at hl6 2 rfl) ?_
    refine gf_Sc_23 F hW7 (by omega) so d_Sc_alongTree_24 ?_
    refine lv_iload_n F.1 F.2.1 d_Sc_alongTree_27 rfl (lv_at hl6 3 rfl) ?_
    refine lv_iload_n F.1 F.2.1 d_Sc_alongTree_28 rfl (lv_at hl6 1 rfl) ?_
    refine q_calli hW7 (q_cV (As := [.int x, .int v2]) (rest := []) F hW7 cs_Sc_77 hd_Wa_next rfl (by omega) hyo (k_Wa_next l D τ A ad N w hb m hm40 Wt od hY m bh wt hN rfl hZ x v2 a r hx (by omega) ha hrm) rfl rfl ⟨by decide, by decide⟩ rfl hl6.1 rfl (Nat.le_of_ble_eq_true rfl) d_Sc_alongTree_29 ⟨Nat.le_refl _, Nat.le_refl _⟩) (fun v22 w22 H22 locs22 hp22 hW22 => ?_)
    obtain ⟨hq22, hp22⟩ := hp22
    replace hq22 := hq22.symm
    subst hq22
    exact q_iret F hr hlk hW22 ⟨rfl, by rw [zhop_up hne hnr hrow hin]; exact hp22⟩ d_Sc_alongTree_32
set_option maxHeartbeats 4000000 in
set_option maxRecDepth 100000 in
/-- a hop -/
theorem k_Sc_onward (l : Launch) (D : va_G) (τ : Nat → ClassId) (A : Nat → Prop) (ad : Nat → Nat) (N : Nat) (w : Nat → va_E) (hb : 469 ≤ N) (m : Nat) (bh wt Wt : Nat → Nat → Int) (mk : Nat → Prop) (hS : qSch τ ad w m bh wt Wt mk) (hB : zBt m bh wt Wt mk) (x y : Int32) (a g : Nat) (hx : x.toInt = a) (hy : y.toInt = g) (ha : a < m) (hg : g < m) : Met l y_Sc_onward (qws y_Sc_onward c_Sc_onward 4 (some .int)) ({ frames := 3, cells := 0, slots := 0, locals := 73 }) (qPc D τ A ad N w [.ref (ad 84), .int x, .int y]) (va_Qi (fun r1 w1 => w1 = w ∧ r1.toInt = zhop m bh Wt mk a g) (qB D τ A ad N) A) 0 0 A := by
  refine q_of (by decide) (Nat.le_of_ble_eq_true rfl) rfl ?_
  intro PP EE s MM below meth CC ls F hr hlk hnm hex hl hW
  have hl : lv_has ls 4 [(0, .ref (ad 84)), (1, .int x), (2, .int y)] := hl
  obtain ⟨hm1, hm40, hZ, hall, hmk1, hmk2⟩ := id hB
  obtain ⟨so, hN, ⟨od, hY⟩, ⟨S, Bl, Cl, Ow, IB, hL, hS40, hSm, hOw, hCl⟩, ⟨Pl, Sz, Hv, Lt, Pa, hF, hTr⟩, Lb, hG, hLb⟩ := id hS
  obtain ⟨fo, -⟩ := id hF
  obtain ⟨lao, -⟩ := id hL
  obtain ⟨hyo, -⟩ := id hY
  obtain ⟨⟨l32, lho, hl32⟩, -⟩ := id hN
  refine lv_iload_n F.1 F.2.1 d_Sc_onward_0 rfl (lv_at hl 1 rfl) ?_
  refine lv_iload_n F.1 F.2.1 d_Sc_onward_1 rfl (lv_at hl 2 rfl) ?_
  refine q_icmp_ne (tgt := 7) F d_Sc_onward_2 (by decide) (fun c2 => ?_) (fun c2 => ?_)
  · have hne : a ≠ g := by omega
    obtain ⟨r, hrm, hrow, hrk⟩ := hB.own g
    obtain ⟨c, c1, c2b, -⟩ := hB.hop ha hg hne hrow hrm
    refine lv_aload_n F.1 F.2.1 d_Sc_onward_7 rfl (lv_at hl 0 rfl) ?_
    refine gf_Sc_32 F hW (by omega) so d_Sc_onward_8 ?_
    refine lv_iload_n F.1 F.2.1 d_Sc_onward_11 rfl (lv_at hl 1 rfl) ?_
    refine lv_iload_n F.1 F.2.1 d_Sc_onward_12 rfl (lv_at hl 2 rfl) ?_
    refine q_calli hW (q_cV (As := [.int x, .int y]) (rest := []) F hW cs_Sc_99 hd_La_hasRow rfl (by omega) lao (k_La_hasRow l D τ A ad N w hb S Bl Cl Ow IB hL hS40 x y a g hx hy (by omega) (by omega) (hCl a ha).1) rfl rfl ⟨by decide, by decide⟩ rfl hl.1 rfl (Nat.le_of_ble_eq_true rfl) d_Sc_onward_13 ⟨Nat.le_refl _, Nat.le_refl _⟩) (fun v1 w1 H1 locs1 hp1 hW1 => ?_)
    obtain ⟨hq1, hp1⟩ := hp1
    replace hq1 := hq1.symm
    subst hq1
    have hiff : (S.testBit g = true ∨ (Cl a).testBit g = true) ↔ (mk g ∨ znr m (zd m Wt) mk a g) := by rw [hSm g, (hCl a ha).2 g]; exact ⟨fun z => z.elim Or.inl (fun q => Or.inr q.2), fun z => z.elim Or.inl (fun q => Or.inr ⟨hg, q⟩)⟩
    refine q_if_eq (tgt := 31) F d_Sc_onward_16 (by decide) (fun c16 => ?_) (fun c16 => ?_)
    · have hnr := fun z => qb_f hp1 (by omega) (hiff.mpr z)
      refine lv_aload_n F.1 F.2.1 d_Sc_onward_31 rfl (lv_at hl 0 rfl) ?_
      refine lv_iload_n F.1 F.2.1 d_Sc_onward_32 rfl (lv_at hl 1 rfl) ?_
      refine lv_aload_n F.1 F.2.1 d_Sc_onward_33 rfl (lv_at hl 0 rfl) ?_
      refine gf_Sc_45 F hW1 (by omega) so d_Sc_onward_34 ?_
      refine lv_iload_n F.1 F.2.1 d_Sc_onward_37 rfl (lv_at hl 2 rfl) ?_
      refine q_aald F hW1 hG (by omega) g (by omega) (by omega) d_Sc_onward_38 ?_
      refine q_calli hW1 (q_cV (As := [.int x, .ref (ad (422 + 1 + g))]) (rest := []) F hW1 cs_Sc_103 hd_Sc_alongTree rfl (by omega) so (k_Sc_alongTree l D τ A ad N w hb m bh wt Wt mk hS hB x a g hx ha hg hne hnr) rfl rfl ⟨by decide, by decide⟩ rfl hl.1 rfl (Nat.le_of_ble_eq_true rfl) d_Sc_onward_39 ⟨Nat.le_refl _, Nat.le_refl _⟩) (fun v2 w2 H2 locs2 hp2 hW2 => ?_)
      obtain ⟨hq2, hp2⟩ := hp2
      replace hq2 := hq2.symm
      subst hq2
      refine lv_istore_n (lv' := [(3, .int v2), (0, .ref (ad 84)), (1, .int x), (2, .int y)]) F.1 F.2.1 d_Sc_onward_42 rfl hl (by decide) rfl (fun ls3 hl3 => ?_)
      clear hl
      refine lv_iload_n F.1 F.2.1 d_Sc_onward_43 rfl (lv_at hl3 0 rfl) ?_
      refine q_iconst F d_Sc_onward_44 (by decide) (fun v4 hv4 => ?_)
      refine q_icmp_ne (tgt := 52) F d_Sc_onward_45 (by decide) (fun c45 => ?_) (fun c45 => ?_)
      · refine lv_iload_n F.1 F.2.1 d_Sc_onward_52 rfl (lv_at hl3 0 rfl) ?_
        exact q_iret F hr hlk hW2 ⟨rfl, hp2⟩ d_Sc_onward_53
      · exact absurd c2b (by omega)
    · have hrw := hiff.mp (qb_t hp1 (by omega))
      have hz9 := zhop_row (bh := bh) hne hrw
      refine lv_aload_n F.1 F.2.1 d_Sc_onward_19 rfl (lv_at hl 0 rfl) ?_
      refine gf_Sc_23 F hW1 (by omega) so d_Sc_onward_20 ?_
      refine lv_iload_n F.1 F.2.1 d_Sc_onward_23 rfl (lv_at hl 1 rfl) ?_
      refine lv_iload_n F.1 F.2.1 d_Sc_onward_24 rfl (lv_at hl 2 rfl) ?_
      refine q_calli hW1 (q_cV (As := [.int x, .int y]) (rest := []) F hW1 cs_Sc_77 hd_Wa_next rfl (by omega) hyo (k_Wa_next l D τ A ad N w hb m hm40 Wt od hY m bh wt hN rfl hZ x y a g hx hy ha hg) rfl rfl ⟨by decide, by decide⟩ rfl hl.1 rfl (Nat.le_of_ble_eq_true rfl) d_Sc_onward_25 ⟨Nat.le_refl _, Nat.le_refl _⟩) (fun v5 w5 H5 locs5 hp5 hW5 => ?_)
      obtain ⟨hq5, hp5⟩ := hp5
      replace hq5 := hq5.symm
      subst hq5
      rw [← hz9] at hp5
      refine lv_goto (tgt := 42) F.1 F.2.1 d_Sc_onward_28 (by decide) ?_
      refine lv_istore_n (lv' := [(3, .int v5), (0, .ref (ad 84)), (1, .int x), (2, .int y)]) F.1 F.2.1 d_Sc_onward_42 rfl hl (by decide) rfl (fun ls6 hl6 => ?_)
      clear hl
      refine lv_iload_n F.1 F.2.1 d_Sc_onward_43 rfl (lv_at hl6 0 rfl) ?_
      refine q_iconst F d_Sc_onward_44 (by decide) (fun v7 hv7 => ?_)
      refine q_icmp_ne (tgt := 52) F d_Sc_onward_45 (by decide) (fun c45 => ?_) (fun c45 => ?_)
      · refine lv_iload_n F.1 F.2.1 d_Sc_onward_52 rfl (lv_at hl6 0 rfl) ?_
        exact q_iret F hr hlk hW5 ⟨rfl, hp5⟩ d_Sc_onward_53
      · exact absurd c2b (by omega)
  · have hag : a = g := by omega
    refine lv_iload_n F.1 F.2.1 d_Sc_onward_5 rfl (lv_at hl 1 rfl) ?_
    exact q_iret F hr hlk hW ⟨rfl, by rw [← hag, zhop_there]; exact hx⟩ d_Sc_onward_6
set_option maxHeartbeats 4000000 in
set_option maxRecDepth 100000 in
/-- a way -/
theorem k_Sc_wayTotal (l : Launch) (D : va_G) (τ : Nat → ClassId) (A : Nat → Prop) (ad : Nat → Nat) (N : Nat) (w : Nat → va_E) (hb : 469 ≤ N) (m : Nat) (bh wt Wt : Nat → Nat → Int) (mk : Nat → Prop) (hS : qSch τ ad w m bh wt Wt mk) (hB : zBt m bh wt Wt mk) (x y : Int32) (a g : Nat) (hx : x.toInt = a) (hy : y.toInt = g) (ha : a < m) (hg : g < m) (z : Int32) : Met l y_Sc_wayTotal (qws y_Sc_wayTotal c_Sc_wayTotal 8 (some .int)) ({ frames := 4, cells := 0, slots := 0, locals := 96 }) (qPc D τ A ad N w [.ref (ad 84), .int x, .int y, .int z]) (va_Qi (fun r1 w1 => w1 = w ∧ r1.toInt = zwt z.toInt (zwk m bh Wt mk g 120 a)) (qB D τ A ad N) A) 0 0 A := by
  refine q_of (by decide) (Nat.le_of_ble_eq_true rfl) rfl ?_
  intro PP EE s MM below meth CC ls F hr hlk hnm hex hl hW
  have hl : lv_has ls 8 [(0, .ref (ad 84)), (1, .int x), (2, .int y), (3, .int z)] := hl
  obtain ⟨hm1, hm40, hZ, hall, hmk1, hmk2⟩ := id hB
  obtain ⟨so, hN, ⟨od, hY⟩, ⟨S, Bl, Cl, Ow, IB, hL, hS40, hSm, hOw, hCl⟩, ⟨Pl, Sz, Hv, Lt, Pa, hF, hTr⟩, Lb, hG, hLb⟩ := id hS
  obtain ⟨fo, -⟩ := id hF
  obtain ⟨lao, -⟩ := id hL
  obtain ⟨hyo, -⟩ := id hY
  obtain ⟨⟨l32, lho, hl32⟩, -⟩ := id hN
  obtain ⟨r, hrm, hrow, hrk⟩ := hB.own g
  have hp0 := zphi_bd (n := m) (Wt := Wt) (mk := mk) hm40 (m := r) ha hg
  refine q_iconst F d_Sc_wayTotal_0 (by decide) (fun v1 hv1 => ?_)
  refine lv_istore (lv' := [(4, .int v1), (0, .ref (ad 84)), (1, .int x), (2, .int y), (3, .int z)]) F.1 F.2.1 d_Sc_wayTotal_1 hl (by decide) rfl (fun ls2 hl2 => ?_)
  clear hl
  refine lv_iload_n F.1 F.2.1 d_Sc_wayTotal_3 rfl (lv_at hl2 2 rfl) ?_
  refine lv_istore (lv' := [(5, .int x), (4, .int v1), (0, .ref (ad 84)), (1, .int x), (2, .int y), (3, .int z)]) F.1 F.2.1 d_Sc_wayTotal_4 hl2 (by decide) rfl (fun ls3 hl3 => ?_)
  clear hl2
  refine q_iconst F d_Sc_wayTotal_6 (by decide) (fun v4 hv4 => ?_)
  refine lv_istore (lv' := [(6, .int v4), (5, .int x), (4, .int v1), (0, .ref (ad 84)), (1, .int x), (2, .int y), (3, .int z)]) F.1 F.2.1 d_Sc_wayTotal_7 hl3 (by decide) rfl (fun ls5 hl5 => ?_)
  clear hl3
  obtain ⟨ch, hch⟩ : ∃ z : Int32, z = x := ⟨_, rfl⟩
  replace hl5 : lv_has ls5 8 [(6, .int v4), (5, .int ch), (4, .int v1), (0, .ref (ad 84)), (1, .int x), (2, .int y), (3, .int z)] := by rw [hch]; exact hl5
  obtain ⟨c, hc0⟩ : ∃ c : Nat, c = a := ⟨_, rfl⟩
  obtain ⟨i, hi0⟩ : ∃ i : Nat, i = 0 := ⟨_, rfl⟩
  have hiv : v4.toInt = (i : Int) := by omega
  have hib : i ≤ 120 := by omega
  have hWp := hW
  have hcv : ch.toInt = (c : Int) := by rw [hch, hc0]; exact hx
  have hcm : c < m := by omega
  have hph : zphi m Wt mk r c g + i < 120 := by rw [hc0, hi0]; exact hp0
  have htb : 0 ≤ v1.toInt ∧ v1.toInt ≤ 1000 * i := by omega
  have hsum : v1.toInt + zwt z.toInt (zwk m bh Wt mk g 120 c) = zwt z.toInt (zwk m bh Wt mk g 120 a) := by rw [hc0]; omega
  clear hi0 hv4 hch hc0 hv1
  generalize s.heap = Hp at hWp ⊢
  generalize ([] : List Loc) = locsp at hWp ⊢
  obtain ⟨f, hf⟩ : ∃ f : Nat, 120 + 1 ≤ i + f := ⟨120 + 1, by omega⟩
  induction f generalizing i v4 ls5 Hp locsp ch c v1 with
  | zero => exact absurd hf (by omega)
  | succ f ihi =>
    refine lv_iload F.1 F.2.1 d_Sc_wayTotal_9 (lv_at hl5 0 rfl) ?_
    refine q_bipush F d_Sc_wayTotal_11 (by decide) (fun v6 hv6 => ?_)
    refine q_icmp_ge (tgt := 62) F d_Sc_wayTotal_13 (by decide) (fun c13 => ?_) (fun c13 => ?_)
    · exact absurd hph (by omega)
    · refine lv_iload F.1 F.2.1 d_Sc_wayTotal_16 (lv_at hl5 1 rfl) ?_
      refine lv_iload_n F.1 F.2.1 d_Sc_wayTotal_18 rfl (lv_at hl5 5 rfl) ?_
      refine q_icmp_eq (tgt := 62) F d_Sc_wayTotal_19 (by decide) (fun c19 => ?_) (fun c19 => ?_)
      · refine lv_iload F.1 F.2.1 d_Sc_wayTotal_62 (lv_at hl5 2 rfl) ?_
        have hcg : c = g := by omega
        rw [hcg, zwk_there, show zwt z.toInt (0, 0) = 0 by unfold zwt; split <;> rfl] at hsum
        exact q_iret F hr hlk hWp ⟨rfl, by omega⟩ d_Sc_wayTotal_64
      · have hne : c ≠ g := by omega
        obtain ⟨d, d1, d2, d3, d4, d5, -⟩ := hB.hop hcm hg hne hrow hrm
        have hwy := hB.way hcm hg hne d2
        refine lv_aload_n F.1 F.2.1 d_Sc_wayTotal_22 rfl (lv_at hl5 3 rfl) ?_
        refine lv_iload F.1 F.2.1 d_Sc_wayTotal_23 (lv_at hl5 1 rfl) ?_
        refine lv_iload_n F.1 F.2.1 d_Sc_wayTotal_25 rfl (lv_at hl5 5 rfl) ?_
        refine q_calli hWp (q_cV (As := [.int ch, .int y]) (rest := []) F hWp cs_Sc_117 hd_Sc_onward rfl (by omega) so (k_Sc_onward l D τ A ad N w hb m bh wt Wt mk hS hB ch y c g hcv hy hcm hg) rfl rfl ⟨by decide, by decide⟩ rfl hl5.1 rfl (Nat.le_of_ble_eq_true rfl) d_Sc_wayTotal_26 ⟨Nat.le_refl _, Nat.le_refl _⟩) (fun v7 w7 H7 locs7 hp7 hW7 => ?_)
        obtain ⟨hq7, hp7⟩ := hp7
        replace hq7 := hq7.symm
        subst hq7
        rw [d2] at hp7
        refine lv_istore (lv' := [(7, .int v7), (6, .int v4), (5, .int ch), (4, .int v1), (0, .ref (ad 84)), (1, .int x), (2, .int y), (3, .int z)]) F.1 F.2.1 d_Sc_wayTotal_29 hl5 (by decide) rfl (fun ls8 hl8 => ?_)
        clear hl5
        refine lv_iload F.1 F.2.1 d_Sc_wayTotal_31 (lv_at hl8 3 rfl) ?_
        refine lv_iload_n F.1 F.2.1 d_Sc_wayTotal_33 rfl (lv_at hl8 7 rfl) ?_
        refine q_if_eq (tgt := 48) F d_Sc_wayTotal_34 (by decide) (fun c34 => ?_) (fun c34 => ?_)
        · refine q_iconst F d_Sc_wayTotal_48 (by decide) (fun v9 hv9 => ?_)
          refine q_iadd F d_Sc_wayTotal_49 (by omega) (fun v10 hv10 => ?_)
          refine lv_istore (lv' := [(4, .int v10), (7, .int v7), (6, .int v4), (5, .int ch), (0, .ref (ad 84)), (1, .int x), (2, .int y), (3, .int z)]) F.1 F.2.1 d_Sc_wayTotal_50 hl8 (by decide) rfl (fun ls11 hl11 => ?_)
          clear hl8
          refine lv_iload F.1 F.2.1 d_Sc_wayTotal_52 (lv_at hl11 1 rfl) ?_
          refine lv_istore (lv' := [(5, .int v7), (4, .int v10), (7, .int v7), (6, .int v4), (0, .ref (ad 84)), (1, .int x), (2, .int y), (3, .int z)]) F.1 F.2.1 d_Sc_wayTotal_54 hl11 (by decide) rfl (fun ls12 hl12 => ?_)
          clear hl11
          refine q_iinc (lv' := fun v13 => [(6, .int v13), (5, .int v7), (4, .int v10), (7, .int v7), (0, .ref (ad 84)), (1, .int x), (2, .int y), (3, .int z)]) F d_Sc_wayTotal_56 hl12 (k := 3) rfl (by decide) (by omega) (by decide) (fun _ => rfl) (fun v13 lsv13 hv13 hlv13 => ?_)
          clear hl12
          refine lv_goto (tgt := 9) F.1 F.2.1 d_Sc_wayTotal_59 (by decide) ?_
          exact ihi (i := i + 1) (v4 := v13) (ls5 := lsv13) (Hp := H7) (locsp := locs7) (ch := v7) (c := d) (v1 := v10) (hiv := by omega) (hib := by omega) (hWp := hW7) (hcv := hp7) (hcm := d1) (hph := by omega) (htb := by omega) (hsum := by rw [hwy] at hsum; rw [← hsum]; unfold zwt; rw [if_pos c34, if_pos c34]; omega) (hf := by omega) (hl5 := (lv_sub hlv13 [0, 1, 2, 4, 5, 6, 7] rfl))
        · refine lv_aload_n F.1 F.2.1 d_Sc_wayTotal_37 rfl (lv_at hl8 4 rfl) ?_
          refine lv_iload F.1 F.2.1 d_Sc_wayTotal_38 (lv_at hl8 2 rfl) ?_
          refine lv_iload F.1 F.2.1 d_Sc_wayTotal_40 (lv_at hl8 0 rfl) ?_
          refine q_calli hW7 (q_cV (As := [.int ch, .int v7]) (rest := [.int v1]) F hW7 cs_Sc_120 hd_Sc_hopWeight rfl (by omega) so (k_Sc_hopWeight l D τ A ad N w hb so m hm40 m bh wt hN rfl Wt od hY hZ ch v7 c d hcv hp7 hcm d1) rfl rfl ⟨by decide, by decide⟩ rfl hl8.1 rfl (Nat.le_of_ble_eq_true rfl) d_Sc_wayTotal_42 ⟨Nat.le_refl _, Nat.le_refl _⟩) (fun v14 w14 H14 locs14 hp14 hW14 => ?_)
          obtain ⟨hq14, hp14⟩ := hp14
          replace hq14 := hq14.symm
          subst hq14
          refine lv_goto (tgt := 49) F.1 F.2.1 d_Sc_wayTotal_45 (by decide) ?_
          refine q_iadd F d_Sc_wayTotal_49 (by omega) (fun v15 hv15 => ?_)
          refine lv_istore (lv' := [(4, .int v15), (7, .int v7), (6, .int v4), (5, .int ch), (0, .ref (ad 84)), (1, .int x), (2, .int y), (3, .int z)]) F.1 F.2.1 d_Sc_wayTotal_50 hl8 (by decide) rfl (fun ls16 hl16 => ?_)
          clear hl8
          refine lv_iload F.1 F.2.1 d_Sc_wayTotal_52 (lv_at hl16 1 rfl) ?_
          refine lv_istore (lv' := [(5, .int v7), (4, .int v15), (7, .int v7), (6, .int v4), (0, .ref (ad 84)), (1, .int x), (2, .int y), (3, .int z)]) F.1 F.2.1 d_Sc_wayTotal_54 hl16 (by decide) rfl (fun ls17 hl17 => ?_)
          clear hl16
          refine q_iinc (lv' := fun v18 => [(6, .int v18), (5, .int v7), (4, .int v15), (7, .int v7), (0, .ref (ad 84)), (1, .int x), (2, .int y), (3, .int z)]) F d_Sc_wayTotal_56 hl17 (k := 3) rfl (by decide) (by omega) (by decide) (fun _ => rfl) (fun v18 lsv18 hv18 hlv18 => ?_)
          clear hl17
          refine lv_goto (tgt := 9) F.1 F.2.1 d_Sc_wayTotal_59 (by decide) ?_
          exact ihi (i := i + 1) (v4 := v18) (ls5 := lsv18) (Hp := H14) (locsp := locs14) (ch := v7) (c := d) (v1 := v15) (hiv := by omega) (hib := by omega) (hWp := hW14) (hcv := hp7) (hcm := d1) (hph := by omega) (htb := by omega) (hsum := by rw [hwy] at hsum; rw [← hsum]; unfold zwt; rw [if_neg c34, if_neg c34]; omega) (hf := by omega) (hl5 := (lv_sub hlv18 [0, 1, 2, 4, 5, 6, 7] rfl))
set_option maxHeartbeats 4000000 in
set_option maxRecDepth 100000 in
/-- the stretch -/
theorem k_Sc_wayStretch (l : Launch) (D : va_G) (τ : Nat → ClassId) (A : Nat → Prop) (ad : Nat → Nat) (N : Nat) (w : Nat → va_E) (hb : 469 ≤ N) (m : Nat) (bh wt Wt : Nat → Nat → Int) (mk : Nat → Prop) (hS : qSch τ ad w m bh wt Wt mk) (hB : zBt m bh wt Wt mk) (x y : Int32) (a g : Nat) (hx : x.toInt = a) (hy : y.toInt = g) (ha : a < m) (hg : g < m) : Met l y_Sc_wayStretch (qws y_Sc_wayStretch c_Sc_wayStretch 4 (some .int)) ({ frames := 5, cells := 0, slots := 0, locals := 123 }) (qPc D τ A ad N w [.ref (ad 84), .int x, .int y]) (va_Qi (fun r1 w1 => w1 = w ∧ r1.toInt = zst m bh Wt mk a g) (qB D τ A ad N) A) 0 0 A := by
  refine q_of (by decide) (Nat.le_of_ble_eq_true rfl) rfl ?_
  intro PP EE s MM below meth CC ls F hr hlk hnm hex hl hW
  have hl : lv_has ls 4 [(0, .ref (ad 84)), (1, .int x), (2, .int y)] := hl
  obtain ⟨hm1, hm40, hZ, hall, hmk1, hmk2⟩ := id hB
  obtain ⟨so, hN, ⟨od, hY⟩, ⟨S, Bl, Cl, Ow, IB, hL, hS40, hSm, hOw, hCl⟩, ⟨Pl, Sz, Hv, Lt, Pa, hF, hTr⟩, Lb, hG, hLb⟩ := id hS
  obtain ⟨fo, -⟩ := id hF
  obtain ⟨lao, -⟩ := id hL
  obtain ⟨hyo, -⟩ := id hY
  obtain ⟨⟨l32, lho, hl32⟩, -⟩ := id hN
  refine lv_aload_n F.1 F.2.1 d_Sc_wayStretch_0 rfl (lv_at hl 0 rfl) ?_
  refine gf_Sc_23 F hW (by omega) so d_Sc_wayStretch_1 ?_
  refine lv_iload_n F.1 F.2.1 d_Sc_wayStretch_4 rfl (lv_at hl 1 rfl) ?_
  refine lv_iload_n F.1 F.2.1 d_Sc_wayStretch_5 rfl (lv_at hl 2 rfl) ?_
  refine q_calli hW (q_cV (As := [.int x, .int y]) (rest := []) F hW cs_Sc_123 hd_Wa_far rfl (by omega) hyo (k_Wa_far l D τ A ad N w hb m hm40 Wt od hY x y a g hx hy ha hg) rfl rfl ⟨by decide, by decide⟩ rfl hl.1 rfl (Nat.le_of_ble_eq_true rfl) d_Sc_wayStretch_6 ⟨Nat.le_refl _, Nat.le_refl _⟩) (fun v1 w1 H1 locs1 hp1 hW1 => ?_)
  obtain ⟨hq1, hp1⟩ := hp1
  replace hq1 := hq1.symm
  subst hq1
  have hdb := zd_bd hZ.1 ha hg
  refine lv_istore_n (lv' := [(3, .int v1), (0, .ref (ad 84)), (1, .int x), (2, .int y)]) F.1 F.2.1 d_Sc_wayStretch_9 rfl hl (by decide) rfl (fun ls2 hl2 => ?_)
  clear hl
  refine lv_iload_n F.1 F.2.1 d_Sc_wayStretch_10 rfl (lv_at hl2 0 rfl) ?_
  refine q_if_gt (tgt := 18) F d_Sc_wayStretch_11 (by decide) (fun c11 => ?_) (fun c11 => ?_)
  · refine q_sipush F d_Sc_wayStretch_18 (by decide) (fun v3 hv3 => ?_)
    refine lv_aload_n F.1 F.2.1 d_Sc_wayStretch_21 rfl (lv_at hl2 1 rfl) ?_
    refine lv_iload_n F.1 F.2.1 d_Sc_wayStretch_22 rfl (lv_at hl2 2 rfl) ?_
    refine lv_iload_n F.1 F.2.1 d_Sc_wayStretch_23 rfl (lv_at hl2 3 rfl) ?_
    refine q_iconst F d_Sc_wayStretch_24 (by decide) (fun v4 hv4 => ?_)
    refine q_calli hW1 (q_cV (As := [.int x, .int y, .int v4]) (rest := [.int v3]) F hW1 cs_Sc_126 hd_Sc_wayTotal rfl (by omega) so (k_Sc_wayTotal l D τ A ad N w hb m bh wt Wt mk hS hB x y a g hx hy ha hg v4) rfl rfl ⟨by decide, by decide⟩ rfl hl2.1 rfl (Nat.le_of_ble_eq_true rfl) d_Sc_wayStretch_25 ⟨Nat.le_refl _, Nat.le_refl _⟩) (fun v5 w5 H5 locs5 hp5 hW5 => ?_)
    obtain ⟨hq5, hp5⟩ := hp5
    replace hq5 := hq5.symm
    subst hq5
    rw [hv4] at hp5
    have hw9 : v5.toInt = (zwk m bh Wt mk g 120 a).1 := hp5
    have hwb := (zwk_bd hB hg 120 a ha).1
    rw [← hw9] at hwb
    refine q_imul F d_Sc_wayStretch_28 (by rw [hv3]; omega) (fun v6 hv6 => ?_)
    rw [hv3] at hv6
    refine lv_iload_n F.1 F.2.1 d_Sc_wayStretch_29 rfl (lv_at hl2 0 rfl) ?_
    refine q_iadd F d_Sc_wayStretch_30 (by omega) (fun v7 hv7 => ?_)
    refine q_iconst F d_Sc_wayStretch_31 (by decide) (fun v8 hv8 => ?_)
    refine q_isub F d_Sc_wayStretch_32 (by omega) (fun v9 hv9 => ?_)
    refine lv_iload_n F.1 F.2.1 d_Sc_wayStretch_33 rfl (lv_at hl2 0 rfl) ?_
    refine q_idiv F (by omega) (by omega) d_Sc_wayStretch_34 (fun v10 hv10 => ?_)
    have h9 : zst m bh Wt mk a g = v10.toInt := by
      unfold zst
      rw [zz_dec_f (show ¬ zd m Wt a g ≤ 0 by omega), hv10, ← hw9, ← hp1]
      simp only [Bool.false_eq_true, if_false]
      congr 1
      omega
    exact q_iret F hr hlk hW5 ⟨rfl, h9.symm⟩ d_Sc_wayStretch_35
  · refine q_sipush F d_Sc_wayStretch_14 (by decide) (fun v11 hv11 => ?_)
    have h9 : zst m bh Wt mk a g = 1000 := by unfold zst; rw [zz_dec_t (show zd m Wt a g ≤ 0 by omega)]; simp
    exact q_iret F hr hlk hW1 ⟨rfl, by omega⟩ d_Sc_wayStretch_17
set_option maxHeartbeats 4000000 in
set_option maxRecDepth 100000 in
theorem k_Sc_labelOf (l : Launch) (D : va_G) (τ : Nat → ClassId) (A : Nat → Prop) (ad : Nat → Nat) (N : Nat) (w : Nat → va_E) (hb : 469 ≤ N) (so : w 84 = .inr (4, [.ref (ad 85), .ref (ad 168), .ref (ad 251), .ref (ad 256), .ref (ad 422)])) (Lb : Nat → Nat → Int) (hG : q_G τ ad w 422 40 5 Lb) (x : Int32) (a : Nat) (hx : x.toInt = a) (ha : a < 40) : Met l y_Sc_labelOf (qws y_Sc_labelOf c_Sc_labelOf 2 (some (.array .int))) ({ frames := 0, cells := 0, slots := 0, locals := 0 }) (qPc D τ A ad N w [.ref (ad 84), .int x]) (va_Qr (fun w1 => w1 = w) (qBr D τ A ad N (422 + 1 + a)) A) 0 0 A := by
  refine q_of (by decide) (Nat.le_of_ble_eq_true rfl) rfl ?_
  intro PP EE s MM below meth CC ls F hr hlk hnm hex hl hW
  have hl : lv_has ls 2 [(0, .ref (ad 84)), (1, .int x)] := hl
  refine lv_aload_n F.1 F.2.1 d_Sc_labelOf_0 rfl (lv_at hl 0 rfl) ?_
  refine gf_Sc_45 F hW (by omega) so d_Sc_labelOf_1 ?_
  refine lv_iload_n F.1 F.2.1 d_Sc_labelOf_4 rfl (lv_at hl 1 rfl) ?_
  refine q_aald F hW hG (by omega) a (by omega) (by omega) d_Sc_labelOf_5 ?_
  exact q_aret F hr (Or.inr ⟨_, rfl⟩) hlk hW rfl d_Sc_labelOf_6
