/-- what is fixed while a network is built -/
def zBt (m : Nat) (bh wt Wt : Nat → Nat → Int) (mk : Nat → Prop) : Prop := 1 ≤ m ∧ m ≤ 40 ∧ zn_ok m bh wt Wt ∧ zall m Wt ∧ (∀ v, mk v → v < m) ∧ ∃ v, mk v
theorem zBt.own {m : Nat} {bh wt Wt : Nat → Nat → Int} {mk : Nat → Prop} (h : zBt m bh wt Wt mk) (a : Nat) : ∃ r : Nat, r < m ∧ zow m (zd m Wt) mk a = (r : Int) ∧ mk r := by
  obtain ⟨-, -, -, -, h5, v, h6⟩ := h
  obtain ⟨r, r1, r2, r3, -⟩ := zow_some (n := m) (d := zd m Wt) (mk := mk) (a := a) ⟨v, h5 v h6, h6⟩
  exact ⟨r, r1, r2, r3⟩
theorem zBt.hop {m : Nat} {bh wt Wt : Nat → Nat → Int} {mk : Nat → Prop} (h : zBt m bh wt Wt mk) {a g r : Nat} (ha : a < m) (hg : g < m) (hne : a ≠ g) (hr : zow m (zd m Wt) mk g = (r : Int)) (hrm : r < m) : ∃ c : Nat, c < m ∧ zhop m bh Wt mk a g = (c : Int) ∧ 0 < Wt a c ∧ Wt a c ≤ 1000 ∧ zphi m Wt mk r c g < zphi m Wt mk r a g ∧ (¬ (mk g ∨ znr m (zd m Wt) mk a g) → zI m (zpa m Wt r) a (zpl m (zpa m Wt r) g) → ∃ b : Nat, b < m ∧ zh m (zpa m Wt r) a = (b : Int)) := by
  obtain ⟨-, h2, h3, h4, h5, v, h6⟩ := h
  obtain ⟨c, c1, c2, c3, c4, c5⟩ := zhop_ok h2 h3 h4 ⟨v, h5 v h6, h6⟩ ha hg hne hr hrm
  exact ⟨c, c1, c2, c3, (h3.1.1 a c ha c1).2.1, c4, c5⟩
/-- a way on -/
theorem zBt.way {m : Nat} {bh wt Wt : Nat → Nat → Int} {mk : Nat → Prop} (h : zBt m bh wt Wt mk) {a g c : Nat} (ha : a < m) (hg : g < m) (hne : a ≠ g) (hc : zhop m bh Wt mk a g = (c : Int)) : zwk m bh Wt mk g 120 a = (Wt a c + (zwk m bh Wt mk g 120 c).1, 1 + (zwk m bh Wt mk g 120 c).2) := by
  obtain ⟨r, r1, r2, -⟩ := h.own g
  obtain ⟨-, h2, h3, h4, h5, v, h6⟩ := h
  have hp := zphi_bd (n := m) (Wt := Wt) (mk := mk) h2 (m := r) ha hg
  rw [zwk_fuel h2 h3 h4 ⟨v, h5 v h6, h6⟩ hg r2 r1 120 121 a ha hp (by omega)]
  exact zwk_on hne hc
theorem zhop_row {m a g : Nat} {bh Wt : Nat → Nat → Int} {mk : Nat → Prop} (hne : a ≠ g) (h : mk g ∨ znr m (zd m Wt) mk a g) : zhop m bh Wt mk a g = ztw m Wt (zd m Wt) a g := by unfold zhop; rw [zz_dec_f hne, zz_dec_t h]; simp
theorem zhop_up {m a g r : Nat} {bh Wt : Nat → Nat → Int} {mk : Nat → Prop} (hne : a ≠ g) (h : ¬ (mk g ∨ znr m (zd m Wt) mk a g)) (hr : zow m (zd m Wt) mk g = (r : Int)) (h2 : ¬ zI m (zpa m Wt r) a (zpl m (zpa m Wt r) g)) : zhop m bh Wt mk a g = zpa m Wt r a := by
  unfold zhop
  rw [zz_dec_f hne, zz_dec_f h, hr]
  simp only [Int.toNat_natCast]
  rw [zz_dec_t h2]
  simp
theorem zhop_heavy {m a g r b : Nat} {bh Wt : Nat → Nat → Int} {mk : Nat → Prop} (hne : a ≠ g) (h : ¬ (mk g ∨ znr m (zd m Wt) mk a g)) (hr : zow m (zd m Wt) mk g = (r : Int)) (h2 : zI m (zpa m Wt r) a (zpl m (zpa m Wt r) g)) (hb : zh m (zpa m Wt r) a = (b : Int)) (h3 : zI m (zpa m Wt r) b (zpl m (zpa m Wt r) g)) : zhop m bh Wt mk a g = (b : Int) := by
  unfold zhop
  rw [zz_dec_f hne, zz_dec_f h, hr]
  simp only [Int.toNat_natCast]
  rw [hb]
  simp only [Int.toNat_natCast]
  rw [zz_dec_f (fun z => z h2)]
  simp [zz_dec_t h3]
theorem zhop_light {m a g r b k : Nat} {bh Wt : Nat → Nat → Int} {mk : Nat → Prop} (hne : a ≠ g) (h : ¬ (mk g ∨ znr m (zd m Wt) mk a g)) (hr : zow m (zd m Wt) mk g = (r : Int)) (h2 : zI m (zpa m Wt r) a (zpl m (zpa m Wt r) g)) (hb : zh m (zpa m Wt r) a = (b : Int)) (h3 : ¬ zI m (zpa m Wt r) b (zpl m (zpa m Wt r) g)) (hk : zli m (zpa m Wt r) a = (k : Int)) {W : Nat} (hW : zwd m (zpa m Wt r) (zpt m bh Wt r) g = (W : Int)) : zhop m bh Wt mk a g = bh a (W / 16 ^ k % 16) := by
  unfold zhop
  rw [zz_dec_f hne, zz_dec_f h, hr]
  simp only [Int.toNat_natCast]
  rw [hb, hk, hW]
  simp only [Int.toNat_natCast]
  rw [zz_dec_f (fun z => z h2), zz_dec_f h3]
  simp only [Bool.false_eq_true, if_false]
  congr 1
/-- a label -/
def zlab (m : Nat) (bh Wt : Nat → Nat → Int) (mk : Nat → Prop) (a : Nat) (L : Nat → Int) : Prop := L 0 = (a : Int) ∧ L 1 = zow m (zd m Wt) mk a ∧ L 2 = zpl m (zpa m Wt (zow m (zd m Wt) mk a).toNat) a ∧ L 3 = zli m (zpa m Wt (zow m (zd m Wt) mk a).toNat) a ∧ L 4 = zwd m (zpa m Wt (zow m (zd m Wt) mk a).toNat) (zpt m bh Wt (zow m (zd m Wt) mk a).toNat) a
/-- the tables of landmarks -/
def zlan (m : Nat) (Wt : Nat → Nat → Int) (mk : Nat → Prop) (S : Nat) (Cl : Nat → Nat) (Ow : Nat → Int) : Prop := S < 2 ^ 40 ∧ (∀ v, (S.testBit v = true ↔ mk v)) ∧ (∀ a, a < m → Ow a = zow m (zd m Wt) mk a) ∧ ∀ a, a < m → Cl a < 2 ^ 40 ∧ ∀ v, ((Cl a).testBit v = true ↔ v < m ∧ znr m (zd m Wt) mk a v)
/-- the trees -/
def ztre (m : Nat) (Wt : Nat → Nat → Int) (r : Nat) (Pl Sz Hv Lt : Nat → Nat → Int) : Prop := ∀ a, a < m → Pl r a = zpl m (zpa m Wt r) a ∧ Sz r a = (zS m (zpa m Wt r) a : Int) ∧ Hv r a = zh m (zpa m Wt r) a ∧ Lt r a = zli m (zpa m Wt r) a
/-- what is built -/
def qSch (τ : Nat → ClassId) (ad : Nat → Nat) (w : Nat → va_E) (m : Nat) (bh wt Wt : Nat → Nat → Int) (mk : Nat → Prop) : Prop := w 84 = .inr (4, [.ref (ad 85), .ref (ad 168), .ref (ad 251), .ref (ad 256), .ref (ad 422)]) ∧ qNet τ ad w 85 m bh wt ∧ (∃ od, qWay τ ad w m Wt od) ∧ (∃ S Bl Cl Ow IB, qLan τ ad w S Bl Cl Ow IB ∧ zlan m Wt mk S Cl Ow) ∧ (∃ Pl Sz Hv Lt Pa, qFor τ ad w Pl Sz Hv Lt Pa ∧ ∀ r, mk r → ztre m Wt r Pl Sz Hv Lt) ∧ ∃ Lb, q_G τ ad w 422 40 5 Lb ∧ ∀ a, a < m → zlab m bh Wt mk a (Lb a)
/-- its cells, whatever they hold -/
def qSh (τ : Nat → ClassId) (ad : Nat → Nat) (w : Nat → va_E) : Prop := w 84 = .inr (4, [.ref (ad 85), .ref (ad 168), .ref (ad 251), .ref (ad 256), .ref (ad 422)]) ∧ (∃ n bh wt, qNet τ ad w 85 n bh wt) ∧ w 168 = .inr (5, [.ref (ad 85), .ref (ad 169), .ref (ad 210)]) ∧ (∃ F0, q_G τ ad w 169 40 40 F0) ∧ (∃ O0, q_G τ ad w 210 40 40 O0) ∧ (∃ S Bl Cl Ow IB, qLan τ ad w S Bl Cl Ow IB) ∧ (∃ Pl Sz Hv Lt Pa, qFor τ ad w Pl Sz Hv Lt Pa) ∧ ∃ Lb, q_G τ ad w 422 40 5 Lb
theorem qSch.sh {τ : Nat → ClassId} {ad : Nat → Nat} {w : Nat → va_E} {m : Nat} {bh wt Wt : Nat → Nat → Int} {mk : Nat → Prop} (h : qSch τ ad w m bh wt Wt mk) : qSh τ ad w := by
  obtain ⟨h1, h2, ⟨od, h3, ⟨F0, h4, -⟩, O0, h5, -⟩, ⟨S, Bl, Cl, Ow, IB, h6, -⟩, ⟨Pl, Sz, Hv, Lt, Pa, h7, -⟩, Lb, h8, -⟩ := h
  exact ⟨h1, ⟨_, _, _, h2⟩, h3, ⟨F0, h4⟩, ⟨O0, h5⟩, ⟨S, Bl, Cl, Ow, IB, h6⟩, ⟨Pl, Sz, Hv, Lt, Pa, h7⟩, Lb, h8⟩
theorem qSch.keep {τ : Nat → ClassId} {ad : Nat → Nat} {w w' : Nat → va_E} {m : Nat} {bh wt Wt : Nat → Nat → Int} {mk : Nat → Prop} (h : qSch τ ad w m bh wt Wt mk) (e : ∀ q, 84 ≤ q → q < 463 → w' q = w q) : qSch τ ad w' m bh wt Wt mk := by
  obtain ⟨h1, h2, ⟨od, h3⟩, ⟨S, Bl, Cl, Ow, IB, h6, h6b⟩, ⟨Pl, Sz, Hv, Lt, Pa, h7, h7b⟩, Lb, h8, h8b⟩ := h
  exact ⟨by rw [e 84 (by omega) (by omega)]; exact h1, h2.keep (fun q _ _ => e q (by omega) (by omega)), ⟨od, h3.keep (fun q _ _ => e q (by omega) (by omega))⟩, ⟨S, Bl, Cl, Ow, IB, h6.keep (fun q _ _ => e q (by omega) (by omega)), h6b⟩, ⟨Pl, Sz, Hv, Lt, Pa, h7.keep (fun q _ _ => e q (by omega) (by omega)), h7b⟩, Lb, h8.keep (fun i hi => e _ (by omega) (by omega)), h8b⟩
theorem qSh.keep {τ : Nat → ClassId} {ad : Nat → Nat} {w w' : Nat → va_E} (h : qSh τ ad w) (e : ∀ q, 84 ≤ q → q < 463 → w' q = w q) : qSh τ ad w' := by
  obtain ⟨h1, ⟨n, bh, wt, h2⟩, h3, ⟨F0, h4⟩, ⟨O0, h5⟩, ⟨S, Bl, Cl, Ow, IB, h6⟩, ⟨Pl, Sz, Hv, Lt, Pa, h7⟩, Lb, h8⟩ := h
  exact ⟨by rw [e 84 (by omega) (by omega)]; exact h1, ⟨n, bh, wt, h2.keep (fun q _ _ => e q (by omega) (by omega))⟩, by rw [e 168 (by omega) (by omega)]; exact h3, ⟨F0, h4.keep (fun i hi => e _ (by omega) (by omega))⟩, ⟨O0, h5.keep (fun i hi => e _ (by omega) (by omega))⟩, ⟨S, Bl, Cl, Ow, IB, h6.keep (fun q _ _ => e q (by omega) (by omega))⟩, ⟨Pl, Sz, Hv, Lt, Pa, h7.keep (fun q _ _ => e q (by omega) (by omega))⟩, Lb, h8.keep (fun i hi => e _ (by omega) (by omega))⟩
set_option maxHeartbeats 4000000 in
set_option maxRecDepth 100000 in
/-- a row's port -/
theorem k_Sc_rowPort (l : Launch) (D : va_G) (τ : Nat → ClassId) (A : Nat → Prop) (ad : Nat → Nat) (N : Nat) (w : Nat → va_E) (hb : 469 ≤ N) (so : w 84 = .inr (4, [.ref (ad 85), .ref (ad 168), .ref (ad 251), .ref (ad 256), .ref (ad 422)])) (m : Nat) (hm40 : m ≤ 40) (n : Int) (bh wt : Nat → Nat → Int) (hN : qNet τ ad w 85 n bh wt) (hn : n = m) (Wt : Nat → Nat → Int) (od : Nat → Nat → Nat) (hY : qWay τ ad w m Wt od) (hZ : zn_ok m bh wt Wt) (x y : Int32) (a c : Nat) (hx : x.toInt = a) (hy : y.toInt = c) (ha : a < m) (hc : c < m) : Met l y_Sc_rowPort (qws y_Sc_rowPort c_Sc_rowPort 4 (some .int)) ({ frames := 2, cells := 0, slots := 0, locals := 47 }) (qPc D τ A ad N w [.ref (ad 84), .int x, .int y]) (va_Qi (fun r1 w1 => w1 = w ∧ ((ztw m Wt (zd m Wt) a c = -1 ∧ r1.toInt = -1) ∨ (ztw m Wt (zd m Wt) a c ≠ -1 ∧ r1.toInt = zp bh a (ztw m Wt (zd m Wt) a c)))) (qB D τ A ad N) A) 0 0 A := by
  refine q_of (by decide) (Nat.le_of_ble_eq_true rfl) rfl ?_
  intro PP EE s MM below meth CC ls F hr hlk hnm hex hl hW
  have hl : lv_has ls 4 [(0, .ref (ad 84)), (1, .int x), (2, .int y)] := hl
  obtain ⟨hyo, -⟩ := id hY
  obtain ⟨⟨l32, lho, hl32⟩, -⟩ := id hN
  refine lv_aload_n F.1 F.2.1 d_Sc_rowPort_0 rfl (lv_at hl 0 rfl) ?_
  refine gf_Sc_23 F hW (by omega) so d_Sc_rowPort_1 ?_
  refine lv_iload_n F.1 F.2.1 d_Sc_rowPort_4 rfl (lv_at hl 1 rfl) ?_
  refine lv_iload_n F.1 F.2.1 d_Sc_rowPort_5 rfl (lv_at hl 2 rfl) ?_
  refine q_calli hW (q_cV (As := [.int x, .int y]) (rest := []) F hW cs_Sc_77 hd_Wa_next rfl (by omega) hyo (k_Wa_next l D τ A ad N w hb m hm40 Wt od hY n bh wt hN hn hZ x y a c hx hy ha hc) rfl rfl ⟨by decide, by decide⟩ rfl hl.1 rfl (Nat.le_of_ble_eq_true rfl) d_Sc_rowPort_6 ⟨Nat.le_refl _, Nat.le_refl _⟩) (fun v1 w1 H1 locs1 hp1 hW1 => ?_)
  obtain ⟨hq1, hp1⟩ := hp1
  replace hq1 := hq1.symm
  subst hq1
  refine lv_istore_n (lv' := [(3, .int v1), (0, .ref (ad 84)), (1, .int x), (2, .int y)]) F.1 F.2.1 d_Sc_rowPort_9 rfl hl (by decide) rfl (fun ls2 hl2 => ?_)
  clear hl
  refine lv_iload_n F.1 F.2.1 d_Sc_rowPort_10 rfl (lv_at hl2 0 rfl) ?_
  refine q_iconst F d_Sc_rowPort_11 (by decide) (fun v3 hv3 => ?_)
  refine q_icmp_ne (tgt := 19) F d_Sc_rowPort_12 (by decide) (fun c12 => ?_) (fun c12 => ?_)
  · refine lv_aload_n F.1 F.2.1 d_Sc_rowPort_19 rfl (lv_at hl2 1 rfl) ?_
    refine gf_Sc_12 F hW1 (by omega) so d_Sc_rowPort_20 ?_
    refine lv_iload_n F.1 F.2.1 d_Sc_rowPort_23 rfl (lv_at hl2 2 rfl) ?_
    refine lv_iload_n F.1 F.2.1 d_Sc_rowPort_24 rfl (lv_at hl2 0 rfl) ?_
    refine q_calli hW1 (q_cV (As := [.int x, .int v1]) (rest := []) F hW1 cs_Sc_81 hd_Ne_portTo rfl (by omega) lho (k_Ne_portTo l D τ A ad N w 85 (by omega) n bh wt hN x v1 a hx (by omega)) rfl rfl ⟨by decide, by decide⟩ rfl hl2.1 rfl (Nat.le_of_ble_eq_true rfl) d_Sc_rowPort_25 ⟨Nat.le_refl _, Nat.le_refl _⟩) (fun v4 w4 H4 locs4 hp4 hW4 => ?_)
    obtain ⟨hq4, hp4⟩ := hp4
    replace hq4 := hq4.symm
    subst hq4
    rw [hp1] at hp4
    exact q_iret F hr hlk hW4 ⟨rfl, Or.inr ⟨by omega, hp4⟩⟩ d_Sc_rowPort_28
  · refine q_iconst F d_Sc_rowPort_15 (by decide) (fun v5 hv5 => ?_)
    refine lv_goto (tgt := 28) F.1 F.2.1 d_Sc_rowPort_16 (by decide) ?_
    exact q_iret F hr hlk hW1 ⟨rfl, Or.inl ⟨by omega, hv5⟩⟩ d_Sc_rowPort_28
set_option maxHeartbeats 4000000 in
set_option maxRecDepth 100000 in
/-- the weight of a hop -/
theorem k_Sc_hopWeight (l : Launch) (D : va_G) (τ : Nat → ClassId) (A : Nat → Prop) (ad : Nat → Nat) (N : Nat) (w : Nat → va_E) (hb : 469 ≤ N) (so : w 84 = .inr (4, [.ref (ad 85), .ref (ad 168), .ref (ad 251), .ref (ad 256), .ref (ad 422)])) (m : Nat) (hm40 : m ≤ 40) (n : Int) (bh wt : Nat → Nat → Int) (hN : qNet τ ad w 85 n bh wt) (hn : n = m) (Wt : Nat → Nat → Int) (od : Nat → Nat → Nat) (hY : qWay τ ad w m Wt od) (hZ : zn_ok m bh wt Wt) (x y : Int32) (a c : Nat) (hx : x.toInt = a) (hy : y.toInt = c) (ha : a < m) (hc : c < m) : Met l y_Sc_hopWeight (qws y_Sc_hopWeight c_Sc_hopWeight 3 (some .int)) ({ frames := 2, cells := 0, slots := 0, locals := 46 }) (qPc D τ A ad N w [.ref (ad 84), .int x, .int y]) (va_Qi (fun r1 w1 => w1 = w ∧ r1.toInt = Wt a c) (qB D τ A ad N) A) 0 0 A := by
  refine q_of (by decide) (Nat.le_of_ble_eq_true rfl) rfl ?_
  intro PP EE s MM below meth CC ls F hr hlk hnm hex hl hW
  have hl : lv_has ls 3 [(0, .ref (ad 84)), (1, .int x), (2, .int y)] := hl
  obtain ⟨hyo, -⟩ := id hY
  obtain ⟨⟨l32, lho, hl32⟩, -⟩ := id hN
  refine lv_iload_n F.1 F.2.1 d_Sc_hopWeight_0 rfl (lv_at hl 1 rfl) ?_
  refine lv_iload_n F.1 F.2.1 d_Sc_hopWeight_1 rfl (lv_at hl 2 rfl) ?_
  refine q_icmp_ne (tgt := 9) F d_Sc_hopWeight_2 (by decide) (fun c2 => ?_) (fun c2 => ?_)
  · refine lv_aload_n F.1 F.2.1 d_Sc_hopWeight_9 rfl (lv_at hl 0 rfl) ?_
    refine gf_Sc_12 F hW (by omega) so d_Sc_hopWeight_10 ?_
    refine lv_iload_n F.1 F.2.1 d_Sc_hopWeight_13 rfl (lv_at hl 1 rfl) ?_
    refine lv_iload_n F.1 F.2.1 d_Sc_hopWeight_14 rfl (lv_at hl 2 rfl) ?_
    refine q_calli hW (q_cV (As := [.int x, .int y]) (rest := []) F hW cs_Sc_114 hd_Ne_weightTo rfl (by omega) lho (k_Ne_weightTo l D τ A ad N w 85 (by omega) n bh wt hN x y a hx (by omega)) rfl rfl ⟨by decide, by decide⟩ rfl hl.1 rfl (Nat.le_of_ble_eq_true rfl) d_Sc_hopWeight_15 ⟨Nat.le_refl _, Nat.le_refl _⟩) (fun v1 w1 H1 locs1 hp1 hW1 => ?_)
    obtain ⟨hq1, hp1⟩ := hp1
    replace hq1 := hq1.symm
    subst hq1
    rw [hy] at hp1
    have hed := zp_edge hZ ha hc
    have hbd := hZ.1.1 a c ha hc
    have h9 : v1.toInt = Wt a c := by
      rcases hp1 with ⟨z1, z2⟩ | ⟨z1, z2⟩
      · have : ¬ 0 < Wt a c := fun q => (hed.mpr q) z1
        omega
      · obtain ⟨p9, p1, p2, p3, -⟩ := zp_at z1
        rw [z2, p2]
        simp only [Int.toNat_natCast]
        exact zp_wt hZ ha p1 p3
    exact q_iret F hr hlk hW1 ⟨rfl, h9⟩ d_Sc_hopWeight_18
  · refine q_iconst F d_Sc_hopWeight_5 (by decide) (fun v2 hv2 => ?_)
    refine lv_goto (tgt := 18) F.1 F.2.1 d_Sc_hopWeight_6 (by decide) ?_
    have hac : a = c := by omega
    have h9 := hZ.1.2 a ha
    exact q_iret F hr hlk hW ⟨rfl, by rw [← hac]; omega⟩ d_Sc_hopWeight_18
set_option maxHeartbeats 4000000 in
set_option maxRecDepth 100000 in
/-- the ports of light children on the way down -/
theorem k_Sc_lightPorts (l : Launch) (D : va_G) (τ : Nat → ClassId) (A : Nat → Prop) (ad : Nat → Nat) (N : Nat) (w : Nat → va_E) (hb : 469 ≤ N) (so : w 84 = .inr (4, [.ref (ad 85), .ref (ad 168), .ref (ad 251), .ref (ad 256), .ref (ad 422)])) (Pl Sz Hv Lt : Nat → Nat → Int) (Pa : Nat → Int) (hF : qFor τ ad w Pl Sz Hv Lt Pa) (m : Nat) (hm40 : m ≤ 40) (n : Int) (bh wt : Nat → Nat → Int) (hN : qNet τ ad w 85 n bh wt) (hn : n = m) (Wt : Nat → Nat → Int) (od : Nat → Nat → Nat) (hY : qWay τ ad w m Wt od) (hZ : zn_ok m bh wt Wt) (hall : zall m Wt) (x y : Int32) (a r : Nat) (hx : x.toInt = a) (hy : y.toInt = r) (ha : a < m) (hr9 : r < m) (hHv : ∀ c, c < m → Hv r c = zh m (zpa m Wt r) c) : Met l y_Sc_lightPorts (qws y_Sc_lightPorts c_Sc_lightPorts 7 (some .int)) ({ frames := 3, cells := 0, slots := 0, locals := 69 }) (qPc D τ A ad N w [.ref (ad 84), .int x, .int y]) (va_Qi (fun r1 w1 => w1 = w ∧ r1.toInt = zwd m (zpa m Wt r) (zpt m bh Wt r) a) (qB D τ A ad N) A) 0 0 A := by
  refine q_of (by decide) (Nat.le_of_ble_eq_true rfl) rfl ?_
  intro PP EE s MM below meth CC ls F hr hlk hnm hex hl hW
  have hl : lv_has ls 7 [(0, .ref (ad 84)), (1, .int x), (2, .int y)] := hl
  obtain ⟨hyo, -⟩ := id hY
  obtain ⟨⟨l32, lho, hl32⟩, -⟩ := id hN
  obtain ⟨fo, -⟩ := id hF
  have T := zpa_ok hZ.1 hall hr9
  have hpt := zpt_ok hZ hall hr9
  have hwb := zwd_bd T hm40 hpt ha
  refine q_iconst F d_Sc_lightPorts_0 (by decide) (fun v1 hv1 => ?_)
  refine lv_istore_n (lv' := [(3, .int v1), (0, .ref (ad 84)), (1, .int x), (2, .int y)]) F.1 F.2.1 d_Sc_lightPorts_1 rfl hl (by decide) rfl (fun ls2 hl2 => ?_)
  clear hl
  refine lv_iload_n F.1 F.2.1 d_Sc_lightPorts_2 rfl (lv_at hl2 2 rfl) ?_
  refine lv_istore (lv' := [(4, .int x), (3, .int v1), (0, .ref (ad 84)), (1, .int x), (2, .int y)]) F.1 F.2.1 d_Sc_lightPorts_3 hl2 (by decide) rfl (fun ls3 hl3 => ?_)
  clear hl2
  refine q_iconst F d_Sc_lightPorts_5 (by decide) (fun v4 hv4 => ?_)
  refine lv_istore (lv' := [(5, .int v4), (4, .int x), (3, .int v1), (0, .ref (ad 84)), (1, .int x), (2, .int y)]) F.1 F.2.1 d_Sc_lightPorts_6 hl3 (by decide) rfl (fun ls5 hl5 => ?_)
  clear hl3
  obtain ⟨ch, hch⟩ : ∃ z : Int32, z = x := ⟨_, rfl⟩
  replace hl5 : lv_has ls5 7 [(5, .int v4), (4, .int ch), (3, .int v1), (0, .ref (ad 84)), (1, .int x), (2, .int y)] := by rw [hch]; exact hl5
  obtain ⟨c, hc0⟩ : ∃ c : Nat, c = a := ⟨_, rfl⟩
  obtain ⟨W0, hW0⟩ : ∃ c : Nat, c = 0 := ⟨_, rfl⟩
  obtain ⟨i, hi0⟩ : ∃ i : Nat, i = 0 := ⟨_, rfl⟩
  have hiv : v4.toInt = (i : Int) := by omega
  have hib : i ≤ m := by omega
  have hWp := hW
  have hcv : ch.toInt = (c : Int) := by rw [hch, hc0]; exact hx
  have hcm : c < m := by omega
  have hwv : v1.toInt = (W0 : Int) := by rw [hW0]; exact hv1
  have hrk : zrk m Wt r c + i < m := by have := T.2.2.2 a ha; rw [hc0, hi0]; omega
  have hzc : zC (zpa m Wt r) (zwg m (zpa m Wt r) (zpt m bh Wt r)) c (W0 : Int) = zwd m (zpa m Wt r) (zpt m bh Wt r) a := by rw [hc0, hW0]; rfl
  clear hi0 hv4 hch hc0 hW0 hv1
  generalize s.heap = Hp at hWp ⊢
  generalize ([] : List Loc) = locsp at hWp ⊢
  obtain ⟨f, hf⟩ : ∃ f : Nat, m + 1 ≤ i + f := ⟨m + 1, by omega⟩
  induction f generalizing i v4 ls5 Hp locsp ch c v1 W0 with
  | zero => exact absurd hf (by omega)
  | succ f ihi =>
    refine lv_iload F.1 F.2.1 d_Sc_lightPorts_8 (lv_at hl5 0 rfl) ?_
    refine lv_aload_n F.1 F.2.1 d_Sc_lightPorts_10 rfl (lv_at hl5 3 rfl) ?_
    refine gf_Sc_12 F hWp (by omega) so d_Sc_lightPorts_11 ?_
    refine q_calli hWp (q_cV (As := []) (rest := [.int v4]) F hWp cs_Sc_58 hd_Ne_size rfl (by omega) lho (k_Ne_size l D τ A ad N w 85 (by omega) n bh wt hN) rfl rfl ⟨by decide, by decide⟩ rfl hl5.1 rfl (Nat.le_of_ble_eq_true rfl) d_Sc_lightPorts_14 ⟨Nat.le_refl _, Nat.le_refl _⟩) (fun v6 w6 H6 locs6 hp6 hW6 => ?_)
    obtain ⟨hq6, hp6⟩ := hp6
    replace hq6 := hq6.symm
    subst hq6
    refine q_icmp_ge (tgt := 87) F d_Sc_lightPorts_17 (by decide) (fun c17 => ?_) (fun c17 => ?_)
    · exact absurd hrk (by omega)
    · refine lv_iload F.1 F.2.1 d_Sc_lightPorts_20 (lv_at hl5 1 rfl) ?_
      refine lv_iload_n F.1 F.2.1 d_Sc_lightPorts_22 rfl (lv_at hl5 5 rfl) ?_
      refine q_icmp_eq (tgt := 87) F d_Sc_lightPorts_23 (by decide) (fun c23 => ?_) (fun c23 => ?_)
      · refine lv_iload_n F.1 F.2.1 d_Sc_lightPorts_87 rfl (lv_at hl5 2 rfl) ?_
        have hcr : c = r := by omega
        rw [hcr, zC_root T.2.1] at hzc
        exact q_iret F hr hlk hW6 ⟨rfl, by rw [← hzc]; exact hwv⟩ d_Sc_lightPorts_88
      · obtain ⟨q1, q1e, q1m, q1r⟩ := T.2.2.1 c hcm (by omega)
        have hup := zC_up T hm40 (g := zwg m (zpa m Wt r) (zpt m bh Wt r)) (w := (W0 : Int)) hcm q1e
        obtain ⟨k9, -, ⟨k90, -⟩, k91⟩ := zwd_gen T hm40 hpt c hcm
        have hWb : W0 < 2 ^ 20 := by
          have h1 := k91 (W0 : Int)
          have h2 : (W0 : Int) * 1 ≤ (W0 : Int) * 16 ^ k9 := Int.mul_le_mul_of_nonneg_left (by have : 0 < (16 : Int) ^ k9 := Int.pow_pos (by decide); omega) (by omega)
          omega
        refine lv_aload_n F.1 F.2.1 d_Sc_lightPorts_26 rfl (lv_at hl5 3 rfl) ?_
        refine gf_Sc_39 F hW6 (by omega) so d_Sc_lightPorts_27 ?_
        refine lv_iload_n F.1 F.2.1 d_Sc_lightPorts_30 rfl (lv_at hl5 5 rfl) ?_
        refine lv_iload F.1 F.2.1 d_Sc_lightPorts_31 (lv_at hl5 1 rfl) ?_
        refine q_calli hW6 (q_cV (As := [.int y, .int ch]) (rest := []) F hW6 cs_Sc_93 hd_Fo_parentOf rfl (by omega) fo (k_Fo_parentOf l D τ A ad N w hb fo m hm40 n bh wt hN hn Wt od hY hZ y ch r c hy hcv hr9 hcm) rfl rfl ⟨by decide, by decide⟩ rfl hl5.1 rfl (Nat.le_of_ble_eq_true rfl) d_Sc_lightPorts_33 ⟨Nat.le_refl _, Nat.le_refl _⟩) (fun v7 w7 H7 locs7 hp7 hW7 => ?_)
        obtain ⟨hq7, hp7⟩ := hp7
        replace hq7 := hq7.symm
        subst hq7
        refine lv_istore (lv' := [(6, .int v7), (5, .int v4), (4, .int ch), (3, .int v1), (0, .ref (ad 84)), (1, .int x), (2, .int y)]) F.1 F.2.1 d_Sc_lightPorts_36 hl5 (by decide) rfl (fun ls8 hl8 => ?_)
        clear hl5
        refine lv_iload F.1 F.2.1 d_Sc_lightPorts_38 (lv_at hl8 0 rfl) ?_
        refine q_iconst F d_Sc_lightPorts_40 (by decide) (fun v9 hv9 => ?_)
        refine q_icmp_ne (tgt := 46) F d_Sc_lightPorts_41 (by decide) (fun c41 => ?_) (fun c41 => ?_)
        · have hHq := hHv q1 q1m
          refine lv_aload_n F.1 F.2.1 d_Sc_lightPorts_46 rfl (lv_at hl8 4 rfl) ?_
          refine gf_Sc_39 F hW7 (by omega) so d_Sc_lightPorts_47 ?_
          refine lv_iload_n F.1 F.2.1 d_Sc_lightPorts_50 rfl (lv_at hl8 6 rfl) ?_
          refine lv_iload F.1 F.2.1 d_Sc_lightPorts_51 (lv_at hl8 0 rfl) ?_
          refine q_calli hW7 (q_cV (As := [.int y, .int v7]) (rest := []) F hW7 cs_Sc_96 hd_Fo_heavyOf rfl (by omega) fo (k_Fo_heavyOf l D τ A ad N w hb Pl Sz Hv Lt Pa hF y v7 r q1 hy (by omega) (by omega) (by omega)) rfl rfl ⟨by decide, by decide⟩ rfl hl8.1 rfl (Nat.le_of_ble_eq_true rfl) d_Sc_lightPorts_53 ⟨Nat.le_refl _, Nat.le_refl _⟩) (fun v10 w10 H10 locs10 hp10 hW10 => ?_)
          obtain ⟨hq10, hp10⟩ := hp10
          replace hq10 := hq10.symm
          subst hq10
          refine lv_iload F.1 F.2.1 d_Sc_lightPorts_56 (lv_at hl8 2 rfl) ?_
          refine q_icmp_eq (tgt := 77) F d_Sc_lightPorts_58 (by decide) (fun c58 => ?_) (fun c58 => ?_)
          · have hnl : ¬ zlt m (zpa m Wt r) c := fun z => z.2 (by rw [q1e]; simp only [Int.toNat_natCast]; omega)
            rw [zwg_f hnl] at hup
            refine lv_iload F.1 F.2.1 d_Sc_lightPorts_77 (lv_at hl8 0 rfl) ?_
            refine lv_istore (lv' := [(4, .int v7), (6, .int v7), (5, .int v4), (3, .int v1), (0, .ref (ad 84)), (1, .int x), (2, .int y)]) F.1 F.2.1 d_Sc_lightPorts_79 hl8 (by decide) rfl (fun ls11 hl11 => ?_)
            clear hl8
            refine q_iinc (lv' := fun v12 => [(5, .int v12), (4, .int v7), (6, .int v7), (3, .int v1), (0, .ref (ad 84)), (1, .int x), (2, .int y)]) F d_Sc_lightPorts_81 hl11 (k := 2) rfl (by decide) (by omega) (by decide) (fun _ => rfl) (fun v12 lsv12 hv12 hlv12 => ?_)
            clear hl11
            refine lv_goto (tgt := 8) F.1 F.2.1 d_Sc_lightPorts_84 (by decide) ?_
            exact ihi (i := i + 1) (v4 := v12) (ls5 := lsv12) (Hp := H10) (locsp := locs10) (ch := v7) (c := q1) (v1 := v1) (W0 := W0) (hiv := by omega) (hib := by omega) (hWp := hW10) (hcv := by omega) (hcm := q1m) (hwv := hwv) (hrk := by omega) (hzc := by rw [← hup]; exact hzc) (hf := by omega) (hl5 := (lv_sub hlv12 [0, 1, 3, 4, 5, 6] rfl))
          · have hzl : zlt m (zpa m Wt r) c := ⟨by omega, by rw [q1e]; simp only [Int.toNat_natCast]; omega⟩
            rw [zwg_t hzl] at hup
            have hp9 := hpt c hcm (by omega)
            have hpq : zpt m bh Wt r c = zp bh q1 (c : Int) := by unfold zpt; rw [q1e]; simp only [Int.toNat_natCast]
            obtain ⟨p9, hp9e⟩ : ∃ p9 : Nat, zpt m bh Wt r c = (p9 : Int) := ⟨(zpt m bh Wt r c).toNat, by omega⟩
            refine lv_iload_n F.1 F.2.1 d_Sc_lightPorts_61 rfl (lv_at hl8 3 rfl) ?_
            refine q_iconst F d_Sc_lightPorts_62 (by decide) (fun v13 hv13 => ?_)
            refine q_ishl4 F W0 hwv (by omega) (by omega) d_Sc_lightPorts_63 (fun v14 hv14 => ?_)
            refine lv_aload_n F.1 F.2.1 d_Sc_lightPorts_64 rfl (lv_at hl8 4 rfl) ?_
            refine gf_Sc_12 F hW10 (by omega) so d_Sc_lightPorts_65 ?_
            refine lv_iload F.1 F.2.1 d_Sc_lightPorts_68 (lv_at hl8 0 rfl) ?_
            refine lv_iload F.1 F.2.1 d_Sc_lightPorts_70 (lv_at hl8 2 rfl) ?_
            refine q_calli hW10 (q_cV (As := [.int v7, .int ch]) (rest := [.int v14]) F hW10 cs_Sc_81 hd_Ne_portTo rfl (by omega) lho (k_Ne_portTo l D τ A ad N w 85 (by omega) n bh wt hN v7 ch q1 (by omega) (by omega)) rfl rfl ⟨by decide, by decide⟩ rfl hl8.1 rfl (Nat.le_of_ble_eq_true rfl) d_Sc_lightPorts_72 ⟨Nat.le_refl _, Nat.le_refl _⟩) (fun v15 w15 H15 locs15 hp15 hW15 => ?_)
            obtain ⟨hq15, hp15⟩ := hp15
            replace hq15 := hq15.symm
            subst hq15
            rw [hcv, ← hpq, hp9e] at hp15
            refine q_ior4 F W0 p9 hv14 (by omega) hp15 (by omega) d_Sc_lightPorts_75 (fun v16 hv16 => ?_)
            refine lv_istore_n (lv' := [(3, .int v16), (6, .int v7), (5, .int v4), (4, .int ch), (0, .ref (ad 84)), (1, .int x), (2, .int y)]) F.1 F.2.1 d_Sc_lightPorts_76 rfl hl8 (by decide) rfl (fun ls17 hl17 => ?_)
            clear hl8
            refine lv_iload F.1 F.2.1 d_Sc_lightPorts_77 (lv_at hl17 1 rfl) ?_
            refine lv_istore (lv' := [(4, .int v7), (3, .int v16), (6, .int v7), (5, .int v4), (0, .ref (ad 84)), (1, .int x), (2, .int y)]) F.1 F.2.1 d_Sc_lightPorts_79 hl17 (by decide) rfl (fun ls18 hl18 => ?_)
            clear hl17
            refine q_iinc (lv' := fun v19 => [(5, .int v19), (4, .int v7), (3, .int v16), (6, .int v7), (0, .ref (ad 84)), (1, .int x), (2, .int y)]) F d_Sc_lightPorts_81 hl18 (k := 3) rfl (by decide) (by omega) (by decide) (fun _ => rfl) (fun v19 lsv19 hv19 hlv19 => ?_)
            clear hl18
            refine lv_goto (tgt := 8) F.1 F.2.1 d_Sc_lightPorts_84 (by decide) ?_
            exact ihi (i := i + 1) (v4 := v19) (ls5 := lsv19) (Hp := H15) (locsp := locs15) (ch := v7) (c := q1) (v1 := v16) (W0 := W0 * 16 + p9) (hiv := by omega) (hib := by omega) (hWp := hW15) (hcv := by omega) (hcm := q1m) (hwv := hv16) (hrk := by omega) (hzc := by rw [← hzc, hup, hp9e]; congr 1) (hf := by omega) (hl5 := (lv_sub hlv19 [0, 1, 2, 4, 5, 6] rfl))
        · exact absurd hp7 (by omega)
set_option maxHeartbeats 4000000 in
set_option maxRecDepth 100000 in
/-- a label is written -/
theorem k_Sc_writeLabel (l : Launch) (D : va_G) (τ : Nat → ClassId) (A : Nat → Prop) (ad : Nat → Nat) (N : Nat) (w : Nat → va_E) (hb : 469 ≤ N) (so : w 84 = .inr (4, [.ref (ad 85), .ref (ad 168), .ref (ad 251), .ref (ad 256), .ref (ad 422)])) (Pl Sz Hv Lt : Nat → Nat → Int) (Pa : Nat → Int) (hF : qFor τ ad w Pl Sz Hv Lt Pa) (m : Nat) (hm40 : m ≤ 40) (n : Int) (bh wt : Nat → Nat → Int) (hN : qNet τ ad w 85 n bh wt) (hn : n = m) (Wt : Nat → Nat → Int) (od : Nat → Nat → Nat) (hY : qWay τ ad w m Wt od) (hZ : zn_ok m bh wt Wt) (hall : zall m Wt) (Lb : Nat → Nat → Int) (hG : q_G τ ad w 422 40 5 Lb) (x y : Int32) (a r : Nat) (hx : x.toInt = a) (hy : y.toInt = r) (ha : a < m) (hr9 : r < m) (hT : ztre m Wt r Pl Sz Hv Lt) : Met l y_Sc_writeLabel (qws y_Sc_writeLabel c_Sc_writeLabel 4 none) ({ frames := 4, cells := 0, slots := 0, locals := 95 }) (qPc D τ A ad N w [.ref (ad 84), .int x, .int y]) (va_Qv (fun w1 => (∃ La, q_G τ ad w1 422 40 5 (q_row Lb a La) ∧ La 0 = (a : Int) ∧ La 1 = (r : Int) ∧ La 2 = zpl m (zpa m Wt r) a ∧ La 3 = zli m (zpa m Wt r) a ∧ La 4 = zwd m (zpa m Wt r) (zpt m bh Wt r) a) ∧ ∀ q, (q < 422 ∨ 463 ≤ q) → w1 q = w q) (qB D τ A ad N) A) 0 0 A := by
  refine q_of (by decide) (Nat.le_of_ble_eq_true rfl) rfl ?_
  intro PP EE s MM below meth CC ls F hr hlk hnm hex hl hW
  have hl : lv_has ls 4 [(0, .ref (ad 84)), (1, .int x), (2, .int y)] := hl
  obtain ⟨hyo, -⟩ := id hY
  obtain ⟨⟨l32, lho, hl32⟩, -⟩ := id hN
  obtain ⟨fo, -⟩ := id hF
  replace hG := hG.row0 (i := a)
  have hfr0 : ∀ q, (q < 422 ∨ 463 ≤ q) → w q = w q := fun _ _ => rfl
  refine lv_aload_n F.1 F.2.1 d_Sc_writeLabel_0 rfl (lv_at hl 0 rfl) ?_
  refine gf_Sc_45 F hW (by omega) so d_Sc_writeLabel_1 ?_
  refine lv_iload_n F.1 F.2.1 d_Sc_writeLabel_4 rfl (lv_at hl 1 rfl) ?_
  refine q_aald F hW hG (by omega) a (by omega) (by omega) d_Sc_writeLabel_5 ?_
  refine lv_astore_n (lv' := [(3, .ref (ad (422 + 1 + a))), (0, .ref (ad 84)), (1, .int x), (2, .int y)]) F.1 F.2.1 d_Sc_writeLabel_6 rfl hl (by decide) rfl (fun ls1 hl1 => ?_)
  clear hl
  refine lv_aload_n F.1 F.2.1 d_Sc_writeLabel_7 rfl (lv_at hl1 0 rfl) ?_
  refine q_iconst F d_Sc_writeLabel_8 (by decide) (fun v2 hv2 => ?_)
  refine lv_iload_n F.1 F.2.1 d_Sc_writeLabel_9 rfl (lv_at hl1 2 rfl) ?_
  refine q_iast F hW (hG.rowI (i := a) (by omega)) (by omega) 0 (by omega) (by omega) d_Sc_writeLabel_10 (fun H3 locs3 w3 hW3 hI3 hfr3 => ?_)
  replace fo := (hfr3 _ (by omega)).trans fo
  replace so := (hfr3 _ (by omega)).trans so
  replace lho := (hfr3 _ (by omega)).trans lho
  replace hN := hN.keep (fun q h1 h2 => hfr3 _ (by omega))
  replace hY := hY.keep (fun q h1 h2 => hfr3 _ (by omega))
  replace hF := hF.keep (fun q h1 h2 => hfr3 _ (by omega))
  replace hG := hG.row (by omega) hI3 hfr3
  replace hfr0 : ∀ q, (q < 422 ∨ 463 ≤ q) → w3 q = w q := fun q hq => (hfr3 q (by omega)).trans (hfr0 q hq)
  refine lv_aload_n F.1 F.2.1 d_Sc_writeLabel_11 rfl (lv_at hl1 0 rfl) ?_
  refine q_iconst F d_Sc_writeLabel_12 (by decide) (fun v4 hv4 => ?_)
  refine lv_iload_n F.1 F.2.1 d_Sc_writeLabel_13 rfl (lv_at hl1 3 rfl) ?_
  refine q_iast F hW3 (hG.rowI (i := a) (by omega)) (by omega) 1 (by omega) (by omega) d_Sc_writeLabel_14 (fun H5 locs5 w5 hW5 hI5 hfr5 => ?_)
  replace fo := (hfr5 _ (by omega)).trans fo
  replace so := (hfr5 _ (by omega)).trans so
  replace lho := (hfr5 _ (by omega)).trans lho
  replace hN := hN.keep (fun q h1 h2 => hfr5 _ (by omega))
  replace hY := hY.keep (fun q h1 h2 => hfr5 _ (by omega))
  replace hF := hF.keep (fun q h1 h2 => hfr5 _ (by omega))
  replace hG := hG.row (by omega) hI5 hfr5
  replace hfr0 : ∀ q, (q < 422 ∨ 463 ≤ q) → w5 q = w q := fun q hq => (hfr5 q (by omega)).trans (hfr0 q hq)
  refine lv_aload_n F.1 F.2.1 d_Sc_writeLabel_15 rfl (lv_at hl1 0 rfl) ?_
  refine q_iconst F d_Sc_writeLabel_16 (by decide) (fun v6 hv6 => ?_)
  refine lv_aload_n F.1 F.2.1 d_Sc_writeLabel_17 rfl (lv_at hl1 1 rfl) ?_
  refine gf_Sc_39 F hW5 (by omega) so d_Sc_writeLabel_18 ?_
  refine lv_iload_n F.1 F.2.1 d_Sc_writeLabel_21 rfl (lv_at hl1 3 rfl) ?_
  refine lv_iload_n F.1 F.2.1 d_Sc_writeLabel_22 rfl (lv_at hl1 2 rfl) ?_
  refine q_calli hW5 (q_cV (As := [.int y, .int x]) (rest := [.int v6, .ref (ad (422 + 1 + a))]) F hW5 cs_Sc_84 hd_Fo_placeOf rfl (by omega) fo (k_Fo_placeOf l D τ A ad N w5 hb Pl Sz Hv Lt Pa hF y x r a hy hx (by omega) (by omega)) rfl rfl ⟨by decide, by decide⟩ rfl hl1.1 rfl (Nat.le_of_ble_eq_true rfl) d_Sc_writeLabel_23 ⟨Nat.le_refl _, Nat.le_refl _⟩) (fun v7 w7 H7 locs7 hp7 hW7 => ?_)
  obtain ⟨hq7, hp7⟩ := hp7
  replace hq7 := hq7.symm
  subst hq7
  refine q_iast F hW7 (hG.rowI (i := a) (by omega)) (by omega) 2 (by omega) (by omega) d_Sc_writeLabel_26 (fun H8 locs8 w8 hW8 hI8 hfr8 => ?_)
  replace fo := (hfr8 _ (by omega)).trans fo
  replace so := (hfr8 _ (by omega)).trans so
  replace lho := (hfr8 _ (by omega)).trans lho
  replace hN := hN.keep (fun q h1 h2 => hfr8 _ (by omega))
  replace hY := hY.keep (fun q h1 h2 => hfr8 _ (by omega))
  replace hF := hF.keep (fun q h1 h2 => hfr8 _ (by omega))
  replace hG := hG.row (by omega) hI8 hfr8
  replace hfr0 : ∀ q, (q < 422 ∨ 463 ≤ q) → w8 q = w q := fun q hq => (hfr8 q (by omega)).trans (hfr0 q hq)
  refine lv_aload_n F.1 F.2.1 d_Sc_writeLabel_27 rfl (lv_at hl1 0 rfl) ?_
  refine q_iconst F d_Sc_writeLabel_28 (by decide) (fun v9 hv9 => ?_)
  refine lv_aload_n F.1 F.2.1 d_Sc_writeLabel_29 rfl (lv_at hl1 1 rfl) ?_
  refine gf_Sc_39 F hW8 (by omega) so d_Sc_writeLabel_30 ?_
  refine lv_iload_n F.1 F.2.1 d_Sc_writeLabel_33 rfl (lv_at hl1 3 rfl) ?_
  refine lv_iload_n F.1 F.2.1 d_Sc_writeLabel_34 rfl (lv_at hl1 2 rfl) ?_
  refine q_calli hW8 (q_cV (As := [.int y, .int x]) (rest := [.int v9, .ref (ad (422 + 1 + a))]) F hW8 cs_Sc_87 hd_Fo_lightsAbove rfl (by omega) fo (k_Fo_lightsAbove l D τ A ad N w8 hb Pl Sz Hv Lt Pa hF y x r a hy hx (by omega) (by omega)) rfl rfl ⟨by decide, by decide⟩ rfl hl1.1 rfl (Nat.le_of_ble_eq_true rfl) d_Sc_writeLabel_35 ⟨Nat.le_refl _, Nat.le_refl _⟩) (fun v10 w10 H10 locs10 hp10 hW10 => ?_)
  obtain ⟨hq10, hp10⟩ := hp10
  replace hq10 := hq10.symm
  subst hq10
  refine q_iast F hW10 (hG.rowI (i := a) (by omega)) (by omega) 3 (by omega) (by omega) d_Sc_writeLabel_38 (fun H11 locs11 w11 hW11 hI11 hfr11 => ?_)
  replace fo := (hfr11 _ (by omega)).trans fo
  replace so := (hfr11 _ (by omega)).trans so
  replace lho := (hfr11 _ (by omega)).trans lho
  replace hN := hN.keep (fun q h1 h2 => hfr11 _ (by omega))
  replace hY := hY.keep (fun q h1 h2 => hfr11 _ (by omega))
  replace hF := hF.keep (fun q h1 h2 => hfr11 _ (by omega))
  replace hG := hG.row (by omega) hI11 hfr11
  replace hfr0 : ∀ q, (q < 422 ∨ 463 ≤ q) → w11 q = w q := fun q hq => (hfr11 q (by omega)).trans (hfr0 q hq)
  refine lv_aload_n F.1 F.2.1 d_Sc_writeLabel_39 rfl (lv_at hl1 0 rfl) ?_
  refine q_iconst F d_Sc_writeLabel_40 (by decide) (fun v12 hv12 => ?_)
  refine lv_aload_n F.1 F.2.1 d_Sc_writeLabel_41 rfl (lv_at hl1 1 rfl) ?_
  refine lv_iload_n F.1 F.2.1 d_Sc_writeLabel_42 rfl (lv_at hl1 2 rfl) ?_
  refine lv_iload_n F.1 F.2.1 d_Sc_writeLabel_43 rfl (lv_at hl1 3 rfl) ?_
  refine q_calli hW11 (q_cV (As := [.int x, .int y]) (rest := [.int v12, .ref (ad (422 + 1 + a))]) F hW11 cs_Sc_90 hd_Sc_lightPorts rfl (by omega) so (k_Sc_lightPorts l D τ A ad N w11 hb so Pl Sz Hv Lt Pa hF m hm40 n bh wt hN hn Wt od hY hZ hall x y a r hx hy ha hr9 (fun c hc => (hT c hc).2.2.1)) rfl rfl ⟨by decide, by decide⟩ rfl hl1.1 rfl (Nat.le_of_ble_eq_true rfl) d_Sc_writeLabel_44 ⟨Nat.le_refl _, Nat.le_refl _⟩) (fun v13 w13 H13 locs13 hp13 hW13 => ?_)
  obtain ⟨hq13, hp13⟩ := hp13
  replace hq13 := hq13.symm
  subst hq13
  refine q_iast F hW13 (hG.rowI (i := a) (by omega)) (by omega) 4 (by omega) (by omega) d_Sc_writeLabel_47 (fun H14 locs14 w14 hW14 hI14 hfr14 => ?_)
  replace fo := (hfr14 _ (by omega)).trans fo
  replace so := (hfr14 _ (by omega)).trans so
  replace lho := (hfr14 _ (by omega)).trans lho
  replace hN := hN.keep (fun q h1 h2 => hfr14 _ (by omega))
  replace hY := hY.keep (fun q h1 h2 => hfr14 _ (by omega))
  replace hF := hF.keep (fun q h1 h2 => hfr14 _ (by omega))
  replace hG := hG.row (by omega) hI14 hfr14
  replace hfr0 : ∀ q, (q < 422 ∨ 463 ≤ q) → w14 q = w q := fun q hq => (hfr14 q (by omega)).trans (hfr0 q hq)
  exact q_vret F hr hlk hW14 ⟨⟨_, hG, by unfold q_up; simp; exact hx, by unfold q_up; simp; exact hy, by unfold q_up; simp; rw [hp7]; exact (hT a ha).1, by unfold q_up; simp; rw [hp10]; exact (hT a ha).2.2.2, by unfold q_up; simp; exact hp13⟩, hfr0⟩ d_Sc_writeLabel_48
