/-- the ways of a joined network: how far (169 and on), in which order (210 and on) -/
def qWay (τ : Nat → ClassId) (ad : Nat → Nat) (w : Nat → va_E) (m : Nat) (Wt : Nat → Nat → Int) (od : Nat → Nat → Nat) : Prop := w 168 = .inr (5, [.ref (ad 85), .ref (ad 169), .ref (ad 210)]) ∧ (∃ FF, q_G τ ad w 169 40 40 FF ∧ ∀ a c, a < m → c < m → FF a c = zd m Wt a c) ∧ ∃ OO, q_G τ ad w 210 40 40 OO ∧ ∀ a, a < m → zo_ok m (zd m Wt a) m (od a) ∧ ∀ j, j < m → OO a j = (od a j : Int)
theorem qWay.keep {τ : Nat → ClassId} {ad : Nat → Nat} {w w' : Nat → va_E} {m : Nat} {Wt : Nat → Nat → Int} {od : Nat → Nat → Nat} (h : qWay τ ad w m Wt od) (e : ∀ q, 168 ≤ q → q < 251 → w' q = w q) : qWay τ ad w' m Wt od := by
  obtain ⟨h1, ⟨FF, h2, h3⟩, OO, h4, h5⟩ := h
  exact ⟨by rw [e 168 (by omega) (by omega)]; exact h1, ⟨FF, h2.keep (fun i hi => e _ (by omega) (by omega)), h3⟩, OO, h4.keep (fun i hi => e _ (by omega) (by omega)), h5⟩
theorem zwy_row {m : Nat} {Wt : Nat → Nat → Int} (hg : zg_ok m Wt) (hall : zall m Wt) {a r : Nat} (ha : a < m) {F : Nat → Int} {O : Nat → Nat} (h : zl_ok m Wt a F) (ho : zo_ok m F r O) (he : r = m ↔ ∀ c, c < m → F c ≠ -1) : (∀ c, c < m → F c = zd m Wt a c) ∧ r = m ∧ zo_ok m (zd m Wt a) m O := by
  have h1 : ∀ c, c < m → F c = zd m Wt a c := fun c hc => by rw [zl_eq hg ha h hc, if_pos (hall a c ha hc)]
  have h2 : r = m := he.mpr (fun c hc => by rw [h1 c hc]; have := zd_bd hg ha hc; omega)
  subst h2
  obtain ⟨o1, o2, o3⟩ := ho
  refine ⟨h1, rfl, fun i hi => ⟨(o1 i hi).1, by rw [← h1 _ (o1 i hi).1]; exact (o1 i hi).2⟩, fun x hx hf => o2 x hx (by rw [h1 x hx]; exact hf), fun i j hij hj => ?_⟩
  have := o3 i j hij hj
  unfold zx at *
  rw [← h1 _ (o1 i (by omega)).1, ← h1 _ (o1 j hj).1]
  exact this
theorem zt_skip {bh wt d : Nat → Nat → Int} {a b i : Nat} {r : Int} (h : zt_is bh wt d a b i r) (hv : ¬ (bh a i ≠ -1 ∧ wt a i + d (bh a i).toNat b = d a b)) : zt_is bh wt d a b (i + 1) r := by
  rcases h with ⟨h1, h2⟩ | ⟨p, p1, p2, p3, p4⟩
  · exact Or.inl ⟨h1, lt_s h2 hv⟩
  · refine Or.inr ⟨p, by omega, p2, p3, fun q hq hV => ?_⟩
    by_cases e : q = i
    · subst e; exact absurd hV hv
    · exact p4 q (by omega) hV
theorem zt_keep {bh wt d : Nat → Nat → Int} {a b i : Nat} {r : Int} (h : zt_is bh wt d a b i r) (hr : r ≠ -1) (hle : r ≤ bh a i) : zt_is bh wt d a b (i + 1) r := by
  rcases h with ⟨h1, h2⟩ | ⟨p, p1, p2, p3, p4⟩
  · exact absurd h1 hr
  · refine Or.inr ⟨p, by omega, p2, p3, fun q hq hV => ?_⟩
    by_cases e : q = i
    · subst e; omega
    · exact p4 q (by omega) hV
theorem zt_take {bh wt d : Nat → Nat → Int} {a b i : Nat} {r : Int} (h : zt_is bh wt d a b i r) (hv : bh a i ≠ -1 ∧ wt a i + d (bh a i).toNat b = d a b) (hr : r = -1 ∨ bh a i < r) : zt_is bh wt d a b (i + 1) (bh a i) := by
  refine Or.inr ⟨i, by omega, hv, rfl, fun q hq hV => ?_⟩
  by_cases e : q = i
  · subst e; exact Int.le_refl _
  · rcases h with ⟨h1, h2⟩ | ⟨p, p1, p2, p3, p4⟩
    · exact absurd hV (h2 q (by omega))
    · have := p4 q (by omega) hV
      omega
theorem zt_0 {bh wt d : Nat → Nat → Int} {a b : Nat} : zt_is bh wt d a b 0 (-1) := Or.inl ⟨rfl, fun p hp => absurd hp (Nat.not_lt_zero p)⟩
theorem zw_upd {m i : Nat} {Wt : Nat → Nat → Int} {FF OO : Nat → Nat → Int} {od : Nat → Nat → Nat} {F1 G1 : Nat → Int} {O1 : Nat → Nat} (hi : i < m) (h : ∀ a, a < i → (∀ c, c < m → FF a c = zd m Wt a c) ∧ zo_ok m (zd m Wt a) m (od a) ∧ ∀ j, j < m → OO a j = (od a j : Int)) (e1 : ∀ c, c < m → F1 c = zd m Wt i c) (e3 : zo_ok m (zd m Wt i) m O1) (e4 : ∀ j, j < m → G1 j = (O1 j : Int)) : ∀ a, a < i + 1 → (∀ c, c < m → (fun a b => if a = i then F1 b else FF a b) a c = zd m Wt a c) ∧ zo_ok m (zd m Wt a) m ((fun a j => if a = i then O1 j else od a j) a) ∧ ∀ j, j < m → (fun a b => if a = i then G1 b else OO a b) a j = (((fun a j => if a = i then O1 j else od a j) a j : Nat) : Int) := by
  intro a ha
  by_cases z : a = i
  · subst z
    simp only [if_true]
    exact ⟨e1, e3, e4⟩
  · simp only [if_neg z]
    exact h a (by omega)
set_option maxHeartbeats 4000000 in
set_option maxRecDepth 100000 in
/-- how far -/
theorem k_Wa_far (l : Launch) (D : va_G) (τ : Nat → ClassId) (A : Nat → Prop) (ad : Nat → Nat) (N : Nat) (w : Nat → va_E) (hb : 469 ≤ N) (m : Nat) (hm40 : m ≤ 40) (Wt : Nat → Nat → Int) (od : Nat → Nat → Nat) (hY : qWay τ ad w m Wt od) (x y : Int32) (a c : Nat) (hx : x.toInt = a) (hy : y.toInt = c) (ha : a < m) (hc : c < m) : Met l y_Wa_far (qws y_Wa_far c_Wa_far 3 (some .int)) ({ frames := 0, cells := 0, slots := 0, locals := 0 }) (qPc D τ A ad N w [.ref (ad 168), .int x, .int y]) (va_Qi (fun r w1 => w1 = w ∧ r.toInt = zd m Wt a c) (qB D τ A ad N) A) 0 0 A := by
  refine q_of (by decide) (Nat.le_of_ble_eq_true rfl) rfl ?_
  intro PP EE s MM below meth CC ls F hr hlk hnm hex hl hW
  have hl : lv_has ls 3 [(0, .ref (ad 168)), (1, .int x), (2, .int y)] := hl
  obtain ⟨hyo, ⟨FF, hyF, hyd⟩, OO, hyO, hyo2⟩ := id hY
  refine lv_aload_n F.1 F.2.1 d_Wa_far_0 rfl (lv_at hl 0 rfl) ?_
  refine gf_Wa_11 F hW (by omega) hyo d_Wa_far_1 ?_
  refine lv_iload_n F.1 F.2.1 d_Wa_far_4 rfl (lv_at hl 1 rfl) ?_
  refine q_aald F hW hyF (by omega) a (by omega) (by omega) d_Wa_far_5 ?_
  refine lv_iload_n F.1 F.2.1 d_Wa_far_6 rfl (lv_at hl 2 rfl) ?_
  refine q_iald F hW (hyF.2 a (by omega)) (by omega) c (by omega) (by omega) d_Wa_far_7 (fun v1 hv1 => ?_)
  exact q_iret F hr hlk hW ⟨rfl, by rw [hv1]; exact hyd a c ha hc⟩ d_Wa_far_8
set_option maxHeartbeats 4000000 in
set_option maxRecDepth 100000 in
/-- which one in the order -/
theorem k_Wa_nearest (l : Launch) (D : va_G) (τ : Nat → ClassId) (A : Nat → Prop) (ad : Nat → Nat) (N : Nat) (w : Nat → va_E) (hb : 469 ≤ N) (m : Nat) (hm40 : m ≤ 40) (Wt : Nat → Nat → Int) (od : Nat → Nat → Nat) (hY : qWay τ ad w m Wt od) (x y : Int32) (a c : Nat) (hx : x.toInt = a) (hy : y.toInt = c) (ha : a < m) (hc : c < m) : Met l y_Wa_nearest (qws y_Wa_nearest c_Wa_nearest 3 (some .int)) ({ frames := 0, cells := 0, slots := 0, locals := 0 }) (qPc D τ A ad N w [.ref (ad 168), .int x, .int y]) (va_Qi (fun r w1 => w1 = w ∧ r.toInt = (od a c : Int)) (qB D τ A ad N) A) 0 0 A := by
  refine q_of (by decide) (Nat.le_of_ble_eq_true rfl) rfl ?_
  intro PP EE s MM below meth CC ls F hr hlk hnm hex hl hW
  have hl : lv_has ls 3 [(0, .ref (ad 168)), (1, .int x), (2, .int y)] := hl
  obtain ⟨hyo, ⟨FF, hyF, hyd⟩, OO, hyO, hyo2⟩ := id hY
  refine lv_aload_n F.1 F.2.1 d_Wa_nearest_0 rfl (lv_at hl 0 rfl) ?_
  refine gf_Wa_16 F hW (by omega) hyo d_Wa_nearest_1 ?_
  refine lv_iload_n F.1 F.2.1 d_Wa_nearest_4 rfl (lv_at hl 1 rfl) ?_
  refine q_aald F hW hyO (by omega) a (by omega) (by omega) d_Wa_nearest_5 ?_
  refine lv_iload_n F.1 F.2.1 d_Wa_nearest_6 rfl (lv_at hl 2 rfl) ?_
  refine q_iald F hW (hyO.2 a (by omega)) (by omega) c (by omega) (by omega) d_Wa_nearest_7 (fun v1 hv1 => ?_)
  exact q_iret F hr hlk hW ⟨rfl, by rw [hv1]; exact (hyo2 a ha).2 c hc⟩ d_Wa_nearest_8
set_option maxHeartbeats 4000000 in
set_option maxRecDepth 100000 in
/-- the next node towards another -/
theorem k_Wa_next (l : Launch) (D : va_G) (τ : Nat → ClassId) (A : Nat → Prop) (ad : Nat → Nat) (N : Nat) (w : Nat → va_E) (hb : 469 ≤ N) (m : Nat) (hm40 : m ≤ 40) (Wt : Nat → Nat → Int) (od : Nat → Nat → Nat) (hY : qWay τ ad w m Wt od) (n : Int) (bh wt : Nat → Nat → Int) (hN : qNet τ ad w 85 n bh wt) (hn : n = m) (hZ : zn_ok m bh wt Wt) (x y : Int32) (a c : Nat) (hx : x.toInt = a) (hy : y.toInt = c) (ha : a < m) (hc : c < m) : Met l y_Wa_next (qws y_Wa_next c_Wa_next 6 (some .int)) ({ frames := 1, cells := 0, slots := 0, locals := 22 }) (qPc D τ A ad N w [.ref (ad 168), .int x, .int y]) (va_Qi (fun r w1 => w1 = w ∧ r.toInt = ztw m Wt (zd m Wt) a c) (qB D τ A ad N) A) 0 0 A := by
  refine q_of (by decide) (Nat.le_of_ble_eq_true rfl) rfl ?_
  intro PP EE s MM below meth CC ls F hr hlk hnm hex hl hW
  have hl : lv_has ls 6 [(0, .ref (ad 168)), (1, .int x), (2, .int y)] := hl
  obtain ⟨hyo, ⟨FF, hyF, hyd⟩, OO, hyO, hyo2⟩ := id hY
  obtain ⟨⟨nn32, nho, hnn32⟩, nhB, nhT⟩ := id hN
  refine q_iconst F d_Wa_next_0 (by decide) (fun v1 hv1 => ?_)
  refine lv_istore_n (lv' := [(3, .int v1), (0, .ref (ad 168)), (1, .int x), (2, .int y)]) F.1 F.2.1 d_Wa_next_1 rfl hl (by decide) rfl (fun ls2 hl2 => ?_)
  clear hl
  refine q_iconst F d_Wa_next_2 (by decide) (fun v3 hv3 => ?_)
  refine lv_istore (lv' := [(4, .int v3), (3, .int v1), (0, .ref (ad 168)), (1, .int x), (2, .int y)]) F.1 F.2.1 d_Wa_next_3 hl2 (by decide) rfl (fun ls4 hl4 => ?_)
  clear hl2
  generalize hHe : s.heap = H0 at hW ⊢
  clear hHe
  generalize hLe : ([] : List Loc) = locs0 at hW ⊢
  clear hLe
  obtain ⟨i, hi0⟩ : ∃ i : Nat, i = 0 := ⟨_, rfl⟩
  have hiv : v3.toInt = (i : Int) := by omega
  have hib : i ≤ 16 := by omega
  have hbest : zt_is bh wt (zd m Wt) a c i v1.toInt := by rw [hv1, hi0]; exact zt_0
  clear hi0 hv3 hv1
  obtain ⟨f, hf⟩ : ∃ f : Nat, 16 + 1 ≤ i + f := ⟨16 + 1, by omega⟩
  induction f generalizing i v3 ls4 v1 H0 locs0 with
  | zero => exact absurd hf (by omega)
  | succ f ihi =>
    refine lv_iload F.1 F.2.1 d_Wa_next_5 (lv_at hl4 0 rfl) ?_
    refine q_bipush F d_Wa_next_7 (by decide) (fun v5 hv5 => ?_)
    refine q_icmp_ge (tgt := 81) F d_Wa_next_9 (by decide) (fun c9 => ?_) (fun c9 => ?_)
    · refine lv_iload_n F.1 F.2.1 d_Wa_next_81 rfl (lv_at hl4 1 rfl) ?_
      exact q_iret F hr hlk hW ⟨rfl, zt_eq hZ ha ((show i = 16 by omega) ▸ hbest)⟩ d_Wa_next_82
    · refine lv_aload_n F.1 F.2.1 d_Wa_next_12 rfl (lv_at hl4 2 rfl) ?_
      refine gf_Wa_19 F hW (by omega) hyo d_Wa_next_13 ?_
      refine lv_iload_n F.1 F.2.1 d_Wa_next_16 rfl (lv_at hl4 3 rfl) ?_
      refine lv_iload F.1 F.2.1 d_Wa_next_17 (lv_at hl4 0 rfl) ?_
      refine q_calli hW (q_cV (As := [.int x, .int v3]) (rest := []) F hW cs_Wa_33 hd_Ne_behindPort rfl (by omega) nho (k_Ne_behindPort l D τ A ad N w 85 (by omega) n bh wt hN x v3 a i hx hiv (by omega) (by omega)) rfl rfl ⟨by decide, by decide⟩ rfl hl4.1 rfl (Nat.le_of_ble_eq_true rfl) d_Wa_next_19 ⟨Nat.le_refl _, Nat.le_refl _⟩) (fun v6 w6 H6 locs6 hp6 hW6 => ?_)
      obtain ⟨hq6, hp6⟩ := hp6
      replace hq6 := hq6.symm
      subst hq6
      refine lv_istore (lv' := [(5, .int v6), (4, .int v3), (3, .int v1), (0, .ref (ad 168)), (1, .int x), (2, .int y)]) F.1 F.2.1 d_Wa_next_22 hl4 (by decide) rfl (fun ls7 hl7 => ?_)
      clear hl4
      refine lv_iload F.1 F.2.1 d_Wa_next_24 (lv_at hl7 0 rfl) ?_
      refine q_iconst F d_Wa_next_26 (by decide) (fun v8 hv8 => ?_)
      refine q_icmp_eq (tgt := 75) F d_Wa_next_27 (by decide) (fun c27 => ?_) (fun c27 => ?_)
      · refine q_iinc (lv' := fun v9 => [(4, .int v9), (5, .int v6), (3, .int v1), (0, .ref (ad 168)), (1, .int x), (2, .int y)]) F d_Wa_next_75 hl7 (k := 1) rfl (by decide) (by omega) (by decide) (fun _ => rfl) (fun v9 lsv9 hv9 hlv9 => ?_)
        clear hl7
        refine lv_goto (tgt := 5) F.1 F.2.1 d_Wa_next_78 (by decide) ?_
        exact ihi (i := i + 1) (v3 := v9) (ls4 := lsv9) (v1 := v1) (H0 := H6) (locs0 := locs6) (hW := hW6) (hiv := by omega) (hib := by omega) (hbest := zt_skip hbest (by omega)) (hf := by omega) (hl4 := (lv_sub hlv9 [0, 2, 3, 4, 5] rfl))
      · refine lv_iload_n F.1 F.2.1 d_Wa_next_30 rfl (lv_at hl7 2 rfl) ?_
        refine q_iconst F d_Wa_next_31 (by decide) (fun v10 hv10 => ?_)
        refine q_icmp_eq (tgt := 41) F d_Wa_next_32 (by decide) (fun c32 => ?_) (fun c32 => ?_)
        · have hz := hZ.2.1 a i ha (by omega)
          have hzw := hZ.2.2.1 a i ha (by omega) (by omega)
          obtain ⟨q, hq⟩ : ∃ q : Nat, bh a i = (q : Int) := ⟨(bh a i).toNat, by omega⟩
          have hd1 := hyd q c (by omega) hc
          have hd2 := hyd a c ha hc
          have hd3 := zd_bd hZ.1 (show q < m by omega) hc
          refine lv_aload_n F.1 F.2.1 d_Wa_next_41 rfl (lv_at hl7 3 rfl) ?_
          refine gf_Wa_19 F hW6 (by omega) hyo d_Wa_next_42 ?_
          refine lv_iload_n F.1 F.2.1 d_Wa_next_45 rfl (lv_at hl7 4 rfl) ?_
          refine lv_iload F.1 F.2.1 d_Wa_next_46 (lv_at hl7 1 rfl) ?_
          refine q_calli hW6 (q_cV (As := [.int x, .int v3]) (rest := []) F hW6 cs_Wa_37 hd_Ne_portWeight rfl (by omega) nho (k_Ne_portWeight l D τ A ad N w 85 (by omega) n bh wt hN x v3 a i hx hiv (by omega) (by omega)) rfl rfl ⟨by decide, by decide⟩ rfl hl7.1 rfl (Nat.le_of_ble_eq_true rfl) d_Wa_next_48 ⟨Nat.le_refl _, Nat.le_refl _⟩) (fun v11 w11 H11 locs11 hp11 hW11 => ?_)
          obtain ⟨hq11, hp11⟩ := hp11
          replace hq11 := hq11.symm
          subst hq11
          refine lv_aload_n F.1 F.2.1 d_Wa_next_51 rfl (lv_at hl7 3 rfl) ?_
          refine gf_Wa_11 F hW11 (by omega) hyo d_Wa_next_52 ?_
          refine lv_iload F.1 F.2.1 d_Wa_next_55 (lv_at hl7 0 rfl) ?_
          refine q_aald F hW11 hyF (by omega) q (by omega) (by omega) d_Wa_next_57 ?_
          refine lv_iload_n F.1 F.2.1 d_Wa_next_58 rfl (lv_at hl7 5 rfl) ?_
          refine q_iald F hW11 (hyF.2 q (by omega)) (by omega) c (by omega) (by omega) d_Wa_next_59 (fun v12 hv12 => ?_)
          refine q_iadd F d_Wa_next_60 (by omega) (fun v13 hv13 => ?_)
          refine lv_aload_n F.1 F.2.1 d_Wa_next_61 rfl (lv_at hl7 3 rfl) ?_
          refine gf_Wa_11 F hW11 (by omega) hyo d_Wa_next_62 ?_
          refine lv_iload_n F.1 F.2.1 d_Wa_next_65 rfl (lv_at hl7 4 rfl) ?_
          refine q_aald F hW11 hyF (by omega) a (by omega) (by omega) d_Wa_next_66 ?_
          refine lv_iload_n F.1 F.2.1 d_Wa_next_67 rfl (lv_at hl7 5 rfl) ?_
          refine q_iald F hW11 (hyF.2 a (by omega)) (by omega) c (by omega) (by omega) d_Wa_next_68 (fun v14 hv14 => ?_)
          refine q_icmp_ne (tgt := 75) F d_Wa_next_69 (by decide) (fun c69 => ?_) (fun c69 => ?_)
          · refine q_iinc (lv' := fun v15 => [(4, .int v15), (5, .int v6), (3, .int v1), (0, .ref (ad 168)), (1, .int x), (2, .int y)]) F d_Wa_next_75 hl7 (k := 1) rfl (by decide) (by omega) (by decide) (fun _ => rfl) (fun v15 lsv15 hv15 hlv15 => ?_)
            clear hl7
            refine lv_goto (tgt := 5) F.1 F.2.1 d_Wa_next_78 (by decide) ?_
            exact ihi (i := i + 1) (v3 := v15) (ls4 := lsv15) (v1 := v1) (H0 := H11) (locs0 := locs11) (hW := hW11) (hiv := by omega) (hib := by omega) (hbest := zt_skip hbest (by rw [hq]; simp only [Int.toNat_natCast]; omega)) (hf := by omega) (hl4 := (lv_sub hlv15 [0, 2, 3, 4, 5] rfl))
          · refine lv_iload F.1 F.2.1 d_Wa_next_72 (lv_at hl7 0 rfl) ?_
            refine lv_istore_n (lv' := [(3, .int v6), (5, .int v6), (4, .int v3), (0, .ref (ad 168)), (1, .int x), (2, .int y)]) F.1 F.2.1 d_Wa_next_74 rfl hl7 (by decide) rfl (fun ls16 hl16 => ?_)
            clear hl7
            refine q_iinc (lv' := fun v17 => [(4, .int v17), (3, .int v6), (5, .int v6), (0, .ref (ad 168)), (1, .int x), (2, .int y)]) F d_Wa_next_75 hl16 (k := 2) rfl (by decide) (by omega) (by decide) (fun _ => rfl) (fun v17 lsv17 hv17 hlv17 => ?_)
            clear hl16
            refine lv_goto (tgt := 5) F.1 F.2.1 d_Wa_next_78 (by decide) ?_
            exact ihi (i := i + 1) (v3 := v17) (ls4 := lsv17) (v1 := v6) (H0 := H11) (locs0 := locs11) (hW := hW11) (hiv := by omega) (hib := by omega) (hbest := by rw [hp6]; exact zt_take hbest ⟨by omega, by rw [hq]; simp only [Int.toNat_natCast]; omega⟩ (Or.inl (by omega))) (hf := by omega) (hl4 := (lv_sub hlv17 [0, 1, 3, 4, 5] rfl))
        · refine lv_iload F.1 F.2.1 d_Wa_next_35 (lv_at hl7 0 rfl) ?_
          refine lv_iload_n F.1 F.2.1 d_Wa_next_37 rfl (lv_at hl7 2 rfl) ?_
          refine q_icmp_ge (tgt := 75) F d_Wa_next_38 (by decide) (fun c38 => ?_) (fun c38 => ?_)
          · refine q_iinc (lv' := fun v18 => [(4, .int v18), (5, .int v6), (3, .int v1), (0, .ref (ad 168)), (1, .int x), (2, .int y)]) F d_Wa_next_75 hl7 (k := 1) rfl (by decide) (by omega) (by decide) (fun _ => rfl) (fun v18 lsv18 hv18 hlv18 => ?_)
            clear hl7
            refine lv_goto (tgt := 5) F.1 F.2.1 d_Wa_next_78 (by decide) ?_
            exact ihi (i := i + 1) (v3 := v18) (ls4 := lsv18) (v1 := v1) (H0 := H6) (locs0 := locs6) (hW := hW6) (hiv := by omega) (hib := by omega) (hbest := zt_keep hbest (by omega) (by omega)) (hf := by omega) (hl4 := (lv_sub hlv18 [0, 2, 3, 4, 5] rfl))
          · have hz := hZ.2.1 a i ha (by omega)
            have hzw := hZ.2.2.1 a i ha (by omega) (by omega)
            obtain ⟨q, hq⟩ : ∃ q : Nat, bh a i = (q : Int) := ⟨(bh a i).toNat, by omega⟩
            have hd1 := hyd q c (by omega) hc
            have hd2 := hyd a c ha hc
            have hd3 := zd_bd hZ.1 (show q < m by omega) hc
            refine lv_aload_n F.1 F.2.1 d_Wa_next_41 rfl (lv_at hl7 3 rfl) ?_
            refine gf_Wa_19 F hW6 (by omega) hyo d_Wa_next_42 ?_
            refine lv_iload_n F.1 F.2.1 d_Wa_next_45 rfl (lv_at hl7 4 rfl) ?_
            refine lv_iload F.1 F.2.1 d_Wa_next_46 (lv_at hl7 1 rfl) ?_
            refine q_calli hW6 (q_cV (As := [.int x, .int v3]) (rest := []) F hW6 cs_Wa_37 hd_Ne_portWeight rfl (by omega) nho (k_Ne_portWeight l D τ A ad N w 85 (by omega) n bh wt hN x v3 a i hx hiv (by omega) (by omega)) rfl rfl ⟨by decide, by decide⟩ rfl hl7.1 rfl (Nat.le_of_ble_eq_true rfl) d_Wa_next_48 ⟨Nat.le_refl _, Nat.le_refl _⟩) (fun v19 w19 H19 locs19 hp19 hW19 => ?_)
            obtain ⟨hq19, hp19⟩ := hp19
            replace hq19 := hq19.symm
            subst hq19
            refine lv_aload_n F.1 F.2.1 d_Wa_next_51 rfl (lv_at hl7 3 rfl) ?_
            refine gf_Wa_11 F hW19 (by omega) hyo d_Wa_next_52 ?_
            refine lv_iload F.1 F.2.1 d_Wa_next_55 (lv_at hl7 0 rfl) ?_
            refine q_aald F hW19 hyF (by omega) q (by omega) (by omega) d_Wa_next_57 ?_
            refine lv_iload_n F.1 F.2.1 d_Wa_next_58 rfl (lv_at hl7 5 rfl) ?_
            refine q_iald F hW19 (hyF.2 q (by omega)) (by omega) c (by omega) (by omega) d_Wa_next_59 (fun v20 hv20 => ?_)
            refine q_iadd F d_Wa_next_60 (by omega) (fun v21 hv21 => ?_)
            refine lv_aload_n F.1 F.2.1 d_Wa_next_61 rfl (lv_at hl7 3 rfl) ?_
            refine gf_Wa_11 F hW19 (by omega) hyo d_Wa_next_62 ?_
            refine lv_iload_n F.1 F.2.1 d_Wa_next_65 rfl (lv_at hl7 4 rfl) ?_
            refine q_aald F hW19 hyF (by omega) a (by omega) (by omega) d_Wa_next_66 ?_
            refine lv_iload_n F.1 F.2.1 d_Wa_next_67 rfl (lv_at hl7 5 rfl) ?_
            refine q_iald F hW19 (hyF.2 a (by omega)) (by omega) c (by omega) (by omega) d_Wa_next_68 (fun v22 hv22 => ?_)
            refine q_icmp_ne (tgt := 75) F d_Wa_next_69 (by decide) (fun c69 => ?_) (fun c69 => ?_)
            · refine q_iinc (lv' := fun v23 => [(4, .int v23), (5, .int v6), (3, .int v1), (0, .ref (ad 168)), (1, .int x), (2, .int y)]) F d_Wa_next_75 hl7 (k := 1) rfl (by decide) (by omega) (by decide) (fun _ => rfl) (fun v23 lsv23 hv23 hlv23 => ?_)
              clear hl7
              refine lv_goto (tgt := 5) F.1 F.2.1 d_Wa_next_78 (by decide) ?_
              exact ihi (i := i + 1) (v3 := v23) (ls4 := lsv23) (v1 := v1) (H0 := H19) (locs0 := locs19) (hW := hW19) (hiv := by omega) (hib := by omega) (hbest := zt_skip hbest (by rw [hq]; simp only [Int.toNat_natCast]; omega)) (hf := by omega) (hl4 := (lv_sub hlv23 [0, 2, 3, 4, 5] rfl))
            · refine lv_iload F.1 F.2.1 d_Wa_next_72 (lv_at hl7 0 rfl) ?_
              refine lv_istore_n (lv' := [(3, .int v6), (5, .int v6), (4, .int v3), (0, .ref (ad 168)), (1, .int x), (2, .int y)]) F.1 F.2.1 d_Wa_next_74 rfl hl7 (by decide) rfl (fun ls24 hl24 => ?_)
              clear hl7
              refine q_iinc (lv' := fun v25 => [(4, .int v25), (3, .int v6), (5, .int v6), (0, .ref (ad 168)), (1, .int x), (2, .int y)]) F d_Wa_next_75 hl24 (k := 2) rfl (by decide) (by omega) (by decide) (fun _ => rfl) (fun v25 lsv25 hv25 hlv25 => ?_)
              clear hl24
              refine lv_goto (tgt := 5) F.1 F.2.1 d_Wa_next_78 (by decide) ?_
              exact ihi (i := i + 1) (v3 := v25) (ls4 := lsv25) (v1 := v6) (H0 := H19) (locs0 := locs19) (hW := hW19) (hiv := by omega) (hib := by omega) (hbest := by rw [hp6]; exact zt_take hbest ⟨by omega, by rw [hq]; simp only [Int.toNat_natCast]; omega⟩ (Or.inr (by omega))) (hf := by omega) (hl4 := (lv_sub hlv25 [0, 1, 3, 4, 5] rfl))
set_option maxHeartbeats 4000000 in
set_option maxRecDepth 100000 in
/-- all the ways -/
theorem k_Wa_measure (l : Launch) (D : va_G) (τ : Nat → ClassId) (A : Nat → Prop) (ad : Nat → Nat) (N : Nat) (w : Nat → va_E) (hb : 469 ≤ N) (m : Nat) (hm40 : m ≤ 40) (Wt : Nat → Nat → Int) (hall : zall m Wt) (ho : w 168 = .inr (5, [.ref (ad 85), .ref (ad 169), .ref (ad 210)])) (F0 O0 : Nat → Nat → Int) (hF0 : q_G τ ad w 169 40 40 F0) (hO0 : q_G τ ad w 210 40 40 O0) (n : Int) (bh wt : Nat → Nat → Int) (hN : qNet τ ad w 85 n bh wt) (hn : n = m) (hZ : zn_ok m bh wt Wt) : Met l y_Wa_measure (qws y_Wa_measure c_Wa_measure 2 none) ({ frames := 2, cells := 0, slots := 0, locals := 53 }) (qPc D τ A ad N w [.ref (ad 168)]) (va_Qv (fun w1 => (∃ od, qWay τ ad w1 m Wt od) ∧ ∀ q, (q < 169 ∨ 251 ≤ q) → w1 q = w q) (qB D τ A ad N) A) 0 0 A := by
  refine q_of (by decide) (Nat.le_of_ble_eq_true rfl) rfl ?_
  intro PP EE s MM below meth CC ls F hr hlk hnm hex hl hW
  have hl : lv_has ls 2 [(0, .ref (ad 168))] := hl
  obtain ⟨⟨nn32, nho, hnn32⟩, nhB, nhT⟩ := id hN
  refine q_iconst F d_Wa_measure_0 (by decide) (fun v1 hv1 => ?_)
  refine lv_istore_n (lv' := [(1, .int v1), (0, .ref (ad 168))]) F.1 F.2.1 d_Wa_measure_1 rfl hl (by decide) rfl (fun ls2 hl2 => ?_)
  clear hl
  obtain ⟨i, hi0⟩ : ∃ i : Nat, i = 0 := ⟨_, rfl⟩
  have hiv : v1.toInt = (i : Int) := by omega
  have hib : i ≤ m := by omega
  obtain ⟨wl, hwl⟩ : ∃ x : Nat → va_E, x = w := ⟨_, rfl⟩
  have hWl : qW D τ A s s.heap ([] : List Loc) ad N wl := by rw [hwl]; exact hW
  have ho : wl 168 = .inr (5, [.ref (ad 85), .ref (ad 169), .ref (ad 210)]) := by rw [hwl]; exact ho
  have hN : qNet τ ad wl 85 n bh wt := by rw [hwl]; exact hN
  have hR : ∃ (FF OO : Nat → Nat → Int) (od : Nat → Nat → Nat), q_G τ ad wl 169 40 40 FF ∧ q_G τ ad wl 210 40 40 OO ∧ ∀ a, a < i → (∀ c, c < m → FF a c = zd m Wt a c) ∧ zo_ok m (zd m Wt a) m (od a) ∧ ∀ j, j < m → OO a j = (od a j : Int) := ⟨F0, O0, fun _ _ => 0, by rw [hwl]; exact hF0, by rw [hwl]; exact hO0, fun a ha => absurd ha (by omega)⟩
  have hfl : ∀ q, (q < 169 ∨ 251 ≤ q) → wl q = w q := fun q _ => by rw [hwl]
  clear hi0 hv1 hwl
  generalize s.heap = Hl at hWl ⊢
  generalize ([] : List Loc) = locsl at hWl ⊢
  obtain ⟨f, hf⟩ : ∃ f : Nat, m + 1 ≤ i + f := ⟨m + 1, by omega⟩
  induction f generalizing i v1 ls2 wl Hl locsl with
  | zero => exact absurd hf (by omega)
  | succ f ihi =>
    obtain ⟨FF, OO, od, hyF, hyO, hyP⟩ := hR
    obtain ⟨⟨l32, lho, hl32⟩, lhB, lhT⟩ := id hN
    refine lv_iload_n F.1 F.2.1 d_Wa_measure_2 rfl (lv_at hl2 0 rfl) ?_
    refine lv_aload_n F.1 F.2.1 d_Wa_measure_3 rfl (lv_at hl2 1 rfl) ?_
    refine gf_Wa_19 F hWl (by omega) ho d_Wa_measure_4 ?_
    refine q_calli hWl (q_cV (As := []) (rest := [.int v1]) F hWl cs_Wa_23 hd_Ne_size rfl (by omega) lho (k_Ne_size l D τ A ad N wl 85 (by omega) n bh wt hN) rfl rfl ⟨by decide, by decide⟩ rfl hl2.1 rfl (Nat.le_of_ble_eq_true rfl) d_Wa_measure_7 ⟨Nat.le_refl _, Nat.le_refl _⟩) (fun v3 w3 H3 locs3 hp3 hW3 => ?_)
    obtain ⟨hq3, hp3⟩ := hp3
    replace hq3 := hq3.symm
    subst hq3
    refine q_icmp_ge (tgt := 40) F d_Wa_measure_10 (by decide) (fun c10 => ?_) (fun c10 => ?_)
    · exact q_vret F hr hlk hW3 ⟨⟨od, ho, ⟨FF, hyF, fun a c ha hc => (hyP a (by omega)).1 c hc⟩, OO, hyO, fun a ha => (hyP a (by omega)).2⟩, hfl⟩ d_Wa_measure_40
    · refine lv_aload_n F.1 F.2.1 d_Wa_measure_13 rfl (lv_at hl2 1 rfl) ?_
      refine gf_Wa_19 F hW3 (by omega) ho d_Wa_measure_14 ?_
      refine lv_iload_n F.1 F.2.1 d_Wa_measure_17 rfl (lv_at hl2 0 rfl) ?_
      refine lv_aload_n F.1 F.2.1 d_Wa_measure_18 rfl (lv_at hl2 1 rfl) ?_
      refine gf_Wa_11 F hW3 (by omega) ho d_Wa_measure_19 ?_
      refine lv_iload_n F.1 F.2.1 d_Wa_measure_22 rfl (lv_at hl2 0 rfl) ?_
      refine q_aald F hW3 hyF (by omega) i (by omega) (by omega) d_Wa_measure_23 ?_
      refine lv_aload_n F.1 F.2.1 d_Wa_measure_24 rfl (lv_at hl2 1 rfl) ?_
      refine gf_Wa_16 F hW3 (by omega) ho d_Wa_measure_25 ?_
      refine lv_iload_n F.1 F.2.1 d_Wa_measure_28 rfl (lv_at hl2 0 rfl) ?_
      refine q_aald F hW3 hyO (by omega) i (by omega) (by omega) d_Wa_measure_29 ?_
      refine q_calli hW3 (q_cV (As := [.int v1, .ref (ad (169 + 1 + i)), .ref (ad (210 + 1 + i))]) (rest := []) F hW3 cs_Wa_29 hd_Ne_spread rfl (by omega) lho (k_Ne_spread l D τ A ad N wl 85 (by omega) n bh wt hN (169 + 1 + i) (210 + 1 + i) (by omega) (by omega) (by omega) (by omega) (by omega) _ _ (hyF.2 i (by omega)) (hyO.2 i (by omega)) m hn hm40 Wt hZ v1 i hiv (by omega)) rfl rfl ⟨by decide, by decide⟩ rfl hl2.1 rfl (Nat.le_of_ble_eq_true rfl) d_Wa_measure_30 ⟨Nat.le_refl _, Nat.le_refl _⟩) (fun v4 w4 H4 locs4 hp4 hW4 => ?_)
      obtain ⟨⟨r1, F1, O1, hr1, hr1m, hF1, ⟨G1, hG1, hGO⟩, hzl, hzo, hzi⟩, hfr4⟩ := hp4
      obtain ⟨e1, e2, e3⟩ := zwy_row hZ.1 hall (show i < m by omega) hzl hzo hzi
      subst e2
      replace ho := (hfr4 168 (by omega) (by omega)).trans ho
      replace hN := hN.keep (fun q h1 h2 => hfr4 q (by omega) (by omega))
      have hyF2 : q_G τ ad w4 169 40 40 (fun a b => if a = i then F1 b else FF a b) := ⟨⟨_, (hfr4 169 (by omega) (by omega)).trans hyF.1.choose_spec.1, hyF.1.choose_spec.2⟩, fun a ha => by
          by_cases z : a = i
          · subst z; exact hF1.congr (fun j _ => by simp)
          · exact ((hyF.2 a ha).keep (hfr4 _ (by omega) (by omega))).congr (fun j _ => by simp [z])⟩
      have hyO2 : q_G τ ad w4 210 40 40 (fun a b => if a = i then G1 b else OO a b) := ⟨⟨_, (hfr4 210 (by omega) (by omega)).trans hyO.1.choose_spec.1, hyO.1.choose_spec.2⟩, fun a ha => by
          by_cases z : a = i
          · subst z; exact hG1.congr (fun j _ => by simp)
          · exact ((hyO.2 a ha).keep (hfr4 _ (by omega) (by omega))).congr (fun j _ => by simp [z])⟩
      refine lv_pop F.1 F.2.1 d_Wa_measure_33 rfl ?_
      refine q_iinc (lv' := fun v5 => [(1, .int v5), (0, .ref (ad 168))]) F d_Wa_measure_34 hl2 (k := 0) rfl (by decide) (by omega) (by decide) (fun _ => rfl) (fun v5 lsv5 hv5 hlv5 => ?_)
      clear hl2
      refine lv_goto (tgt := 2) F.1 F.2.1 d_Wa_measure_37 (by decide) ?_
      exact ihi (i := i + 1) (v1 := v5) (ls2 := lsv5) (wl := w4) (Hl := H4) (locsl := locs4) (hiv := by omega) (hib := by omega) (hWl := hW4) (ho := ho) (hN := hN) (hR := ⟨_, _, fun a j => if a = i then O1 j else od a j, hyF2, hyO2, fun a ha => zw_upd (by omega) hyP e1 e3 hGO a ha⟩) (hfl := fun q hq => by rw [hfr4 q (by omega) (by omega)]; exact hfl q hq) (hf := by omega) (hl2 := (lv_sub hlv5 [0, 1] rfl))
