/-! edges made and cut; the state of both sides -/
section ZE
variable {n a c qa qc : Nat} {bh wt Wt bh' wt' W' : Nat → Nat → Int} {z : Int}
theorem zn_put (h : zn_ok n bh wt Wt) (ha : a < n) (hc : c < n) (hac : a ≠ c) (hqa : qa < 16) (hqc : qc < 16) (hz : 1 ≤ z) (hz2 : z ≤ 1000)
    (h1 : ∀ p, p < 16 → p ≠ qa → bh a p ≠ (c : Int)) (h2 : ∀ p, p < 16 → p ≠ qc → bh c p ≠ (a : Int)) (h3 : bh a qa = -1 ∨ bh a qa = (c : Int)) (h4 : bh c qc = -1 ∨ bh c qc = (a : Int))
    (eb : ∀ x p, bh' x p = if x = a ∧ p = qa then (c : Int) else if x = c ∧ p = qc then (a : Int) else bh x p)
    (ew : ∀ x p, wt' x p = if (x = a ∧ p = qa) ∨ (x = c ∧ p = qc) then z else wt x p)
    (eW : ∀ x y, W' x y = if (x = a ∧ y = c) ∨ (x = c ∧ y = a) then z else Wt x y) : zn_ok n bh' wt' W' := by
  obtain ⟨⟨g1, g2⟩, k1, k2, k3, k4⟩ := h
  refine ⟨⟨?_, ?_⟩, ?_, ?_, ?_, ?_⟩
  · intro x y hx hy
    have o := g1 x y hx hy
    rw [eW x y, eW y x]
    by_cases e : (x = a ∧ y = c) ∨ (x = c ∧ y = a)
    · rw [if_pos e, if_pos (by rcases e with e | e; exact Or.inr ⟨e.2, e.1⟩; exact Or.inl ⟨e.2, e.1⟩)]
      omega
    · rw [if_neg e, if_neg (fun q => e (by rcases q with q | q; exact Or.inr ⟨q.2, q.1⟩; exact Or.inl ⟨q.2, q.1⟩))]
      exact o
  · intro x hx
    rw [eW x x, if_neg (by omega)]
    exact g2 x hx
  · intro x p hx hp
    rw [eb x p]
    by_cases e1 : x = a ∧ p = qa
    · rw [if_pos e1]; omega
    · rw [if_neg e1]
      by_cases e2 : x = c ∧ p = qc
      · rw [if_pos e2]; omega
      · rw [if_neg e2]; exact k1 x p hx hp
  · intro x p hx hp hne
    rw [ew x p]
    rw [eb x p] at hne ⊢
    by_cases e1 : x = a ∧ p = qa
    · rw [if_pos e1, if_pos (Or.inl e1), eW]
      simp only [Int.toNat_natCast]
      rw [if_pos (Or.inl ⟨e1.1, trivial⟩)]
      omega
    · by_cases e2 : x = c ∧ p = qc
      · rw [if_neg e1, if_pos e2, if_pos (Or.inr e2), eW]
        simp only [Int.toNat_natCast]
        rw [if_pos (Or.inr ⟨e2.1, trivial⟩)]
        omega
      · rw [if_neg e1, if_neg e2] at hne ⊢
        rw [if_neg (by rintro (q | q); exact e1 q; exact e2 q), eW]
        have r := k1 x p hx hp
        rw [if_neg]
        · exact k2 x p hx hp hne
        · rintro (⟨q1, q2⟩ | ⟨q1, q2⟩)
          · subst q1
            exact h1 p hp (fun q => e1 ⟨rfl, q⟩) (by omega)
          · subst q1
            exact h2 p hp (fun q => e2 ⟨rfl, q⟩) (by omega)
  · intro x y hx hy hw
    rw [eW x y] at hw
    by_cases e : (x = a ∧ y = c) ∨ (x = c ∧ y = a)
    · rcases e with ⟨q1, q2⟩ | ⟨q1, q2⟩
      · exact ⟨qa, hqa, by rw [eb, if_pos ⟨q1, rfl⟩, q2]⟩
      · exact ⟨qc, hqc, by rw [eb, if_neg (by omega), if_pos ⟨q1, rfl⟩, q2]⟩
    · rw [if_neg e] at hw
      obtain ⟨p, hp, hb⟩ := k3 x y hx hy hw
      refine ⟨p, hp, ?_⟩
      rw [eb, if_neg, if_neg]
      · exact hb
      · rintro ⟨q1, q2⟩
        subst q1; subst q2
        rcases h4 with q | q
        · omega
        · exact e (Or.inr ⟨rfl, by omega⟩)
      · rintro ⟨q1, q2⟩
        subst q1; subst q2
        rcases h3 with q | q
        · omega
        · exact e (Or.inl ⟨rfl, by omega⟩)
  · intro x p q hx hp hq hne he
    rw [eb x p] at hne
    rw [eb x p, eb x q] at he
    by_cases e1 : x = a ∧ p = qa
    · rw [if_pos e1] at he
      by_cases e2 : q = qa
      · omega
      · rw [if_neg (by omega), if_neg (by omega)] at he
        obtain ⟨r1, r2⟩ := e1
        subst r1
        exact absurd he.symm (h1 q hq e2)
    · rw [if_neg e1] at he hne
      by_cases e2 : x = c ∧ p = qc
      · rw [if_pos e2] at he
        by_cases e3 : q = qc
        · omega
        · rw [if_neg (by omega), if_neg (by omega)] at he
          obtain ⟨r1, r2⟩ := e2
          subst r1
          exact absurd he.symm (h2 q hq e3)
      · rw [if_neg e2] at he hne
        by_cases e3 : x = a ∧ q = qa
        · rw [if_pos e3] at he
          obtain ⟨r1, r2⟩ := e3
          subst r1
          exact absurd he (h1 p hp (fun z => e1 ⟨rfl, z⟩))
        · rw [if_neg e3] at he
          by_cases e4 : x = c ∧ q = qc
          · rw [if_pos e4] at he
            obtain ⟨r1, r2⟩ := e4
            subst r1
            exact absurd he (h2 p hp (fun z => e2 ⟨rfl, z⟩))
          · rw [if_neg e4] at he
            exact k4 x p q hx hp hq hne he
theorem zn_cut (h : zn_ok n bh wt Wt) (ha : a < n) (hc : c < n) (hac : a ≠ c) (hqa : qa < 16) (hqc : qc < 16) (h3 : bh a qa = (c : Int)) (h4 : bh c qc = (a : Int))
    (eb : ∀ x p, bh' x p = if (x = a ∧ p = qa) ∨ (x = c ∧ p = qc) then -1 else bh x p)
    (ew : ∀ x p, wt' x p = if (x = a ∧ p = qa) ∨ (x = c ∧ p = qc) then 0 else wt x p)
    (eW : ∀ x y, W' x y = if (x = a ∧ y = c) ∨ (x = c ∧ y = a) then 0 else Wt x y) : zn_ok n bh' wt' W' := by
  obtain ⟨⟨g1, g2⟩, k1, k2, k3, k4⟩ := h
  refine ⟨⟨?_, ?_⟩, ?_, ?_, ?_, ?_⟩
  · intro x y hx hy
    have o := g1 x y hx hy
    rw [eW x y, eW y x]
    by_cases e : (x = a ∧ y = c) ∨ (x = c ∧ y = a)
    · rw [if_pos e, if_pos (by rcases e with e | e; exact Or.inr ⟨e.2, e.1⟩; exact Or.inl ⟨e.2, e.1⟩)]
      omega
    · rw [if_neg e, if_neg (fun q => e (by rcases q with q | q; exact Or.inr ⟨q.2, q.1⟩; exact Or.inl ⟨q.2, q.1⟩))]
      exact o
  · intro x hx
    rw [eW x x, if_neg (by omega)]
    exact g2 x hx
  · intro x p hx hp
    rw [eb x p]
    by_cases e1 : (x = a ∧ p = qa) ∨ (x = c ∧ p = qc)
    · rw [if_pos e1]; omega
    · rw [if_neg e1]; exact k1 x p hx hp
  · intro x p hx hp hne
    rw [ew x p]
    rw [eb x p] at hne ⊢
    by_cases e1 : (x = a ∧ p = qa) ∨ (x = c ∧ p = qc)
    · rw [if_pos e1] at hne; omega
    · rw [if_neg e1] at hne ⊢
      rw [if_neg e1, eW]
      have r := k1 x p hx hp
      rw [if_neg]
      · exact k2 x p hx hp hne
      · rintro (⟨q1, q2⟩ | ⟨q1, q2⟩)
        · subst q1
          exact e1 (Or.inl ⟨rfl, k4 x p qa hx hp hqa hne (by omega)⟩)
        · subst q1
          exact e1 (Or.inr ⟨rfl, k4 x p qc hx hp hqc hne (by omega)⟩)
  · intro x y hx hy hw
    rw [eW x y] at hw
    by_cases e : (x = a ∧ y = c) ∨ (x = c ∧ y = a)
    · rw [if_pos e] at hw; omega
    · rw [if_neg e] at hw
      obtain ⟨p, hp, hb⟩ := k3 x y hx hy hw
      refine ⟨p, hp, ?_⟩
      rw [eb, if_neg]
      · exact hb
      · rintro (⟨q1, q2⟩ | ⟨q1, q2⟩)
        · subst q1; subst q2
          exact e (Or.inl ⟨rfl, by omega⟩)
        · subst q1; subst q2
          exact e (Or.inr ⟨rfl, by omega⟩)
  · intro x p q hx hp hq hne he
    rw [eb x p] at hne
    rw [eb x p, eb x q] at he
    by_cases e1 : (x = a ∧ p = qa) ∨ (x = c ∧ p = qc)
    · rw [if_pos e1] at hne; omega
    · rw [if_neg e1] at hne he
      by_cases e2 : (x = a ∧ q = qa) ∨ (x = c ∧ q = qc)
      · rw [if_pos e2] at he; omega
      · rw [if_neg e2] at he
        exact k4 x p q hx hp hq hne he
theorem zn_new (n : Nat) : zn_ok n (fun _ _ => -1) (fun _ _ => 0) (fun _ _ => 0) := by
  refine ⟨⟨fun _ _ _ _ => ⟨Int.le_refl _, by show (0 : Int) ≤ 1000; omega, rfl⟩, fun _ _ => rfl⟩, fun _ _ _ _ => Or.inl rfl, fun _ _ _ _ h => absurd rfl h, fun _ _ _ _ h => absurd h (Int.lt_irrefl _), fun _ _ _ _ _ _ h => absurd rfl h⟩
/-- ports found again -/
theorem zp_is {bh : Nat → Nat → Int} {a q : Nat} {b : Int} (hq : q < 16) (h : bh a q = b) (hl : ∀ p, p < q → bh a p ≠ b) : zp bh a b = (q : Int) := zf_found hq h hl
end ZE
/-- the state of both sides: nodes, ports, weights, built, the same then, landmarks, sent, packets, places, goals, sums -/
def zSt : Type := Nat × (Nat → Nat → Int) × (Nat → Nat → Int) × (Nat → Nat → Int) × Prop × (Nat → Nat → Int) × (Nat → Nat → Int) × (Nat → Nat → Int) × (Nat → Prop) × Nat × Nat × (Nat → Int) × (Nat → Int) × (Nat → Int)
def zSt.n (X : zSt) : Nat := X.1
def zSt.bh (X : zSt) : (Nat → Nat → Int) := X.2.1
def zSt.wt (X : zSt) : (Nat → Nat → Int) := X.2.2.1
def zSt.Wt (X : zSt) : (Nat → Nat → Int) := X.2.2.2.1
def zSt.bt (X : zSt) : Prop := X.2.2.2.2.1
def zSt.bo (X : zSt) : (Nat → Nat → Int) := X.2.2.2.2.2.1
def zSt.wo (X : zSt) : (Nat → Nat → Int) := X.2.2.2.2.2.2.1
def zSt.Wo (X : zSt) : (Nat → Nat → Int) := X.2.2.2.2.2.2.2.1
def zSt.mk (X : zSt) : (Nat → Prop) := X.2.2.2.2.2.2.2.2.1
def zSt.sn (X : zSt) : Nat := X.2.2.2.2.2.2.2.2.2.1
def zSt.pk (X : zSt) : Nat := X.2.2.2.2.2.2.2.2.2.2.1
def zSt.P (X : zSt) : (Nat → Int) := X.2.2.2.2.2.2.2.2.2.2.2.1
def zSt.G (X : zSt) : (Nat → Int) := X.2.2.2.2.2.2.2.2.2.2.2.2.1
def zSt.U (X : zSt) : (Nat → Int) := X.2.2.2.2.2.2.2.2.2.2.2.2.2
/-- what always holds; B: how many calls there were -/
def zOK (X : zSt) (B : Nat) : Prop := 1 ≤ X.n ∧ X.n ≤ 40 ∧ zn_ok X.n X.bh X.wt X.Wt ∧ (X.bt → zBt X.n X.bo X.wo X.Wo X.mk) ∧ X.pk = (if X.sn < 16 then X.sn else 16) ∧ (0 < X.pk → X.bt) ∧ (∀ k, k < X.pk → (0 ≤ X.P k ∧ X.P k < X.n) ∧ (0 ≤ X.G k ∧ X.G k < X.n) ∧ 0 ≤ X.U k ∧ X.U k ≤ 1000 * B) ∧ X.sn ≤ B
theorem zOK.up {X : zSt} {B B' : Nat} (h : zOK X B) (hb : B ≤ B') : zOK X B' := by
  obtain ⟨h1, h2, h3, h4, h5, h6, h7, h8⟩ := h
  exact ⟨h1, h2, h3, h4, h5, h6, fun k hk => by have := h7 k hk; omega, by omega⟩
def zs_nodes (X : zSt) (n : Nat) : zSt := (n, fun _ _ => -1, fun _ _ => 0, fun _ _ => 0, False, X.bo, X.wo, X.Wo, X.mk, 0, 0, X.P, X.G, X.U)
def zs_set (X : zSt) (a c qa qc : Nat) (z : Int) : zSt := (X.n, X.bh, q_up2 (q_up2 X.wt a qa z) c qc z, q_up2 (q_up2 X.Wt a c z) c a z, X.bt, X.bo, X.wo, X.Wo, X.mk, X.sn, X.pk, X.P, X.G, X.U)
def zs_join (X : zSt) (a c qa qc : Nat) (z : Int) : zSt := (X.n, q_up2 (q_up2 X.bh a qa c) c qc a, q_up2 (q_up2 (q_up2 (q_up2 X.wt a qa 0) c qc 0) a qa z) c qc z, q_up2 (q_up2 X.Wt a c z) c a z, X.bt, X.bo, X.wo, X.Wo, X.mk, X.sn, X.pk, X.P, X.G, X.U)
def zs_cut (X : zSt) (a c qa qc : Nat) : zSt := (X.n, q_up2 (q_up2 X.bh a qa (-1)) c qc (-1), q_up2 (q_up2 X.wt a qa 0) c qc 0, q_up2 (q_up2 X.Wt a c 0) c a 0, X.bt, X.bo, X.wo, X.Wo, X.mk, X.sn, X.pk, X.P, X.G, X.U)
noncomputable def zs_build (X : zSt) (bk : Nat) : zSt := (X.n, X.bh, X.wt, X.Wt, True, X.bh, X.wt, X.Wt, zMK X.n X.Wt bk, 0, 0, X.P, X.G, X.U)
def zs_send (X : zSt) (a c : Int) : zSt := (X.n, X.bh, X.wt, X.Wt, X.bt, X.bo, X.wo, X.Wo, X.mk, X.sn + 1, if X.pk < 16 then X.pk + 1 else 16, q_up X.P (X.sn % 16) a, q_up X.G (X.sn % 16) c, q_up X.U (X.sn % 16) 0)
def zs_hop (X : zSt) (k : Nat) (y u : Int) : zSt := (X.n, X.bh, X.wt, X.Wt, X.bt, X.bo, X.wo, X.Wo, X.mk, X.sn, X.pk, q_up X.P k y, X.G, q_up X.U k (X.U k + u))
theorem q_up2_2 {M : Nat → Nat → Int} {a b c d x y : Nat} {z : Int} : q_up2 (q_up2 M a b z) c d z x y = if (x = a ∧ y = b) ∨ (x = c ∧ y = d) then z else M x y := by
  unfold q_up2
  by_cases e1 : x = c ∧ y = d
  · rw [if_pos e1, if_pos (Or.inr e1)]
  · rw [if_neg e1]
    by_cases e2 : x = a ∧ y = b
    · rw [if_pos e2, if_pos (Or.inl e2)]
    · rw [if_neg e2, if_neg (by rintro (q | q); exact e2 q; exact e1 q)]
theorem q_up2_4 {M : Nat → Nat → Int} {a b c d x y : Nat} {u z : Int} : q_up2 (q_up2 (q_up2 (q_up2 M a b u) c d u) a b z) c d z x y = if (x = a ∧ y = b) ∨ (x = c ∧ y = d) then z else M x y := by
  rw [q_up2_2, q_up2_2]
  by_cases e : (x = a ∧ y = b) ∨ (x = c ∧ y = d)
  · rw [if_pos e, if_pos e]
  · rw [if_neg e, if_neg e, if_neg e]
theorem q_up2_x {M : Nat → Nat → Int} {a b c d x y : Nat} {u z : Int} (h : a ≠ c) : q_up2 (q_up2 M a b u) c d z x y = if x = a ∧ y = b then u else if x = c ∧ y = d then z else M x y := by
  unfold q_up2
  by_cases e1 : x = a ∧ y = b
  · rw [if_pos e1, if_neg (by omega), if_pos e1]
  · rw [if_neg e1, if_neg e1]
section ZS
variable {X : zSt} {B a c qa qc : Nat} {z : Int}
theorem zOK_nodes (h : zOK X B) {n : Nat} (h1 : 1 ≤ n) (h2 : n ≤ 40) : zOK (zs_nodes X n) B := ⟨h1, h2, zn_new n, fun q => absurd q id, rfl, fun q => absurd q (by show ¬ 0 < 0; omega), fun k hk => absurd hk (by show ¬ k < 0; omega), Nat.zero_le _⟩
theorem zOK_set (h : zOK X B) (ha : a < X.n) (hc : c < X.n) (hac : a ≠ c) (hz : 1 ≤ z) (hz2 : z ≤ 1000) (ea : zp X.bh a c = (qa : Int)) (ec : zp X.bh c a = (qc : Int)) : zOK (zs_set X a c qa qc z) B := by
  obtain ⟨h1, h2, h3, h4⟩ := h
  obtain ⟨p, p1, p2, p3, -⟩ := zp_at (bh := X.bh) (a := a) (b := (c : Int)) (by omega)
  obtain ⟨q, q1, q2, q3, -⟩ := zp_at (bh := X.bh) (a := c) (b := (a : Int)) (by omega)
  have e1 : p = qa := by omega
  have e2 : q = qc := by omega
  subst e1; subst e2
  refine ⟨h1, h2, zn_put h3 ha hc hac p1 q1 hz hz2 (fun r hr hne he => hne (h3.2.2.2.2 a r p ha hr p1 (by omega) (by omega))) (fun r hr hne he => hne (h3.2.2.2.2 c r q hc hr q1 (by omega) (by omega))) (Or.inr p3) (Or.inr q3) (fun x r => ?_) (fun x r => q_up2_2) (fun x y => q_up2_2), h4⟩
  show X.bh x r = _
  by_cases e3 : x = a ∧ r = p
  · rw [if_pos e3, e3.1, e3.2]; exact p3
  · rw [if_neg e3]
    by_cases e4 : x = c ∧ r = q
    · rw [if_pos e4, e4.1, e4.2]; exact q3
    · rw [if_neg e4]
theorem zOK_join (h : zOK X B) (ha : a < X.n) (hc : c < X.n) (hac : a ≠ c) (hz : 1 ≤ z) (hz2 : z ≤ 1000) (h0 : zp X.bh a c = -1) (ea : zp X.bh a (-1) = (qa : Int)) (ec : zp X.bh c (-1) = (qc : Int)) : zOK (zs_join X a c qa qc z) B := by
  obtain ⟨h1, h2, h3, h4⟩ := h
  obtain ⟨p, p1, p2, p3, -⟩ := zp_at (bh := X.bh) (a := a) (b := (-1 : Int)) (by omega)
  obtain ⟨q, q1, q2, q3, -⟩ := zp_at (bh := X.bh) (a := c) (b := (-1 : Int)) (by omega)
  have e1 : p = qa := by omega
  have e2 : q = qc := by omega
  subst e1; subst e2
  have h0' : zp X.bh c a = -1 := by
    have i1 := zp_edge h3 ha hc
    have i2 := zp_edge h3 hc ha
    have i3 := (h3.1.1 a c ha hc).2.2
    by_cases e : zp X.bh c (a : Int) = -1
    · exact e
    · exact absurd h0 (i1.mpr (by rw [i3]; exact i2.mp e))
  exact ⟨h1, h2, zn_put h3 ha hc hac p1 q1 hz hz2 (fun r hr _ => zp_none h0 hr) (fun r hr _ => zp_none h0' hr) (Or.inl p3) (Or.inl q3) (fun x r => q_up2_x hac) (fun x r => q_up2_4) (fun x y => q_up2_2), h4⟩
theorem zOK_cut (h : zOK X B) (ha : a < X.n) (hc : c < X.n) (hac : a ≠ c) (ea : zp X.bh a c = (qa : Int)) (ec : zp X.bh c a = (qc : Int)) : zOK (zs_cut X a c qa qc) B := by
  obtain ⟨h1, h2, h3, h4⟩ := h
  obtain ⟨p, p1, p2, p3, -⟩ := zp_at (bh := X.bh) (a := a) (b := (c : Int)) (by omega)
  obtain ⟨q, q1, q2, q3, -⟩ := zp_at (bh := X.bh) (a := c) (b := (a : Int)) (by omega)
  have e1 : p = qa := by omega
  have e2 : q = qc := by omega
  subst e1; subst e2
  exact ⟨h1, h2, zn_cut h3 ha hc hac p1 q1 p3 q3 (fun x r => q_up2_2) (fun x r => q_up2_2) (fun x y => q_up2_2), h4⟩
theorem zOK_build (h : zOK X B) (hall : zall X.n X.Wt) {bk : Nat} (hb : 1 ≤ bk) : zOK (zs_build X bk) B := by
  obtain ⟨h1, h2, h3, -, -, -, -, -⟩ := h
  exact ⟨h1, h2, h3, fun _ => zMK_Bt h1 h2 h3 hall hb, rfl, fun q => absurd q (by show ¬ 0 < 0; omega), fun k hk => absurd hk (by show ¬ k < 0; omega), Nat.zero_le _⟩
theorem zOK_send (h : zOK X B) (hbt : X.bt) (ha : a < X.n) (hc : c < X.n) : zOK (zs_send X a c) (B + 1) := by
  obtain ⟨h1, h2, h3, h4, h5, h6, h7, h8⟩ := h
  refine ⟨h1, h2, h3, h4, ?_, fun _ => hbt, ?_, ?_⟩
  · show (if X.pk < 16 then X.pk + 1 else 16) = if X.sn + 1 < 16 then X.sn + 1 else 16
    rw [h5]
    by_cases e1 : X.sn < 16
    · rw [if_pos e1, if_pos e1]
      by_cases e2 : X.sn + 1 < 16
      · rw [if_pos e2]
      · rw [if_neg e2]; omega
    · rw [if_neg e1, if_neg (by omega), if_neg (by omega)]
  · intro k hk
    have hk' : k < (if X.pk < 16 then X.pk + 1 else 16) := hk
    show (0 ≤ q_up X.P (X.sn % 16) a k ∧ q_up X.P (X.sn % 16) a k < X.n) ∧ (0 ≤ q_up X.G (X.sn % 16) c k ∧ q_up X.G (X.sn % 16) c k < X.n) ∧ 0 ≤ q_up X.U (X.sn % 16) 0 k ∧ q_up X.U (X.sn % 16) 0 k ≤ 1000 * ((B + 1 : Nat) : Int)
    unfold q_up
    by_cases e : k = X.sn % 16
    · rw [if_pos e, if_pos e, if_pos e]; omega
    · rw [if_neg e, if_neg e, if_neg e]
      have := h7 k (by split at hk' <;> split at h5 <;> omega)
      omega
  · show X.sn + 1 ≤ B + 1
    omega
theorem zOK_hop (h : zOK X B) {k y : Nat} {u : Int} (hk : k < X.pk) (hy : y < X.n) (hu : 0 ≤ u) (hu2 : u ≤ 1000) : zOK (zs_hop X k y u) (B + 1) := by
  obtain ⟨h1, h2, h3, h4, h5, h6, h7, h8⟩ := h
  refine ⟨h1, h2, h3, h4, h5, h6, ?_, ?_⟩
  · intro j hj
    have hj' : j < X.pk := hj
    have o := h7 j hj'
    have ok := h7 k hk
    show (0 ≤ q_up X.P k y j ∧ q_up X.P k y j < X.n) ∧ (0 ≤ X.G j ∧ X.G j < X.n) ∧ 0 ≤ q_up X.U k (X.U k + u) j ∧ q_up X.U k (X.U k + u) j ≤ 1000 * ((B + 1 : Nat) : Int)
    unfold q_up
    by_cases e : j = k
    · rw [if_pos e, if_pos e]; omega
    · rw [if_neg e, if_neg e]; omega
  · show X.sn ≤ B + 1
    omega
end ZS
