/-! ports: the class's lists of ports and the reference's table of weights -/
def zn_ok (n : Nat) (bh wt Wt : Nat → Nat → Int) : Prop :=
  zg_ok n Wt ∧ (∀ a p, a < n → p < 16 → bh a p = -1 ∨ (0 ≤ bh a p ∧ bh a p < n)) ∧
  (∀ a p, a < n → p < 16 → bh a p ≠ -1 → Wt a (bh a p).toNat = wt a p ∧ 0 < wt a p ∧ wt a p ≤ 1000) ∧
  (∀ a b, a < n → b < n → 0 < Wt a b → ∃ p, p < 16 ∧ bh a p = (b : Int)) ∧
  ∀ a p q, a < n → p < 16 → q < 16 → bh a p ≠ -1 → bh a p = bh a q → p = q
/-- the first port of a behind which b is -/
noncomputable def zp (bh : Nat → Nat → Int) (a : Nat) (b : Int) : Int := zf (fun p => bh a p = b) 16
theorem zp_range (bh : Nat → Nat → Int) (a : Nat) (b : Int) : zp bh a b = -1 ∨ (0 ≤ zp bh a b ∧ zp bh a b < 16) := zf_range _ 16
theorem zp_at {bh : Nat → Nat → Int} {a : Nat} {b : Int} (h : zp bh a b ≠ -1) : ∃ p : Nat, p < 16 ∧ zp bh a b = (p : Int) ∧ bh a p = b ∧ ∀ q, q < p → bh a q ≠ b := by
  rcases zf_spec (fun p => bh a p = b) 16 with ⟨i, h1, h2, h3, h4⟩ | ⟨h1, h2⟩
  · exact ⟨i, h1, h2, h3, h4⟩
  · exact absurd h1 h
theorem zp_none {bh : Nat → Nat → Int} {a : Nat} {b : Int} (h : zp bh a b = -1) {p : Nat} (hp : p < 16) : bh a p ≠ b := by
  intro e
  rcases zf_spec (fun p => bh a p = b) 16 with ⟨i, h1, h2, h3, h4⟩ | ⟨h1, h2⟩
  · have : zp bh a b = (i : Int) := h2
    omega
  · exact h2 p hp e
/-- an edge has just one port -/
theorem zp_edge {n : Nat} {bh wt Wt : Nat → Nat → Int} (h : zn_ok n bh wt Wt) {a b : Nat} (ha : a < n) (hb : b < n) : (zp bh a (b : Int) ≠ -1 ↔ 0 < Wt a b) := by
  obtain ⟨hg, h1, h2, h3, h4⟩ := h
  constructor
  · intro hz
    obtain ⟨p, hp, e, hbp, hl⟩ := zp_at hz
    have := h2 a p ha hp (by omega)
    rw [hbp] at this
    simp only [Int.toNat_natCast] at this
    omega
  · intro hw hz
    obtain ⟨p, hp, e⟩ := h3 a b ha hb hw
    exact zp_none hz hp e
theorem zp_wt {n : Nat} {bh wt Wt : Nat → Nat → Int} (h : zn_ok n bh wt Wt) {a b p : Nat} (ha : a < n) (hp : p < 16) (e : bh a p = (b : Int)) : wt a p = Wt a b := by
  have := (h.2.2.1 a p ha hp (by omega)).1
  rw [e] at this
  simp only [Int.toNat_natCast] at this
  exact this.symm
theorem zp_one {n : Nat} {bh wt Wt : Nat → Nat → Int} (h : zn_ok n bh wt Wt) {a b p : Nat} (ha : a < n) (hp : p < 16) (e : bh a p = (b : Int)) : zp bh a (b : Int) = (p : Int) := by
  refine (zf_eq (Or.inl ⟨p, hp, rfl, e, fun j hj hj2 => ?_⟩)).symm
  have := h.2.2.2.2 a p j ha hp (by omega) (by omega) (by rw [e, hj2])
  omega
/-- the next node towards another, as the reference has it -/
noncomputable def ztw (n : Nat) (Wt d : Nat → Nat → Int) (a b : Nat) : Int := zf (fun c => 0 < Wt a c ∧ Wt a c + d c b = d a b) n
/-- as the class finds it, over the ports: V p, the port p leads nearer -/
def zt_is (bh wt d : Nat → Nat → Int) (a b : Nat) (k : Nat) (r : Int) : Prop :=
  (r = -1 ∧ ∀ p, p < k → ¬ (bh a p ≠ -1 ∧ wt a p + d (bh a p).toNat b = d a b)) ∨
  (∃ p, p < k ∧ (bh a p ≠ -1 ∧ wt a p + d (bh a p).toNat b = d a b) ∧ r = bh a p ∧ ∀ q, q < k → (bh a q ≠ -1 ∧ wt a q + d (bh a q).toNat b = d a b) → bh a p ≤ bh a q)
theorem zt_eq {n : Nat} {bh wt Wt d : Nat → Nat → Int} (h : zn_ok n bh wt Wt) {a b : Nat} (ha : a < n) {r : Int} (hr : zt_is bh wt d a b 16 r) : r = ztw n Wt d a b := by
  refine zf_eq ?_
  have key : ∀ c, c < n → (0 < Wt a c ∧ Wt a c + d c b = d a b) → ∃ p, p < 16 ∧ bh a p = (c : Int) ∧ (bh a p ≠ -1 ∧ wt a p + d (bh a p).toNat b = d a b) := by
    intro c hc hw
    obtain ⟨p, hp, e⟩ := h.2.2.2.1 a c ha hc hw.1
    refine ⟨p, hp, e, by omega, ?_⟩
    rw [zp_wt h ha hp e, e]
    simp only [Int.toNat_natCast]
    exact hw.2
  rcases hr with ⟨h1, h2⟩ | ⟨p, hp, hv, he, hl⟩
  · refine Or.inr ⟨h1, fun c hc hw => ?_⟩
    obtain ⟨p, hp, -, hv⟩ := key c hc hw
    exact h2 p hp hv
  · have hb := h.2.1 a p ha hp
    obtain ⟨c, hc⟩ : ∃ c : Nat, bh a p = (c : Int) := ⟨(bh a p).toNat, by omega⟩
    have hcn : c < n := by omega
    have hw := h.2.2.1 a p ha hp hv.1
    rw [hc] at hw
    simp only [Int.toNat_natCast] at hw
    refine Or.inl ⟨c, hcn, by rw [he, hc], ⟨by omega, ?_⟩, fun j hj hw2 => ?_⟩
    · have := hv.2
      rw [hc] at this
      simp only [Int.toNat_natCast] at this
      rw [hw.1]
      exact this
    · obtain ⟨q, hq, e, hv2⟩ := key j (by omega) hw2
      have := hl q hq hv2
      omega
/-- in a joined network a node that isn't there yet has a next one, nearer by an edge -/
theorem ztw_some {n : Nat} {Wt : Nat → Nat → Int} (hg : zg_ok n Wt) (hall : ∀ x y, x < n → y < n → zd n Wt x y < 1000000) {a b : Nat} (ha : a < n) (hb : b < n) (hne : a ≠ b) :
    ∃ c : Nat, c < n ∧ ztw n Wt (zd n Wt) a b = (c : Int) ∧ 0 < Wt a c ∧ Wt a c + zd n Wt c b = zd n Wt a b := by
  obtain ⟨c, hc, hw, he⟩ := zd_last hg hb ha (fun q => hne q.symm) (hall b a hb ha)
  obtain ⟨i, h1, h2, h3, -⟩ := zf_some (P := fun c => 0 < Wt a c ∧ Wt a c + zd n Wt c b = zd n Wt a b) (n := n) ⟨c, hc, by rw [← (hg.1 c a hc ha).2.2]; exact hw, by
    rw [zd_sym hg hc hb, zd_sym hg ha hb, ← (hg.1 c a hc ha).2.2, he, Int.add_comm]⟩
  exact ⟨i, h1, h2, h3.1, h3.2⟩
theorem ztw_self {n : Nat} {Wt : Nat → Nat → Int} (hg : zg_ok n Wt) {a : Nat} (ha : a < n) : ztw n Wt (zd n Wt) a a = -1 := by
  refine zf_none (fun c hc hw => ?_)
  have := zd_bd hg hc ha
  have := zd_aa hg ha
  omega
