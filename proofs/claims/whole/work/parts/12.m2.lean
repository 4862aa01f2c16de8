/-! least weights: the reference's closing over middle nodes, phase by phase; and what makes a table of least weights one -/
def zm (x y : Int) : Int := if x < y then x else y
theorem zm_l (x y : Int) : zm x y ≤ x := by unfold zm; split <;> omega
theorem zm_r (x y : Int) : zm x y ≤ y := by unfold zm; split <;> omega
theorem zm_or (x y : Int) : zm x y = x ∨ zm x y = y := by unfold zm; split <;> simp
/-- a network's weights: 0 where there is no edge -/
def zg_ok (n : Nat) (Wt : Nat → Nat → Int) : Prop := (∀ a b, a < n → b < n → 0 ≤ Wt a b ∧ Wt a b ≤ 1000 ∧ Wt a b = Wt b a) ∧ ∀ a, a < n → Wt a a = 0
def zw0 (Wt : Nat → Nat → Int) : Nat → Nat → Int := fun a b => if a = b then 0 else if 0 < Wt a b then Wt a b else 1000000
def zw (Wt : Nat → Nat → Int) : Nat → Nat → Nat → Int
  | 0 => zw0 Wt
  | k + 1 => fun a b => zm (zw Wt k a k + zw Wt k k b) (zw Wt k a b)
theorem zw_s (Wt : Nat → Nat → Int) (k a b : Nat) : zw Wt (k + 1) a b = zm (zw Wt k a k + zw Wt k k b) (zw Wt k a b) := rfl
theorem zw_bd {n : Nat} {Wt : Nat → Nat → Int} (hg : zg_ok n Wt) : ∀ (k : Nat), k ≤ n → ∀ a b, a < n → b < n → 0 ≤ zw Wt k a b ∧ zw Wt k a b ≤ 1000000 := by
  intro k
  induction k with
  | zero =>
    intro _ a b ha hb
    have h := hg.1 a b ha hb
    show 0 ≤ zw0 Wt a b ∧ zw0 Wt a b ≤ 1000000
    unfold zw0
    split
    · omega
    · split <;> omega
  | succ k ih =>
    intro hk a b ha hb
    have h1 := ih (by omega) a b ha hb
    have h2 := ih (by omega) a k ha (by omega)
    have h3 := ih (by omega) k b (by omega) hb
    rw [zw_s]
    have h4 := zm_r (zw Wt k a k + zw Wt k k b) (zw Wt k a b)
    rcases zm_or (zw Wt k a k + zw Wt k k b) (zw Wt k a b) with q | q <;> rw [q] at h4 ⊢ <;> omega
theorem zw_aa {n : Nat} {Wt : Nat → Nat → Int} (hg : zg_ok n Wt) : ∀ (k : Nat), k ≤ n → ∀ a, a < n → zw Wt k a a = 0 := by
  intro k
  induction k with
  | zero => intro _ a _; show zw0 Wt a a = 0; unfold zw0; simp
  | succ k ih =>
    intro hk a ha
    have h1 := ih (by omega) a ha
    have h2 := zw_bd hg k (by omega) a k ha (by omega)
    have h3 := zw_bd hg k (by omega) k a (by omega) ha
    rw [zw_s, h1]
    unfold zm
    split <;> omega
/-- row k and column k stay in phase k -/
theorem zw_col {n : Nat} {Wt : Nat → Nat → Int} (hg : zg_ok n Wt) {k a : Nat} (hk : k < n) : zw Wt (k + 1) a k = zw Wt k a k := by
  have h1 := zw_aa hg k (by omega) k hk
  rw [zw_s, h1]
  unfold zm
  split <;> omega
theorem zw_row {n : Nat} {Wt : Nat → Nat → Int} (hg : zg_ok n Wt) {k b : Nat} (hk : k < n) : zw Wt (k + 1) k b = zw Wt k k b := by
  have h1 := zw_aa hg k (by omega) k hk
  rw [zw_s, h1]
  unfold zm
  split <;> omega
theorem zw_sym {n : Nat} {Wt : Nat → Nat → Int} (hg : zg_ok n Wt) : ∀ (k : Nat), k ≤ n → ∀ a b, a < n → b < n → zw Wt k a b = zw Wt k b a := by
  intro k
  induction k with
  | zero =>
    intro _ a b ha hb
    show zw0 Wt a b = zw0 Wt b a
    unfold zw0
    have h := (hg.1 a b ha hb).2.2
    by_cases e : a = b
    · subst e; rfl
    · rw [if_neg e, if_neg (show ¬ b = a from fun q => e q.symm), h]
  | succ k ih =>
    intro hk a b ha hb
    rw [zw_s, zw_s, ih (by omega) a b ha hb, ih (by omega) a k ha (by omega), ih (by omega) k b (by omega) hb, Int.add_comm]
theorem zw_mono {Wt : Nat → Nat → Int} (k a b : Nat) : zw Wt (k + 1) a b ≤ zw Wt k a b := by rw [zw_s]; exact zm_r _ _
theorem zw_le0 {Wt : Nat → Nat → Int} (k a b : Nat) : zw Wt k a b ≤ zw0 Wt a b := by
  induction k with
  | zero => exact Int.le_refl _
  | succ k ih => exact Int.le_trans (zw_mono k a b) ih
/-- what phase k closes -/
theorem zw_tri {n : Nat} {Wt : Nat → Nat → Int} (hg : zg_ok n Wt) : ∀ (k : Nat), k ≤ n → ∀ j, j < k → ∀ a b, a < n → b < n → zw Wt k a b ≤ zw Wt k a j + zw Wt k j b := by
  intro k
  induction k with
  | zero => intro _ j hj; omega
  | succ k ih =>
    intro hk j hj a b ha hb
    have kk : k < n := by omega
    rcases Nat.lt_or_ge j k with q | q
    · have jj : j < n := by omega
      have t1 := ih (by omega) j q a b ha hb
      have t2 := ih (by omega) j q k b kk hb
      have t3 := ih (by omega) j q a k ha kk
      have t4 := ih (by omega) j q k k kk kk
      have n1 := zw_bd hg k (by omega) k j kk jj
      have n2 := zw_bd hg k (by omega) j k jj kk
      have l1 : zw Wt (k + 1) a b ≤ zw Wt k a k + zw Wt k k b := by rw [zw_s]; exact zm_l _ _
      have l2 : zw Wt (k + 1) a b ≤ zw Wt k a b := zw_mono k a b
      have c1 : zw Wt (k + 1) a j = zw Wt k a k + zw Wt k k j ∨ zw Wt (k + 1) a j = zw Wt k a j := by rw [zw_s]; exact zm_or _ _
      have c2 : zw Wt (k + 1) j b = zw Wt k j k + zw Wt k k b ∨ zw Wt (k + 1) j b = zw Wt k j b := by rw [zw_s]; exact zm_or _ _
      rcases c1 with c1 | c1 <;> rcases c2 with c2 | c2 <;> rw [c1, c2] <;> omega
    · have e : j = k := by omega
      subst e
      rw [zw_col hg kk, zw_row hg kk, zw_s]
      exact zm_l _ _
/-- each finite entry has a last edge -/
theorem zw_last {n : Nat} {Wt : Nat → Nat → Int} (hg : zg_ok n Wt) : ∀ (k : Nat), k ≤ n → ∀ a b, a < n → b < n → a ≠ b → zw Wt k a b < 1000000 → ∃ c, c < n ∧ 0 < Wt c b ∧ zw Wt k a c + Wt c b ≤ zw Wt k a b := by
  intro k
  induction k with
  | zero =>
    intro _ a b ha hb hne hlt
    have e : zw Wt 0 a b = if 0 < Wt a b then Wt a b else 1000000 := by
      show zw0 Wt a b = _
      unfold zw0
      rw [if_neg hne]
    rw [e] at hlt ⊢
    by_cases hp : 0 < Wt a b
    · rw [if_pos hp] at hlt ⊢
      refine ⟨a, ha, hp, ?_⟩
      rw [zw_aa hg 0 (by omega) a ha]
      omega
    · rw [if_neg hp] at hlt
      omega
  | succ k ih =>
    intro hk a b ha hb hne hlt
    have kk : k < n := by omega
    have ek : zw Wt (k + 1) a b = zw Wt k a k + zw Wt k k b ∨ zw Wt (k + 1) a b = zw Wt k a b := by rw [zw_s]; exact zm_or _ _
    by_cases e : zw Wt (k + 1) a b = zw Wt k a b
    · rw [e] at hlt ⊢
      obtain ⟨c, hc, hw, hl⟩ := ih (by omega) a b ha hb hne hlt
      have := zw_mono (Wt := Wt) k a c
      exact ⟨c, hc, hw, by omega⟩
    · have e2 : zw Wt (k + 1) a b = zw Wt k a k + zw Wt k k b := by
        rcases ek with q | q
        · exact q
        · exact absurd q e
      have hkb : k ≠ b := by
        intro q
        subst q
        rw [zw_aa hg k (by omega) k kk] at e2
        omega
      have n1 := zw_bd hg k (by omega) a k ha kk
      obtain ⟨c, hc, hw, hl⟩ := ih (by omega) k b kk hb hkb (by omega)
      have t : zw Wt (k + 1) a c ≤ zw Wt k a k + zw Wt k k c := by rw [zw_s]; exact zm_l _ _
      exact ⟨c, hc, hw, by omega⟩
/-- the least weights; 1000000: no way -/
def zd (n : Nat) (Wt : Nat → Nat → Int) : Nat → Nat → Int := zw Wt n
theorem zd_bd {n : Nat} {Wt : Nat → Nat → Int} (hg : zg_ok n Wt) {a b : Nat} (ha : a < n) (hb : b < n) : 0 ≤ zd n Wt a b ∧ zd n Wt a b ≤ 1000000 := zw_bd hg n (Nat.le_refl n) a b ha hb
theorem zd_aa {n : Nat} {Wt : Nat → Nat → Int} (hg : zg_ok n Wt) {a : Nat} (ha : a < n) : zd n Wt a a = 0 := zw_aa hg n (Nat.le_refl n) a ha
theorem zd_sym {n : Nat} {Wt : Nat → Nat → Int} (hg : zg_ok n Wt) {a b : Nat} (ha : a < n) (hb : b < n) : zd n Wt a b = zd n Wt b a := zw_sym hg n (Nat.le_refl n) a b ha hb
theorem zd_tri {n : Nat} {Wt : Nat → Nat → Int} (hg : zg_ok n Wt) {a b j : Nat} (ha : a < n) (hb : b < n) (hj : j < n) : zd n Wt a b ≤ zd n Wt a j + zd n Wt j b := zw_tri hg n (Nat.le_refl n) j hj a b ha hb
theorem zd_edge {n : Nat} {Wt : Nat → Nat → Int} (hg : zg_ok n Wt) {a b c : Nat} (ha : a < n) (hb : b < n) (hc : c < n) (hw : 0 < Wt c b) : zd n Wt a b ≤ zd n Wt a c + Wt c b := by
  have h1 := zd_tri hg ha hb hc
  have h2 : zd n Wt c b ≤ zw0 Wt c b := zw_le0 n c b
  have hne : c ≠ b := by
    intro q
    subst q
    rw [hg.2 c hc] at hw
    omega
  unfold zw0 at h2
  rw [if_neg hne, if_pos hw] at h2
  omega
theorem zd_last {n : Nat} {Wt : Nat → Nat → Int} (hg : zg_ok n Wt) {a b : Nat} (ha : a < n) (hb : b < n) (hne : a ≠ b) (hlt : zd n Wt a b < 1000000) : ∃ c, c < n ∧ 0 < Wt c b ∧ zd n Wt a b = zd n Wt a c + Wt c b := by
  obtain ⟨c, hc, hw, hl⟩ := zw_last hg n (Nat.le_refl n) a b ha hb hne hlt
  have h := zd_edge hg ha hb hc hw
  exact ⟨c, hc, hw, Int.le_antisymm h hl⟩
theorem zd_pos {n : Nat} {Wt : Nat → Nat → Int} (hg : zg_ok n Wt) {a b : Nat} (ha : a < n) (hb : b < n) (hne : a ≠ b) : 0 < zd n Wt a b := by
  by_cases hlt : zd n Wt a b < 1000000
  · obtain ⟨c, hc, hw, he⟩ := zd_last hg ha hb hne hlt
    have := zd_bd hg ha hc
    omega
  · omega
/-- what the class's measuring from a node comes to: -1 where there is no way -/
def zl_ok (n : Nat) (Wt : Nat → Nat → Int) (from_ : Nat) (F : Nat → Int) : Prop :=
  F from_ = 0 ∧ (∀ b, b < n → -1 ≤ F b ∧ F b < 1000000) ∧ (∀ c b, c < n → b < n → F c ≠ -1 → 0 < Wt c b → F b ≠ -1 ∧ F b ≤ F c + Wt c b) ∧
  ∀ b, b < n → b ≠ from_ → F b ≠ -1 → ∃ c, c < n ∧ 0 < Wt c b ∧ F c ≠ -1 ∧ F b = F c + Wt c b
/-- the two say the same -/
theorem zl_eq {n : Nat} {Wt : Nat → Nat → Int} (hg : zg_ok n Wt) {a : Nat} (ha : a < n) {F : Nat → Int} (h : zl_ok n Wt a F) {b : Nat} (hb : b < n) : F b = if zd n Wt a b < 1000000 then zd n Wt a b else -1 := by
  obtain ⟨h0, hbd, he, hl⟩ := h
  have up : ∀ (k : Nat) (b : Nat), b < n → zd n Wt a b < 1000000 → zd n Wt a b < (k : Int) → F b ≠ -1 ∧ F b ≤ zd n Wt a b := by
    intro k
    induction k with
    | zero =>
      intro b hb h1 h2
      have := zd_bd hg ha hb
      omega
    | succ k ih =>
      intro b hb h1 h2
      by_cases e : a = b
      · subst e
        rw [h0, zd_aa hg ha]
        omega
      · obtain ⟨c, hc, hw, hd⟩ := zd_last hg ha hb e h1
        obtain ⟨i1, i2⟩ := ih c hc (by omega) (by omega)
        obtain ⟨j1, j2⟩ := he c b hc hb i1 hw
        exact ⟨j1, by omega⟩
  have dn : ∀ (k : Nat) (b : Nat), b < n → F b ≠ -1 → F b < (k : Int) → zd n Wt a b ≤ F b := by
    intro k
    induction k with
    | zero =>
      intro b hb h1 h2
      have := hbd b hb
      omega
    | succ k ih =>
      intro b hb h1 h2
      by_cases e : b = a
      · subst e
        rw [h0, zd_aa hg ha]
        omega
      · obtain ⟨c, hc, hw, hf, hd⟩ := hl b hb e h1
        have := ih c hc hf (by omega)
        have := zd_edge hg ha hb hc hw
        omega
  have hb1 := hbd b hb
  by_cases hf : F b = -1
  · rw [if_neg, hf]
    intro q
    have := zd_bd hg ha hb
    exact (up (zd n Wt a b).toNat.succ b hb q (by omega)).1 hf
  · have h1 := dn (F b).toNat.succ b hb hf (by omega)
    have h2 : zd n Wt a b < 1000000 := by omega
    have := zd_bd hg ha hb
    rw [if_pos h2]
    have h3 := (up (zd n Wt a b).toNat.succ b hb h2 (by omega)).2
    omega
