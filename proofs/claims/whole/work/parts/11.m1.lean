/-! pure words: the first number with a property, counts, sums -/
noncomputable def zz_dec (P : Prop) : Bool := @decide P (Classical.propDecidable P)
theorem zz_dec_t {P : Prop} (h : P) : zz_dec P = true := by unfold zz_dec; simp [h]
theorem zz_dec_f {P : Prop} (h : ¬ P) : zz_dec P = false := by unfold zz_dec; simp [h]
theorem zz_dec_iff {P : Prop} : zz_dec P = true ↔ P := by unfold zz_dec; simp
/-- r is the first number below n with P, or -1 -/
def zf_is (P : Nat → Prop) (n : Nat) (r : Int) : Prop := (∃ i : Nat, i < n ∧ r = (i : Int) ∧ P i ∧ ∀ j : Nat, j < i → ¬ P j) ∨ (r = -1 ∧ ∀ j : Nat, j < n → ¬ P j)
theorem zf_uniq {P : Nat → Prop} {n : Nat} {r q : Int} (h : zf_is P n r) (g : zf_is P n q) : r = q := by
  rcases h with ⟨i, h1, h2, h3, h4⟩ | ⟨h1, h2⟩ <;> rcases g with ⟨j, g1, g2, g3, g4⟩ | ⟨g1, g2⟩
  · have : i = j := by
      rcases Nat.lt_trichotomy i j with q | q | q
      · exact absurd h3 (g4 i q)
      · exact q
      · exact absurd g3 (h4 j q)
    subst this
    rw [h2, g2]
  · exact absurd h3 (g2 i h1)
  · exact absurd g3 (h2 j g1)
  · rw [h1, g1]
theorem zf_ex (P : Nat → Prop) (n : Nat) : ∃ r, zf_is P n r := by
  induction n with
  | zero => exact ⟨-1, Or.inr ⟨rfl, fun j h => absurd h (Nat.not_lt_zero j)⟩⟩
  | succ n ih =>
    obtain ⟨r, h⟩ := ih
    rcases h with ⟨i, h1, h2, h3, h4⟩ | ⟨h1, h2⟩
    · exact ⟨r, Or.inl ⟨i, by omega, h2, h3, h4⟩⟩
    · by_cases hp : P n
      · exact ⟨(n : Int), Or.inl ⟨n, by omega, rfl, hp, h2⟩⟩
      · refine ⟨-1, Or.inr ⟨rfl, fun j hj => ?_⟩⟩
        rcases Nat.lt_or_ge j n with q | q
        · exact h2 j q
        · have : j = n := by omega
          subst this
          exact hp
noncomputable def zf (P : Nat → Prop) (n : Nat) : Int := Classical.choose (zf_ex P n)
theorem zf_spec (P : Nat → Prop) (n : Nat) : zf_is P n (zf P n) := Classical.choose_spec (zf_ex P n)
theorem zf_eq {P : Nat → Prop} {n : Nat} {r : Int} (h : zf_is P n r) : r = zf P n := zf_uniq h (zf_spec P n)
theorem zf_congr {P Q : Nat → Prop} {n : Nat} (h : ∀ j, j < n → (P j ↔ Q j)) : zf P n = zf Q n := by
  refine zf_eq ?_
  rcases zf_spec P n with ⟨i, h1, h2, h3, h4⟩ | ⟨h1, h2⟩
  · exact Or.inl ⟨i, h1, h2, (h i h1).mp h3, fun j hj hq => h4 j hj ((h j (by omega)).mpr hq)⟩
  · exact Or.inr ⟨h1, fun j hj hq => h2 j hj ((h j hj).mpr hq)⟩
theorem zf_found {P : Nat → Prop} {n i : Nat} (hi : i < n) (hp : P i) (hl : ∀ j, j < i → ¬ P j) : zf P n = (i : Int) := (zf_eq (Or.inl ⟨i, hi, rfl, hp, hl⟩)).symm
theorem zf_none {P : Nat → Prop} {n : Nat} (h : ∀ j, j < n → ¬ P j) : zf P n = -1 := (zf_eq (Or.inr ⟨rfl, h⟩)).symm
theorem zf_some {P : Nat → Prop} {n : Nat} (h : ∃ j, j < n ∧ P j) : ∃ i : Nat, i < n ∧ zf P n = (i : Int) ∧ P i ∧ ∀ j, j < i → ¬ P j := by
  rcases zf_spec P n with ⟨i, h1, h2, h3, h4⟩ | ⟨h1, h2⟩
  · exact ⟨i, h1, h2, h3, h4⟩
  · obtain ⟨j, hj, hp⟩ := h
    exact absurd hp (h2 j hj)
theorem zf_range (P : Nat → Prop) (n : Nat) : zf P n = -1 ∨ (0 ≤ zf P n ∧ zf P n < n) := by
  rcases zf_spec P n with ⟨i, h1, h2, h3, h4⟩ | ⟨h1, h2⟩
  · right; omega
  · exact Or.inl h1
/-- how many below n have P -/
noncomputable def zc (P : Nat → Prop) : Nat → Nat
  | 0 => 0
  | n + 1 => zc P n + (if zz_dec (P n) = true then 1 else 0)
theorem zc_t {P : Nat → Prop} {n : Nat} (h : P n) : zc P (n + 1) = zc P n + 1 := by simp [zc, zz_dec_t h]
theorem zc_f {P : Nat → Prop} {n : Nat} (h : ¬ P n) : zc P (n + 1) = zc P n := by simp [zc, zz_dec_f h]
theorem zc_le (P : Nat → Prop) (n : Nat) : zc P n ≤ n := by
  induction n with
  | zero => exact Nat.le_refl 0
  | succ n ih =>
    by_cases h : P n
    · rw [zc_t h]; omega
    · rw [zc_f h]; omega
theorem zc_congr {P Q : Nat → Prop} {n : Nat} (h : ∀ j, j < n → (P j ↔ Q j)) : zc P n = zc Q n := by
  induction n with
  | zero => rfl
  | succ n ih =>
    have e := ih (fun j hj => h j (by omega))
    by_cases hp : P n
    · rw [zc_t hp, zc_t ((h n (by omega)).mp hp), e]
    · rw [zc_f hp, zc_f (fun q => hp ((h n (by omega)).mpr q)), e]
theorem zc_mono {P Q : Nat → Prop} {n : Nat} (h : ∀ j, j < n → P j → Q j) : zc P n ≤ zc Q n := by
  induction n with
  | zero => exact Nat.le_refl _
  | succ n ih =>
    have e := ih (fun j hj => h j (by omega))
    by_cases hp : P n
    · rw [zc_t hp, zc_t (h n (by omega) hp)]; omega
    · rw [zc_f hp]
      by_cases hq : Q n
      · rw [zc_t hq]; omega
      · rw [zc_f hq]; omega
theorem zc_zero {P : Nat → Prop} {n : Nat} (h : ∀ j, j < n → ¬ P j) : zc P n = 0 := by
  induction n with
  | zero => rfl
  | succ n ih => rw [zc_f (h n (by omega)), ih (fun j hj => h j (by omega))]
theorem zc_pos {P : Nat → Prop} {n i : Nat} (hi : i < n) (hp : P i) : 0 < zc P n := by
  induction n with
  | zero => omega
  | succ n ih =>
    by_cases hq : P n
    · rw [zc_t hq]; omega
    · rw [zc_f hq]
      refine ih ?_
      rcases Nat.lt_or_ge i n with q | q
      · exact q
      · have : i = n := by omega
        subst this
        exact absurd hp hq
theorem zc_ex {P : Nat → Prop} {n : Nat} (h : 0 < zc P n) : ∃ i, i < n ∧ P i := by
  induction n with
  | zero => simp [zc] at h
  | succ n ih =>
    by_cases hq : P n
    · exact ⟨n, by omega, hq⟩
    · rw [zc_f hq] at h
      obtain ⟨i, h1, h2⟩ := ih h
      exact ⟨i, by omega, h2⟩
/-- apart: counts add up -/
theorem zc_or {P Q : Nat → Prop} {n : Nat} (h : ∀ j, j < n → P j → ¬ Q j) : zc (fun j => P j ∨ Q j) n = zc P n + zc Q n := by
  induction n with
  | zero => rfl
  | succ n ih =>
    have e := ih (fun j hj => h j (by omega))
    by_cases hp : P n
    · rw [zc_t (P := fun j => P j ∨ Q j) (Or.inl hp), zc_t hp, zc_f (h n (by omega) hp), e]; omega
    · by_cases hq : Q n
      · rw [zc_t (P := fun j => P j ∨ Q j) (Or.inr hq), zc_f hp, zc_t hq, e]; omega
      · rw [zc_f (P := fun j => P j ∨ Q j) (fun q => q.elim hp hq), zc_f hp, zc_f hq, e]
theorem zc_one {n i : Nat} (hi : i < n) : zc (fun j => j = i) n = 1 := by
  induction n with
  | zero => omega
  | succ n ih =>
    by_cases hq : n = i
    · rw [zc_t (P := fun j => j = i) hq, zc_zero (fun j hj h => by omega)]
    · rw [zc_f (P := fun j => j = i) hq]
      exact ih (by omega)
/-- strictly fewer -/
theorem zc_lt {P Q : Nat → Prop} {n i : Nat} (h : ∀ j, j < n → P j → Q j) (hi : i < n) (hp : ¬ P i) (hq : Q i) : zc P n < zc Q n := by
  have h1 : zc (fun j => P j ∨ j = i) n = zc P n + zc (fun j => j = i) n := zc_or (fun j _ hj e => hp (e ▸ hj))
  have h2 : zc (fun j => P j ∨ j = i) n ≤ zc Q n := zc_mono (fun j hj x => x.elim (h j hj) (fun e => e ▸ hq))
  rw [h1, zc_one hi] at h2
  omega
/-- the images of an injection are as many -/
theorem zc_img {n : Nat} (o : Nat → Nat) (k : Nat) (ho : ∀ i, i < k → o i < n) (hinj : ∀ i j, i < k → j < k → o i = o j → i = j) : zc (fun c => ∃ j, j < k ∧ o j = c) n = k := by
  induction k with
  | zero => exact zc_zero (fun j _ ⟨i, h, _⟩ => absurd h (Nat.not_lt_zero i))
  | succ k ih =>
    have e := ih (fun i hi => ho i (by omega)) (fun i j hi hj => hinj i j (by omega) (by omega))
    have h1 : zc (fun c => (∃ j, j < k ∧ o j = c) ∨ c = o k) n = zc (fun c => ∃ j, j < k ∧ o j = c) n + zc (fun c => c = o k) n :=
      zc_or (fun c _ ⟨j, hj, hc⟩ e => by
        have := hinj j k (by omega) (by omega) (by rw [hc, e])
        omega)
    rw [e, zc_one (ho k (by omega))] at h1
    rw [← h1]
    refine zc_congr (fun c _ => ⟨fun ⟨j, hj, hc⟩ => ?_, fun h => ?_⟩)
    · rcases Nat.lt_or_ge j k with q | q
      · exact Or.inl ⟨j, q, hc⟩
      · have : j = k := by omega
        subst this
        exact Or.inr hc.symm
    · rcases h with ⟨j, hj, hc⟩ | h
      · exact ⟨j, by omega, hc⟩
      · exact ⟨k, by omega, h.symm⟩
/-- sums -/
def zs (f : Nat → Int) : Nat → Int
  | 0 => 0
  | n + 1 => zs f n + f n
theorem zs_congr {f g : Nat → Int} {n : Nat} (h : ∀ j, j < n → f j = g j) : zs f n = zs g n := by
  induction n with
  | zero => rfl
  | succ n ih => simp only [zs]; rw [ih (fun j hj => h j (by omega)), h n (by omega)]
