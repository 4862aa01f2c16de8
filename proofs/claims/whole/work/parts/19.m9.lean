/-! the choice of landmarks -/
section ZM
variable (n : Nat) (ball : Nat → Nat → Prop)
def zsv (M : Nat → Prop) (a : Nat) : Prop := ∃ v, v < n ∧ M v ∧ ball a v
noncomputable def zib (M : Nat → Prop) (v : Nat) : Nat := zc (fun a => ¬ zsv n ball M a ∧ ball a v) n
noncomputable def zbest (M : Nat → Prop) : Int := zf (fun v => 0 < zib n ball M v ∧ ∀ u, u < n → zib n ball M u ≤ zib n ball M v) n
noncomputable def zM : Nat → Nat → Prop
  | 0 => fun _ => False
  | k + 1 => fun v => zM k v ∨ (v : Int) = zbest n ball (zM k)
end ZM
section ZM2
variable {n : Nat} {ball : Nat → Nat → Prop}
/-- a greatest one, the lowest -/
theorem zmax (f : Nat → Nat) (n : Nat) : (∀ v, v < n → f v = 0) ∨ ∃ b, b < n ∧ 0 < f b ∧ ∀ u, u < n → f u ≤ f b := by
  induction n with
  | zero => exact Or.inl (fun v h => absurd h (Nat.not_lt_zero v))
  | succ n ih =>
    rcases ih with h | ⟨b, b1, b2, b3⟩
    · by_cases e : f n = 0
      · left
        intro v hv
        by_cases e2 : v = n
        · rw [e2]; exact e
        · exact h v (by omega)
      · right
        refine ⟨n, by omega, by omega, fun u hu => ?_⟩
        by_cases e2 : u = n
        · rw [e2]; exact Nat.le_refl _
        · rw [h u (by omega)]; omega
    · right
      by_cases e : f n ≤ f b
      · refine ⟨b, by omega, b2, fun u hu => ?_⟩
        by_cases e2 : u = n
        · rw [e2]; exact e
        · exact b3 u (by omega)
      · refine ⟨n, by omega, by omega, fun u hu => ?_⟩
        by_cases e2 : u = n
        · rw [e2]; exact Nat.le_refl _
        · have := b3 u (by omega); omega
theorem zbest_none {M : Nat → Prop} (h : zbest n ball M = -1) {v : Nat} (hv : v < n) : zib n ball M v = 0 := by
  rcases zmax (zib n ball M) n with q | ⟨b, b1, b2, b3⟩
  · exact q v hv
  · obtain ⟨i, h1, h2, -⟩ := zf_some (P := fun v => 0 < zib n ball M v ∧ ∀ u, u < n → zib n ball M u ≤ zib n ball M v) (n := n) ⟨b, b1, b2, b3⟩
    have : zbest n ball M = (i : Int) := h2
    omega
theorem zbest_zero {M : Nat → Prop} (h : ∀ v, v < n → zib n ball M v = 0) : zbest n ball M = -1 := zf_none (fun v hv q => by have := h v hv; omega)
theorem zbest_some {M : Nat → Prop} (h : zbest n ball M ≠ -1) : ∃ b : Nat, b < n ∧ zbest n ball M = (b : Int) ∧ 0 < zib n ball M b ∧ (∀ u, u < n → zib n ball M u ≤ zib n ball M b) ∧ ∀ u, u < b → zib n ball M u < zib n ball M b := by
  rcases zf_spec (fun v => 0 < zib n ball M v ∧ ∀ u, u < n → zib n ball M u ≤ zib n ball M v) n with ⟨i, h1, h2, h3, h4⟩ | ⟨h1, h2⟩
  · refine ⟨i, h1, h2, h3.1, h3.2, fun u hu => ?_⟩
    have h5 := h3.2 u (by omega)
    rcases Nat.lt_or_ge (zib n ball M u) (zib n ball M i) with q | q
    · exact q
    · have e : zib n ball M u = zib n ball M i := Nat.le_antisymm h5 q
      exact absurd ⟨by rw [e]; exact h3.1, by rw [e]; exact h3.2⟩ (h4 u hu)
  · exact absurd h1 h
theorem zbest_is {M : Nat → Prop} {b : Nat} (hb : b < n) (h0 : 0 < zib n ball M b) (h1 : ∀ u, u < n → zib n ball M u ≤ zib n ball M b) (h2 : ∀ u, u < b → zib n ball M u < zib n ball M b) : zbest n ball M = (b : Int) :=
  zf_found hb ⟨h0, h1⟩ (fun u hu q => by have := h2 u hu; have := q.2 b hb; omega)
theorem zib_congr {M M' : Nat → Prop} (h : ∀ v, v < n → (M v ↔ M' v)) (v : Nat) : zib n ball M v = zib n ball M' v := by
  refine zc_congr (fun a _ => ?_)
  have : zsv n ball M a ↔ zsv n ball M' a := ⟨fun ⟨u, u1, u2, u3⟩ => ⟨u, u1, (h u u1).mp u2, u3⟩, fun ⟨u, u1, u2, u3⟩ => ⟨u, u1, (h u u1).mpr u2, u3⟩⟩
  rw [this]
theorem zbest_congr {M M' : Nat → Prop} (h : ∀ v, v < n → (M v ↔ M' v)) : zbest n ball M = zbest n ball M' := by
  refine zf_congr (fun v _ => ?_)
  have e := zib_congr (ball := ball) h
  constructor
  · rintro ⟨a, b⟩; exact ⟨by rw [← e]; exact a, fun u hu => by rw [← e, ← e]; exact b u hu⟩
  · rintro ⟨a, b⟩; exact ⟨by rw [e]; exact a, fun u hu => by rw [e, e]; exact b u hu⟩
theorem zM_s (k v : Nat) : zM n ball (k + 1) v ↔ (zM n ball k v ∨ (v : Int) = zbest n ball (zM n ball k)) := Iff.rfl
/-- where no ball is left, nothing comes any more -/
theorem zM_stop {k : Nat} (h : zbest n ball (zM n ball k) = -1) : ∀ j, ∀ v, zM n ball (k + j) v ↔ zM n ball k v := by
  intro j
  induction j with
  | zero => intro v; exact Iff.rfl
  | succ j ih =>
    intro v
    have e : zbest n ball (zM n ball (k + j)) = -1 := by rw [zbest_congr (fun v _ => ih v)]; exact h
    show (zM n ball (k + j) v ∨ (v : Int) = zbest n ball (zM n ball (k + j))) ↔ _
    rw [e, ih v]
    constructor
    · rintro (q | q)
      · exact q
      · omega
    · exact Or.inl
theorem zib_new {M : Nat → Prop} {b : Nat} (hb : b < n) (h : 0 < zib n ball M b) : ¬ M b := by
  intro hm
  obtain ⟨a, a1, a2, a3⟩ := zc_ex h
  exact a2 ⟨b, hb, hm, a3⟩
theorem zun_falls {M : Nat → Prop} {b : Nat} (hb : b < n) (h : 0 < zib n ball M b) : zc (fun a => ¬ zsv n ball (fun v => M v ∨ v = b) a) n < zc (fun a => ¬ zsv n ball M a) n := by
  obtain ⟨a, a1, a2, a3⟩ := zc_ex h
  exact zc_lt (fun a _ q ⟨v, v1, v2, v3⟩ => q ⟨v, v1, Or.inl v2, v3⟩) a1 (fun q => q ⟨b, hb, Or.inr rfl, a3⟩) a2
/-- k rounds, each with a new landmark -/
theorem zM_go {k : Nat} (h : ∀ j, j < k → zbest n ball (zM n ball j) ≠ -1) : zc (zM n ball k) n = k ∧ zc (fun a => ¬ zsv n ball (zM n ball k) a) n + k ≤ n ∧ ∀ v, zM n ball k v → v < n := by
  induction k with
  | zero => exact ⟨zc_zero (fun _ _ q => q), by have := zc_le (fun a => ¬ zsv n ball (zM n ball 0) a) n; omega, fun v q => q.elim⟩
  | succ k ih =>
    obtain ⟨i1, i2, i3⟩ := ih (fun j hj => h j (by omega))
    obtain ⟨b, b1, b2, b3, -, -⟩ := zbest_some (h k (by omega))
    have hnew := zib_new b1 b3
    have hs : ∀ v, zM n ball (k + 1) v ↔ (zM n ball k v ∨ v = b) := fun v => by
      rw [zM_s, b2]
      constructor
      · rintro (q | q)
        · exact Or.inl q
        · exact Or.inr (by omega)
      · rintro (q | q)
        · exact Or.inl q
        · exact Or.inr (by omega)
    refine ⟨?_, ?_, fun v hv => ?_⟩
    · rw [zc_congr (fun v _ => hs v), zc_or (P := zM n ball k) (Q := fun v => v = b) (fun v _ hv (e : v = b) => hnew (e ▸ hv)), zc_one b1, i1]
    · have h1 := zun_falls b1 b3
      have h2 : zc (fun a => ¬ zsv n ball (zM n ball (k + 1)) a) n = zc (fun a => ¬ zsv n ball (fun v => zM n ball k v ∨ v = b) a) n := by
        refine zc_congr (fun a _ => ?_)
        have : zsv n ball (zM n ball (k + 1)) a ↔ zsv n ball (fun v => zM n ball k v ∨ v = b) a := ⟨fun ⟨u, u1, u2, u3⟩ => ⟨u, u1, (hs u).mp u2, u3⟩, fun ⟨u, u1, u2, u3⟩ => ⟨u, u1, (hs u).mpr u2, u3⟩⟩
        rw [this]
      omega
    · rcases (hs v).mp hv with q | q
      · exact i3 v q
      · omega
theorem zM_end : zbest n ball (zM n ball n) = -1 := by
  refine Classical.byContradiction (fun h => ?_)
  have all : ∀ j, j ≤ n → zbest n ball (zM n ball j) ≠ -1 := by
    intro j hj q
    have := zM_stop q (n - j)
    rw [show j + (n - j) = n by omega] at this
    rw [zbest_congr (fun v _ => this v)] at h
    exact h q
  obtain ⟨h1, h2, h3⟩ := zM_go (n := n) (ball := ball) (k := n) (fun j hj => all j (by omega))
  obtain ⟨b, b1, b2, b3, -, -⟩ := zbest_some h
  obtain ⟨a, a1, a2, a3⟩ := zc_ex b3
  have := zc_pos (P := fun a => ¬ zsv n ball (zM n ball n) a) a1 a2
  omega
/-- all are served in the end; there is a landmark -/
theorem zM_served (hself : ∀ a, a < n → ball a a) : ∀ a, a < n → zsv n ball (zM n ball n) a := by
  intro a ha
  refine Classical.byContradiction (fun h => ?_)
  have h1 : 0 < zib n ball (zM n ball n) a := zc_pos ha ⟨h, hself a ha⟩
  have h2 := zbest_none (zM_end (n := n) (ball := ball)) ha
  omega
theorem zM_lt {k v : Nat} (h : zM n ball k v) : v < n := by
  induction k with
  | zero => exact h.elim
  | succ k ih =>
    rcases (zM_s k v).mp h with q | q
    · exact ih q
    · rcases zf_range (fun v => 0 < zib n ball (zM n ball k) v ∧ ∀ u, u < n → zib n ball (zM n ball k) u ≤ zib n ball (zM n ball k) v) n with z | z
      · have : zbest n ball (zM n ball k) = -1 := z
        omega
      · have : (v : Int) < n := by rw [q]; exact z.2
        omega
end ZM2
section ZN
variable (n : Nat) (d : Nat → Nat → Int) (most : Nat)
noncomputable def zcw (M : Nat → Prop) (v : Nat) : Nat := zc (fun c => znr n d M v c) n
noncomputable def zcd (M : Nat → Prop) : Int := zf (fun v => most < zcw n d M v) n
noncomputable def zN (M0 : Nat → Prop) : Nat → Nat → Prop
  | 0 => M0
  | k + 1 => fun v => zN M0 k v ∨ (v : Int) = zcd n d most (zN M0 k)
end ZN
section ZN2
variable {n : Nat} {d : Nat → Nat → Int} {most : Nat} {M0 : Nat → Prop}
theorem zow_congr {M M' : Nat → Prop} (h : ∀ v, v < n → (M v ↔ M' v)) (a : Nat) : zow n d M a = zow n d M' a := by
  refine zf_congr (fun m hm => ⟨fun ⟨q1, q2⟩ => ⟨(h m hm).mp q1, fun m' hm' q => q2 m' hm' ((h m' hm').mpr q)⟩, fun ⟨q1, q2⟩ => ⟨(h m hm).mpr q1, fun m' hm' q => q2 m' hm' ((h m' hm').mp q)⟩⟩)
theorem znr_congr {M M' : Nat → Prop} (h : ∀ v, v < n → (M v ↔ M' v)) (a c : Nat) : znr n d M a c ↔ znr n d M' a c := by unfold znr; rw [zow_congr h]
theorem zcw_congr {M M' : Nat → Prop} (h : ∀ v, v < n → (M v ↔ M' v)) (v : Nat) : zcw n d M v = zcw n d M' v := zc_congr (fun c _ => znr_congr h v c)
theorem zcd_congr {M M' : Nat → Prop} (h : ∀ v, v < n → (M v ↔ M' v)) : zcd n d most M = zcd n d most M' := zf_congr (fun v _ => by rw [zcw_congr h])
/-- a landmark's cluster is empty -/
theorem zcw_mark (hsym : ∀ a b, a < n → b < n → d a b = d b a) {M : Nat → Prop} {v : Nat} (hv : v < n) (hm : M v) : zcw n d M v = 0 := by
  refine zc_zero (fun c hc q => ?_)
  obtain ⟨w, w1, w2, w3, w4⟩ := zow_some (d := d) (a := c) ⟨v, hv, hm⟩
  have := w4 v hv hm
  unfold znr at q
  rw [w2] at q
  simp only [Int.toNat_natCast] at q
  rw [hsym v c hv hc] at q
  omega
theorem zN_s (k v : Nat) : zN n d most M0 (k + 1) v ↔ (zN n d most M0 k v ∨ (v : Int) = zcd n d most (zN n d most M0 k)) := Iff.rfl
theorem zN_stop {k : Nat} (h : zcd n d most (zN n d most M0 k) = -1) : ∀ j, ∀ v, zN n d most M0 (k + j) v ↔ zN n d most M0 k v := by
  intro j
  induction j with
  | zero => intro v; exact Iff.rfl
  | succ j ih =>
    intro v
    have e : zcd n d most (zN n d most M0 (k + j)) = -1 := by rw [zcd_congr (fun v _ => ih v)]; exact h
    show (zN n d most M0 (k + j) v ∨ (v : Int) = zcd n d most (zN n d most M0 (k + j))) ↔ _
    rw [e, ih v]
    constructor
    · rintro (q | q)
      · exact q
      · omega
    · exact Or.inl
theorem zcd_some {M : Nat → Prop} (h : zcd n d most M ≠ -1) : ∃ b : Nat, b < n ∧ zcd n d most M = (b : Int) ∧ most < zcw n d M b ∧ ∀ u, u < b → ¬ most < zcw n d M u := by
  rcases zf_spec (fun v => most < zcw n d M v) n with ⟨i, h1, h2, h3, h4⟩ | ⟨h1, h2⟩
  · exact ⟨i, h1, h2, h3, h4⟩
  · exact absurd h1 h
theorem zN_go (hsym : ∀ a b, a < n → b < n → d a b = d b a) {k : Nat} (h : ∀ j, j < k → zcd n d most (zN n d most M0 j) ≠ -1) : zc M0 n + k ≤ zc (zN n d most M0 k) n := by
  induction k with
  | zero => exact Nat.le_refl _
  | succ k ih =>
    have i1 := ih (fun j hj => h j (by omega))
    obtain ⟨b, b1, b2, b3, -⟩ := zcd_some (h k (by omega))
    have hnew : ¬ zN n d most M0 k b := fun q => by have := zcw_mark hsym b1 q; omega
    have hs : ∀ v, zN n d most M0 (k + 1) v ↔ (zN n d most M0 k v ∨ v = b) := fun v => by
      rw [zN_s, b2]
      constructor
      · rintro (q | q)
        · exact Or.inl q
        · exact Or.inr (by omega)
      · rintro (q | q)
        · exact Or.inl q
        · exact Or.inr (by omega)
    rw [zc_congr (fun v _ => hs v), zc_or (P := zN n d most M0 k) (Q := fun v => v = b) (fun v _ hv (e : v = b) => hnew (e ▸ hv)), zc_one b1]
    omega
theorem zN_end (hsym : ∀ a b, a < n → b < n → d a b = d b a) (h0 : 0 < zc M0 n) : zcd n d most (zN n d most M0 n) = -1 := by
  refine Classical.byContradiction (fun h => ?_)
  have all : ∀ j, j ≤ n → zcd n d most (zN n d most M0 j) ≠ -1 := by
    intro j hj q
    have := zN_stop q (n - j)
    rw [show j + (n - j) = n by omega] at this
    rw [zcd_congr (fun v _ => this v)] at h
    exact h q
  have h1 := zN_go hsym (fun j hj => all j (by omega)) (k := n)
  have h2 := zc_le (zN n d most M0 n) n
  omega
theorem zN_sub {k v : Nat} (h : M0 v) : zN n d most M0 k v := by
  induction k with
  | zero => exact h
  | succ k ih => exact Or.inl ih
end ZN2
