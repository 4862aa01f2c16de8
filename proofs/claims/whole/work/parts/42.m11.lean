/-! balls, counts, own landmarks, clusters as the class finds them -/
def zbl (m : Nat) (Wt : Nat → Nat → Int) (bk : Nat) (a v : Nat) : Prop := v < m ∧ zc (fun c => zx (zd m Wt a) c v) m < bk
theorem zbl_iff {m : Nat} {Wt : Nat → Nat → Int} (hg : zg_ok m Wt) {bk a sz : Nat} (ha : a < m) {O : Nat → Nat} (ho : zo_ok m (zd m Wt a) m O) (hsz : sz = if bk < m then bk else m) (v : Nat) : (∃ j, j < sz ∧ O j = v) ↔ zbl m Wt bk a v := by
  have hall : ∀ b, b < m → zd m Wt a b ≠ -1 := fun b hb => by have := zd_bd hg ha hb; omega
  constructor
  · rintro ⟨j, j1, rfl⟩
    have hj : j < m := by split at hsz <;> omega
    refine ⟨(ho.1 j hj).1, ?_⟩
    rw [zo_ahead ho hall hj]
    split at hsz <;> omega
  · rintro ⟨h1, h2⟩
    obtain ⟨j, j1, rfl⟩ := ho.2.1 v h1 (hall v h1)
    rw [zo_ahead ho hall j1] at h2
    exact ⟨j, by split at hsz <;> omega, rfl⟩
theorem zbl_self {m : Nat} {Wt : Nat → Nat → Int} (hg : zg_ok m Wt) {bk a : Nat} (ha : a < m) (hb : 1 ≤ bk) : zbl m Wt bk a a := by
  refine ⟨ha, ?_⟩
  rw [zc_zero]
  · omega
  · intro c hc h
    have h0 := zd_aa hg ha
    by_cases e : c = a
    · subst e; exact zx_irr h
    · have := zd_pos hg ha hc (fun q => e q.symm)
      unfold zx at h
      omega
/-- the lowest with the most, so far -/
def zmw (f : Nat → Nat) (i : Nat) (best most : Int) : Prop := (best = -1 ∧ most = 0 ∧ ∀ u, u < i → f u = 0) ∨ ∃ b : Nat, b < i ∧ best = (b : Int) ∧ most = (f b : Int) ∧ 0 < f b ∧ (∀ u, u < i → f u ≤ f b) ∧ ∀ u, u < b → f u < f b
theorem zmw_0 {f : Nat → Nat} : zmw f 0 (-1) 0 := Or.inl ⟨rfl, rfl, fun u h => absurd h (Nat.not_lt_zero u)⟩
theorem zmw_take {f : Nat → Nat} {i : Nat} {best most : Int} (h : zmw f i best most) (ht : most < (f i : Int)) : zmw f (i + 1) (i : Int) (f i : Int) := by
  refine Or.inr ⟨i, by omega, rfl, rfl, ?_, fun u hu => ?_, fun u hu => ?_⟩
  · rcases h with ⟨h1, h2, h3⟩ | ⟨b, b1, b2, b3, b4, b5, b6⟩ <;> omega
  · by_cases e : u = i
    · subst e; exact Nat.le_refl _
    · rcases h with ⟨h1, h2, h3⟩ | ⟨b, b1, b2, b3, b4, b5, b6⟩
      · rw [h3 u (by omega)]; omega
      · have := b5 u (by omega); omega
  · rcases h with ⟨h1, h2, h3⟩ | ⟨b, b1, b2, b3, b4, b5, b6⟩
    · rw [h3 u hu]; omega
    · have := b5 u hu; omega
theorem zmw_keep {f : Nat → Nat} {i : Nat} {best most : Int} (h : zmw f i best most) (ht : (f i : Int) ≤ most) : zmw f (i + 1) best most := by
  rcases h with ⟨h1, h2, h3⟩ | ⟨b, b1, b2, b3, b4, b5, b6⟩
  · exact Or.inl ⟨h1, h2, lt_s h3 (by omega)⟩
  · exact Or.inr ⟨b, by omega, b2, b3, b4, lt_s b5 (by omega), b6⟩
theorem zmw_end {n : Nat} {ball : Nat → Nat → Prop} {M : Nat → Prop} {best most : Int} (h : zmw (zib n ball M) n best most) : best = zbest n ball M := by
  rcases h with ⟨h1, h2, h3⟩ | ⟨b, b1, b2, b3, b4, b5, b6⟩
  · rw [h1, zbest_zero h3]
  · rw [b2, zbest_is b1 b4 b5 b6]
theorem zmw_congr {f g : Nat → Nat} {n : Nat} {best most : Int} (e : ∀ u, u < n → f u = g u) (h : zmw f n best most) : zmw g n best most := by
  rcases h with ⟨h1, h2, h3⟩ | ⟨b, b1, b2, b3, b4, b5, b6⟩
  · exact Or.inl ⟨h1, h2, fun u hu => by rw [← e u hu]; exact h3 u hu⟩
  · refine Or.inr ⟨b, b1, b2, by rw [← e b b1]; exact b3, by rw [← e b b1]; exact b4, fun u hu => by rw [← e b b1, ← e u hu]; exact b5 u hu, fun u hu => by rw [← e b b1, ← e u (by omega)]; exact b6 u hu⟩
/-- the first in the order that is one -/
theorem zow_first {m : Nat} {d : Nat → Nat → Int} {mk : Nat → Prop} {a i : Nat} {O : Nat → Nat} (ho : zo_ok m (d a) m O) (hnn : ∀ c, c < m → d a c ≠ -1) (hi : i < m) (h1 : mk (O i)) (h2 : ∀ j, j < i → ¬ mk (O j)) : zow m d mk a = (O i : Int) := by
  have pos : ∀ v, v < m → mk v → v = O i ∨ zx (d a) (O i) v := by
    intro v hv hm
    obtain ⟨j, j1, rfl⟩ := ho.2.1 v hv (hnn v hv)
    rcases Nat.lt_trichotomy j i with q | q | q
    · exact absurd hm (h2 j q)
    · left; rw [q]
    · right; exact ho.2.2 i j q j1
  refine zf_found (ho.1 i hi).1 ⟨h1, fun v hv hm => ?_⟩ (fun v hv ⟨q1, q2⟩ => ?_)
  · rcases pos v hv hm with z | z
    · rw [z]; exact Int.le_refl _
    · unfold zx at z; omega
  · have hvm : v < m := Nat.lt_trans hv (ho.1 i hi).1
    have := q2 (O i) (ho.1 i hi).1 h1
    rcases pos v hvm q1 with z | z
    · omega
    · unfold zx at z; omega
