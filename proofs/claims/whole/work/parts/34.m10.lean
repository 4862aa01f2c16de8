/-! the class's search for the nearest node that is left, and what a node brings near, port by port -/
def zkn (F : Nat → Int) (T : Nat → Prop) (i : Nat) (r : Int) : Prop := (r = -1 ∧ ∀ u, u < i → F u ≠ -1 → T u) ∨ (∃ x : Nat, x < i ∧ r = (x : Int) ∧ F x ≠ -1 ∧ ¬ T x ∧ ∀ u, u < i → ¬ T u → F u ≠ -1 → u ≠ x → zx F x u)
theorem zkn_0 {F : Nat → Int} {T : Nat → Prop} : zkn F T 0 (-1) := Or.inl ⟨rfl, fun u h => absurd h (Nat.not_lt_zero u)⟩
theorem zkn_skip {F : Nat → Int} {T : Nat → Prop} {i : Nat} {r : Int} (h : zkn F T i r) (ho : F i = -1 ∨ T i) : zkn F T (i + 1) r := by
  rcases h with ⟨h1, h2⟩ | ⟨x, x1, x2, x3, x4, x5⟩
  · refine Or.inl ⟨h1, fun u hu hf => ?_⟩
    by_cases e : u = i
    · subst e; exact ho.elim (fun z => absurd z hf) id
    · exact h2 u (by omega) hf
  · refine Or.inr ⟨x, by omega, x2, x3, x4, fun u hu ht hf hne => ?_⟩
    by_cases e : u = i
    · subst e; exact ho.elim (fun z => absurd z hf) (fun z => absurd z ht)
    · exact x5 u (by omega) ht hf hne
theorem zkn_take {F : Nat → Int} {T : Nat → Prop} {i : Nat} {r : Int} (h : zkn F T i r) (h1 : F i ≠ -1) (h2 : ¬ T i) (h3 : r = -1 ∨ F i < F r.toNat) : zkn F T (i + 1) (i : Int) := by
  refine Or.inr ⟨i, by omega, rfl, h1, h2, fun u hu ht hf hne => ?_⟩
  rcases h with ⟨a1, a2⟩ | ⟨x, x1, x2, x3, x4, x5⟩
  · exact absurd (a2 u (by omega) hf) ht
  · have h4 : F i < F x := by
      rcases h3 with z | z
      · omega
      · rw [x2] at z; simpa using z
    by_cases e : u = x
    · subst e; exact Or.inl h4
    · have := x5 u (by omega) ht hf e
      unfold zx at *
      omega
theorem zkn_keep {F : Nat → Int} {T : Nat → Prop} {i : Nat} {r : Int} (h : zkn F T i r) (h3 : r ≠ -1) (h4 : F r.toNat ≤ F i) : zkn F T (i + 1) r := by
  rcases h with ⟨a1, a2⟩ | ⟨x, x1, x2, x3, x4, x5⟩
  · exact absurd a1 h3
  · refine Or.inr ⟨x, by omega, x2, x3, x4, fun u hu ht hf hne => ?_⟩
    by_cases e : u = i
    · subst e
      rw [x2] at h4
      simp only [Int.toNat_natCast] at h4
      unfold zx
      omega
    · exact x5 u (by omega) ht hf hne
theorem zkn_rng {F : Nat → Int} {T : Nat → Prop} {i : Nat} {r : Int} (h : zkn F T i r) : r = -1 ∨ (0 ≤ r ∧ r < i) := by
  rcases h with ⟨a1, a2⟩ | ⟨x, x1, x2, -⟩
  · exact Or.inl a1
  · right; omega
theorem zkn_near {F : Nat → Int} {T : Nat → Prop} {n : Nat} {r : Int} (h : zkn F T n r) (hr : r ≠ -1) : ∃ x : Nat, r = (x : Int) ∧ zk_nearest n F T x := by
  rcases h with ⟨a1, a2⟩ | ⟨x, x1, x2, x3, x4, x5⟩
  · exact absurd a1 hr
  · exact ⟨x, x2, x1, x4, x3, x5⟩
theorem zkn_none {F : Nat → Int} {T : Nat → Prop} {n : Nat} {r : Int} (h : zkn F T n r) (hr : r = -1) : ∀ u, u < n → ¬ T u → F u = -1 := by
  rcases h with ⟨a1, a2⟩ | ⟨x, x1, x2, -⟩
  · intro u hu ht
    exact Classical.byContradiction (fun z => ht (a2 u hu z))
  · omega
theorem zk_T {n : Nat} {Wt : Nat → Nat → Int} {s : Nat} {F : Nat → Int} {T T' : Nat → Prop} {r : Nat} {O : Nat → Nat} (e : ∀ y, T y ↔ T' y) (h : zk_inv n Wt s F T r O) : zk_inv n Wt s F T' r O := by
  have : T = T' := funext (fun y => propext (e y))
  rw [← this]; exact h
/-- after i ports of x -/
def zrl (bh wt : Nat → Nat → Int) (x : Nat) (F F' : Nat → Int) (i : Nat) : Prop := ∀ c : Nat, c < 40 →
  (∃ q, q < i ∧ bh x q = (c : Int) ∧ (F c = -1 ∨ F x + wt x q < F c) ∧ F' c = F x + wt x q) ∨ ((∀ q, q < i → bh x q = (c : Int) → ¬ (F c = -1 ∨ F x + wt x q < F c)) ∧ F' c = F c)
theorem zrl_0 {bh wt : Nat → Nat → Int} {x : Nat} {F : Nat → Int} : zrl bh wt x F F 0 := fun _ _ => Or.inr ⟨fun q hq => absurd hq (Nat.not_lt_zero q), rfl⟩
theorem zrl_none {bh wt : Nat → Nat → Int} {x i : Nat} {F F' : Nat → Int} (h : zrl bh wt x F F' i) (hb : bh x i = -1) : zrl bh wt x F F' (i + 1) := by
  intro c hc
  rcases h c hc with ⟨q, q1, q2, q3, q4⟩ | ⟨h1, h2⟩
  · exact Or.inl ⟨q, by omega, q2, q3, q4⟩
  · refine Or.inr ⟨fun q hq hbq => ?_, h2⟩
    by_cases e : q = i
    · subst e; omega
    · exact h1 q (by omega) hbq
section ZRL
variable {n : Nat} {bh wt Wt : Nat → Nat → Int} {x i : Nat} {F F' : Nat → Int}
/-- the places that aren't reached yet are as they were -/
theorem zrl_old (hN : zn_ok n bh wt Wt) (hx : x < n) (hi : i < 16) (h : zrl bh wt x F F' i) {c : Nat} (hc : c < 40) (hb : bh x i = (c : Int)) : F' c = F c := by
  rcases h c hc with ⟨q, q1, q2, q3, q4⟩ | ⟨h1, h2⟩
  · have := hN.2.2.2.2 x q i hx (by omega) hi (by omega) (by omega)
    omega
  · exact h2
theorem zrl_self (hN : zn_ok n bh wt Wt) (hx : x < n) (hn : n ≤ 40) (hi : i ≤ 16) (h : zrl bh wt x F F' i) : F' x = F x := by
  rcases h x (by omega) with ⟨q, q1, q2, q3, q4⟩ | ⟨h1, h2⟩
  · have h5 := hN.2.2.1 x q hx (by omega) (by omega)
    rw [q2] at h5
    simp only [Int.toNat_natCast] at h5
    rw [hN.1.2 x hx] at h5
    omega
  · exact h2
theorem zrl_put (hN : zn_ok n bh wt Wt) (hx : x < n) (hi : i < 16) (h : zrl bh wt x F F' i) {c : Nat} (hc : c < 40) (hb : bh x i = (c : Int)) (ho : F c = -1 ∨ F x + wt x i < F c) : zrl bh wt x F (q_up F' c (F x + wt x i)) (i + 1) := by
  intro d hd
  unfold q_up
  by_cases e : d = c
  · subst e
    exact Or.inl ⟨i, by omega, hb, ho, by simp⟩
  · rw [if_neg e]
    rcases h d hd with ⟨q, q1, q2, q3, q4⟩ | ⟨h1, h2⟩
    · exact Or.inl ⟨q, by omega, q2, q3, q4⟩
    · refine Or.inr ⟨fun q hq hbq => ?_, h2⟩
      by_cases e2 : q = i
      · subst e2; omega
      · exact h1 q (by omega) hbq
theorem zrl_leave (h : zrl bh wt x F F' i) {c : Nat} (hb : bh x i = (c : Int)) (ho : ¬ (F c = -1 ∨ F x + wt x i < F c)) : zrl bh wt x F F' (i + 1) := by
  intro d hd
  rcases h d hd with ⟨q, q1, q2, q3, q4⟩ | ⟨h1, h2⟩
  · exact Or.inl ⟨q, by omega, q2, q3, q4⟩
  · refine Or.inr ⟨fun q hq hbq => ?_, h2⟩
    by_cases e2 : q = i
    · subst e2
      have : d = c := by omega
      subst this
      exact ho
    · exact h1 q (by omega) hbq
theorem zrl_end (hN : zn_ok n bh wt Wt) (hn : n ≤ 40) (hx : x < n) (h : zrl bh wt x F F' 16) : zk_rel Wt x F F' n := by
  intro b hb
  rcases h b (by omega) with ⟨q, q1, q2, q3, q4⟩ | ⟨h1, h2⟩
  · have h5 := hN.2.2.1 x q hx q1 (by omega)
    have h6 := zp_wt hN hx q1 q2
    exact Or.inl ⟨by omega, by rw [← h6]; exact q3, by rw [← h6]; exact q4⟩
  · refine Or.inr ⟨fun ⟨w1, w2⟩ => ?_, h2⟩
    obtain ⟨q, q1, q2⟩ := hN.2.2.2.1 x b hx hb w1
    have h6 := zp_wt hN hx q1 q2
    exact h1 q q1 q2 (by rw [h6]; exact w2)
end ZRL
