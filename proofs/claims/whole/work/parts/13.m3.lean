/-! measuring from a node by taking the nearest one again and again -/
theorem zc_full {P : Nat → Prop} {n : Nat} (h : zc P n = n) : ∀ j, j < n → P j := by
  intro j hj
  refine Classical.byContradiction (fun hp => ?_)
  have h1 : zc P n < zc (fun _ => True) n := zc_lt (fun _ _ _ => trivial) hj hp trivial
  have h2 := zc_le (fun _ => True) n
  omega
def zx (F : Nat → Int) (u v : Nat) : Prop := F u < F v ∨ (F u = F v ∧ u < v)
theorem zx_irr {F : Nat → Int} {u : Nat} : ¬ zx F u u := by unfold zx; omega
theorem zx_tr {F : Nat → Int} {u v w : Nat} (h : zx F u v) (g : zx F v w) : zx F u w := by unfold zx at *; omega
theorem zx_tri (F : Nat → Int) (u v : Nat) : zx F u v ∨ u = v ∨ zx F v u := by unfold zx; omega
/-- the measuring, r nodes taken: T, in the order O -/
def zk_inv (n : Nat) (Wt : Nat → Nat → Int) (s : Nat) (F : Nat → Int) (T : Nat → Prop) (r : Nat) (O : Nat → Nat) : Prop :=
  F s = 0 ∧ (∀ b, b < n → -1 ≤ F b ∧ F b ≤ 1000 * (r : Int)) ∧ (∀ x, T x → x < n ∧ F x ≠ -1) ∧
  (∀ c b, b < n → T c → 0 < Wt c b → F b ≠ -1 ∧ F b ≤ F c + Wt c b) ∧
  (∀ b, b < n → b ≠ s → F b ≠ -1 → ∃ c, T c ∧ 0 < Wt c b ∧ F b = F c + Wt c b) ∧
  (∀ t u, u < n → T t → ¬ T u → F u ≠ -1 → zx F t u) ∧
  (∀ i, i < r → T (O i)) ∧ (∀ x, T x → ∃ i, i < r ∧ O i = x) ∧ (∀ i j, i < j → j < r → zx F (O i) (O j))
theorem zk_0 {n : Nat} {Wt : Nat → Nat → Int} {s : Nat} {F : Nat → Int} {O : Nat → Nat} (h0 : F s = 0) (hF : ∀ b, b < n → b ≠ s → F b = -1) : zk_inv n Wt s F (fun _ => False) 0 O := by
  refine ⟨h0, fun b hb => ?_, fun x h => h.elim, fun c b _ h => h.elim, fun b hb hs hf => absurd (hF b hb hs) hf, fun t u _ h => h.elim, fun i hi => absurd hi (Nat.not_lt_zero i), fun x h => h.elim, fun i j _ hj => absurd hj (Nat.not_lt_zero j)⟩
  by_cases e : b = s
  · subst e; omega
  · rw [hF b hb e]; omega
/-- all that is joined to x comes as near as x makes it -/
def zk_rel (Wt : Nat → Nat → Int) (x : Nat) (F F' : Nat → Int) (n : Nat) : Prop := ∀ b, b < n → (0 < Wt x b ∧ (F b = -1 ∨ F x + Wt x b < F b) ∧ F' b = F x + Wt x b) ∨ (¬ (0 < Wt x b ∧ (F b = -1 ∨ F x + Wt x b < F b)) ∧ F' b = F b)
/-- x is the nearest that is left, of those as near the lowest -/
def zk_nearest (n : Nat) (F : Nat → Int) (T : Nat → Prop) (x : Nat) : Prop := x < n ∧ ¬ T x ∧ F x ≠ -1 ∧ ∀ u, u < n → ¬ T u → F u ≠ -1 → u ≠ x → zx F x u
theorem zk_step {n : Nat} {Wt : Nat → Nat → Int} (hg : zg_ok n Wt) {s : Nat} (hs : s < n) {F F' : Nat → Int} {T : Nat → Prop} {r x : Nat} {O : Nat → Nat} (h : zk_inv n Wt s F T r O) (hx : zk_nearest n F T x) (hr : zk_rel Wt x F F' n) :
    zk_inv n Wt s F' (fun y => T y ∨ y = x) (r + 1) (fun i => if i = r then x else O i) := by
  obtain ⟨h0, hbd, hT, hc, hd, he, hf1, hf2, hf3⟩ := h
  obtain ⟨x1, x2, x3, x4⟩ := hx
  have fx : 0 ≤ F x := by have := hbd x x1; omega
  -- what is taken stays, and x itself
  have kept : ∀ y, T y ∨ y = x → F' y = F y := by
    intro y hy
    have hyn : y < n := by
      rcases hy with q | q
      · exact (hT y q).1
      · rw [q]; exact x1
    rcases hr y hyn with ⟨q1, q2, q3⟩ | ⟨_, q⟩
    · exfalso
      rcases hy with hy | hy
      · have h1 := (hT y hy).2
        have h2 := he y x x1 hy x2 x3
        unfold zx at h2
        omega
      · rw [hy, hg.2 x x1] at q1
        omega
    · exact q
  have low : ∀ b, b < n → F b ≠ -1 → F' b ≠ -1 ∧ F' b ≤ F b := by
    intro b hb hfb
    have := hbd b hb
    rcases hr b hb with ⟨q1, q2, q3⟩ | ⟨_, q⟩
    · omega
    · rw [q]; exact ⟨hfb, Int.le_refl _⟩
  have s0 : F' s = 0 := by
    rcases hr s hs with ⟨q1, q2, q3⟩ | ⟨_, q⟩
    · omega
    · rw [q]; exact h0
  refine ⟨s0, fun b hb => ?_, fun y hy => ?_, fun c b hb hcT hw => ?_, fun b hb hbs hfb => ?_, fun t u hu ht hnu hfu => ?_, fun i hi => ?_, fun y hy => ?_, fun i j hij hj => ?_⟩
  · have h1 := hbd b hb
    have h2 := hbd x x1
    have h3 := (hg.1 x b x1 hb).2.1
    rcases hr b hb with ⟨q1, q2, q3⟩ | ⟨_, q⟩
    · omega
    · omega
  · rw [kept y hy]
    rcases hy with q | q
    · exact hT y q
    · subst q; exact ⟨x1, x3⟩
  · rw [kept c hcT]
    rcases hcT with q | q
    · obtain ⟨a1, a2⟩ := hc c b hb q hw
      obtain ⟨b1, b2⟩ := low b hb a1
      exact ⟨b1, by omega⟩
    · subst q
      rcases hr b hb with ⟨q1, q2, q3⟩ | ⟨q1, q⟩
      · omega
      · have hq : ¬ (F b = -1 ∨ F c + Wt c b < F b) := fun z => q1 ⟨hw, z⟩
        rw [q]
        omega
  · rcases hr b hb with ⟨q1, q2, q3⟩ | ⟨q1, q⟩
    · exact ⟨x, Or.inr rfl, q1, by rw [kept x (Or.inr rfl)]; exact q3⟩
    · rw [q] at hfb
      obtain ⟨c, c1, c2, c3⟩ := hd b hb hbs hfb
      exact ⟨c, Or.inl c1, c2, by rw [kept c (Or.inl c1), q]; exact c3⟩
  · have nu : ¬ T u := fun z => hnu (Or.inl z)
    have ux : u ≠ x := fun z => hnu (Or.inr z)
    have kt := kept t ht
    have htx : F t ≤ F x := by
      rcases ht with q | q
      · have := he t x x1 q x2 x3
        unfold zx at this
        omega
      · rw [q]; exact Int.le_refl _
    unfold zx
    rw [kt]
    rcases hr u hu with ⟨q1, q2, q3⟩ | ⟨q1, q⟩
    · left; omega
    · rw [q] at hfu ⊢
      rcases ht with z | z
      · exact he t u hu z nu hfu
      · rw [z]; exact x4 u hu nu hfu ux
  · show T (if i = r then x else O i) ∨ (if i = r then x else O i) = x
    by_cases e : i = r
    · rw [if_pos e]; exact Or.inr rfl
    · rw [if_neg e]; exact Or.inl (hf1 i (by omega))
  · rcases hy with q | q
    · obtain ⟨i, i1, i2⟩ := hf2 y q
      exact ⟨i, by omega, by show (if i = r then x else O i) = y; rw [if_neg (by omega)]; exact i2⟩
    · exact ⟨r, by omega, by show (if r = r then x else O r) = y; rw [if_pos rfl]; exact q.symm⟩
  · have ni : i ≠ r := by omega
    have ti : T (O i) := hf1 i (by omega)
    show zx F' (if i = r then x else O i) (if j = r then x else O j)
    rw [if_neg ni]
    by_cases e : j = r
    · rw [if_pos e]
      have := he (O i) x x1 ti x2 x3
      unfold zx at this ⊢
      rw [kept _ (Or.inl ti), kept x (Or.inr rfl)]
      exact this
    · rw [if_neg e]
      have := hf3 i j hij (by omega)
      have tj : T (O j) := hf1 j (by omega)
      unfold zx at this ⊢
      rw [kept _ (Or.inl ti), kept _ (Or.inl tj)]
      exact this
/-- the order: rising by distance, then by number; all that are joined to s -/
def zo_ok (n : Nat) (F : Nat → Int) (r : Nat) (O : Nat → Nat) : Prop := (∀ i, i < r → O i < n ∧ F (O i) ≠ -1) ∧ (∀ x, x < n → F x ≠ -1 → ∃ i, i < r ∧ O i = x) ∧ ∀ i j, i < j → j < r → zx F (O i) (O j)
theorem zo_inj {n : Nat} {F : Nat → Int} {r : Nat} {O : Nat → Nat} (h : zo_ok n F r O) : ∀ i j, i < r → j < r → O i = O j → i = j := by
  intro i j hi hj e
  rcases Nat.lt_trichotomy i j with q | q | q
  · have := h.2.2 i j q hj
    rw [e] at this
    exact absurd this zx_irr
  · exact q
  · have := h.2.2 j i q hi
    rw [e] at this
    exact absurd this zx_irr
theorem zk_end {n : Nat} {Wt : Nat → Nat → Int} {s : Nat} {F : Nat → Int} {T : Nat → Prop} {r : Nat} {O : Nat → Nat} (hn : n ≤ 40) (h : zk_inv n Wt s F T r O) (hr : r ≤ n) (hend : r = n ∨ ∀ u, u < n → ¬ T u → F u = -1) :
    zl_ok n Wt s F ∧ zo_ok n F r O ∧ (r = n ↔ ∀ b, b < n → F b ≠ -1) := by
  obtain ⟨h0, hbd, hT, hc, hd, he, hf1, hf2, hf3⟩ := h
  have inj : ∀ i j, i < r → j < r → O i = O j → i = j := by
    intro i j hi hj e
    rcases Nat.lt_trichotomy i j with q | q | q
    · have := hf3 i j q hj
      rw [e] at this
      exact absurd this zx_irr
    · exact q
    · have := hf3 j i q hi
      rw [e] at this
      exact absurd this zx_irr
  have img := zc_img (n := n) O r (fun i hi => (hT _ (hf1 i hi)).1) inj
  have all : ∀ u, u < n → F u ≠ -1 → T u := by
    intro u hu hfu
    rcases hend with q | q
    · rw [q] at img
      obtain ⟨j, j1, j2⟩ := zc_full img u hu
      rw [← j2]
      exact hf1 j (by omega)
    · exact Classical.byContradiction (fun z => hfu (q u hu z))
  refine ⟨⟨h0, fun b hb => ?_, fun c b hc1 hb hfc hw => hc c b hb (all c hc1 hfc) hw, fun b hb hbs hfb => ?_⟩, ⟨fun i hi => hT _ (hf1 i hi), fun x hx hfx => hf2 x (all x hx hfx), hf3⟩, fun e b hb => ?_, fun hall => ?_⟩
  · have := hbd b hb; omega
  · obtain ⟨c, c1, c2, c3⟩ := hd b hb hbs hfb
    exact ⟨c, (hT c c1).1, c2, (hT c c1).2, c3⟩
  · rw [e] at img
    obtain ⟨j, j1, j2⟩ := zc_full img b hb
    rw [← j2]
    exact (hT _ (hf1 j (by omega))).2
  · have e : zc (fun c => ∃ j, j < r ∧ O j = c) n = zc (fun _ => True) n := zc_congr (fun c hcn => ⟨fun _ => trivial, fun _ => hf2 c (all c hcn (hall c hcn))⟩)
    have f : zc (fun _ => True) n = n := by
      clear hall hend img all hr hbd hT hc hd he hf1 hf2 hf3 inj e h0 hn
      induction n with
      | zero => rfl
      | succ n ih => rw [zc_t trivial, ih]
    omega
/-- in a joined network: how many come ahead of the i-th -/
theorem zo_ahead {n : Nat} {F : Nat → Int} {O : Nat → Nat} (h : zo_ok n F n O) (hall : ∀ b, b < n → F b ≠ -1) {i : Nat} (hi : i < n) : zc (fun c => zx F c (O i)) n = i := by
  have inj := zo_inj h
  have img := zc_img (n := n) O i (fun j hj => (h.1 j (by omega)).1) (fun a b ha hb => inj a b (by omega) (by omega))
  refine Eq.trans (zc_congr (fun c hc => ⟨fun q => ?_, fun q => ?_⟩)) img
  · obtain ⟨j, j1, j2⟩ := h.2.1 c hc (hall c hc)
    refine ⟨j, ?_, j2⟩
    rcases Nat.lt_trichotomy j i with z | z | z
    · exact z
    · subst z; rw [j2] at q; exact absurd q zx_irr
    · have := h.2.2 i j z j1
      rw [j2] at this
      exact absurd (zx_tr q this) zx_irr
  · obtain ⟨j, j1, j2⟩ := q
    rw [← j2]
    exact h.2.2 j i j1 hi
