/-! trees: parents (−1 at the root), ranks that fall towards it -/
def zt_ok (n m : Nat) (par : Nat → Int) (rk : Nat → Nat) : Prop := m < n ∧ par m = -1 ∧ (∀ a, a < n → a ≠ m → ∃ q : Nat, par a = (q : Int) ∧ q < n ∧ rk q < rk a) ∧ ∀ a, a < n → rk a < n
/-- j steps up -/
def zu (par : Nat → Int) : Nat → Nat → Int
  | 0, a => (a : Int)
  | j + 1, a => if par a = -1 then -1 else zu par j (par a).toNat
/-- t is a or above it -/
def zB (par : Nat → Int) (a t : Nat) : Prop := ∃ j, zu par j a = (t : Int)
theorem zB_self (par : Nat → Int) (a : Nat) : zB par a a := ⟨0, rfl⟩
theorem zB_iff {par : Nat → Int} {a t : Nat} : zB par a t ↔ a = t ∨ (par a ≠ -1 ∧ zB par (par a).toNat t) := by
  constructor
  · rintro ⟨j, h⟩
    cases j with
    | zero => left; simp only [zu] at h; omega
    | succ j =>
      right
      simp only [zu] at h
      by_cases e : par a = -1
      · rw [if_pos e] at h; omega
      · rw [if_neg e] at h; exact ⟨e, j, h⟩
  · rintro (h | ⟨h1, j, h2⟩)
    · subst h; exact zB_self par a
    · exact ⟨j + 1, by simp only [zu]; rw [if_neg h1]; exact h2⟩
theorem zB_up {par : Nat → Int} {a q t : Nat} (hp : par a = (q : Int)) (h : zB par q t) : zB par a t := zB_iff.mpr (Or.inr ⟨by omega, by rw [hp]; simpa using h⟩)
theorem zB_dn {par : Nat → Int} {a q t : Nat} (hp : par a = (q : Int)) (h : zB par a t) (hne : a ≠ t) : zB par q t := by
  rcases zB_iff.mp h with e | ⟨-, h2⟩
  · exact absurd e hne
  · rw [hp] at h2; simpa using h2
section ZT
variable {n m : Nat} {par : Nat → Int} {rk : Nat → Nat}
/-- induction from the root downwards -/
theorem zt_ind (h : zt_ok n m par rk) {P : Nat → Prop} (h0 : P m) (hs : ∀ a q, a < n → q < n → a ≠ m → par a = (q : Int) → P q → P a) : ∀ a, a < n → P a := by
  have key : ∀ k a, a < n → rk a < k → P a := by
    intro k
    induction k with
    | zero => intro a _ hk; omega
    | succ k ih =>
      intro a ha hk
      by_cases e : a = m
      · rw [e]; exact h0
      · obtain ⟨q, h1, h2, h3⟩ := h.2.2.1 a ha e
        exact hs a q ha h2 e h1 (ih q h2 (by omega))
  exact fun a ha => key (rk a + 1) a ha (by omega)
theorem zB_root (h : zt_ok n m par rk) : ∀ a, a < n → zB par a m := zt_ind h (zB_self par m) (fun _ _ _ _ _ hp ih => zB_up hp ih)
theorem zB_rk (h : zt_ok n m par rk) : ∀ a, a < n → ∀ t, zB par a t → t < n ∧ (a = t ∨ rk t < rk a) := by
  refine zt_ind h (fun t ht => ?_) (fun a q ha hq hne hp ih t ht => ?_)
  · rcases zB_iff.mp ht with e | ⟨e, -⟩
    · exact ⟨by rw [← e]; exact h.1, Or.inl e⟩
    · exact absurd h.2.1 e
  · by_cases e : a = t
    · exact ⟨by rw [← e]; exact ha, Or.inl e⟩
    · obtain ⟨h1, h2⟩ := ih t (zB_dn hp ht e)
      obtain ⟨q', e1, -, e2⟩ := h.2.2.1 a ha hne
      have : q' = q := by omega
      subst this
      refine ⟨h1, Or.inr ?_⟩
      rcases h2 with z | z
      · rw [← z]; exact e2
      · omega
theorem zB_tr (h : zt_ok n m par rk) {t s : Nat} (hts : zB par t s) : ∀ a, a < n → zB par a t → zB par a s := by
  refine zt_ind h (fun ht => ?_) (fun a q ha hq hne hp ih ht => ?_)
  · rcases zB_iff.mp ht with e | ⟨e, -⟩
    · rw [e]; exact hts
    · exact absurd h.2.1 e
  · by_cases e : a = t
    · rw [e]; exact hts
    · exact zB_up hp (ih (zB_dn hp ht e))
theorem zB_anti (h : zt_ok n m par rk) {a t : Nat} (ha : a < n) (h1 : zB par a t) (h2 : zB par t a) : a = t := by
  obtain ⟨ht, q⟩ := zB_rk h a ha t h1
  obtain ⟨-, q2⟩ := zB_rk h t ht a h2
  omega
/-- two that lie above one lie above each other -/
theorem zB_lin (h : zt_ok n m par rk) {s t : Nat} : ∀ a, a < n → zB par a s → zB par a t → zB par s t ∨ zB par t s := by
  refine zt_ind h (fun hs ht => ?_) (fun a q ha hq hne hp ih hs ht => ?_)
  · rcases zB_iff.mp hs with e | ⟨e, -⟩
    · rw [← e]; exact Or.inl ht
    · exact absurd h.2.1 e
  · by_cases e : a = s
    · rw [← e]; exact Or.inl ht
    · by_cases e2 : a = t
      · rw [← e2]; exact Or.inr hs
      · exact ih (zB_dn hp hs e) (zB_dn hp ht e2)
/-- under different children of one node there is nothing in common -/
theorem zB_apart (h : zt_ok n m par rk) {p c c' a : Nat} (ha : a < n) (hc : par c = (p : Int)) (hc' : par c' = (p : Int)) (h1 : zB par a c) (h2 : zB par a c') : c = c' := by
  have hcn := (zB_rk h a ha c h1).1
  have hcn' := (zB_rk h a ha c' h2).1
  have key : ∀ x y, x < n → y < n → par x = (p : Int) → par y = (p : Int) → zB par x y → x = y := by
    intro x y hx hy hpx hpy hxy
    refine Classical.byContradiction (fun hne => ?_)
    have h3 := zB_dn hpx hxy hne
    have hxm : x ≠ m := by intro e; rw [e, h.2.1] at hpx; omega
    have hym : y ≠ m := by intro e; rw [e, h.2.1] at hpy; omega
    obtain ⟨q', e1, e2, e3⟩ := h.2.2.1 y hy hym
    obtain ⟨q, g1, g2, g3⟩ := h.2.2.1 x hx hxm
    have : q = p := by omega
    have : q' = p := by omega
    subst q q'
    rcases (zB_rk h p g2 y h3).2 with z | z
    · rw [z] at e3; omega
    · omega
  rcases zB_lin h a ha h1 h2 with q | q
  · exact key c c' hcn hcn' hc hc' q
  · exact (key c' c hcn' hcn hc' hc q).symm
/-- a node above another one has a child on the way -/
theorem zB_child (h : zt_ok n m par rk) {t : Nat} : ∀ a, a < n → zB par a t → a ≠ t → ∃ c, c < n ∧ par c = (t : Int) ∧ zB par a c := by
  refine zt_ind h (fun ht hne => ?_) (fun a q ha hq hna hp ih ht hne => ?_)
  · rcases zB_iff.mp ht with e | ⟨e, -⟩
    · exact absurd e hne
    · exact absurd h.2.1 e
  · by_cases e : q = t
    · exact ⟨a, ha, by rw [hp, e], zB_self par a⟩
    · obtain ⟨c, c1, c2, c3⟩ := ih (zB_dn hp ht hne) e
      exact ⟨c, c1, c2, zB_up hp c3⟩
/-- sizes -/
noncomputable def zS (n : Nat) (par : Nat → Int) (t : Nat) : Nat := zc (fun a => zB par a t) n
theorem zS_pos {t : Nat} (ht : t < n) : 0 < zS n par t := zc_pos ht (zB_self par t)
theorem zS_le (t : Nat) : zS n par t ≤ n := zc_le _ n
theorem zS_root (h : zt_ok n m par rk) : zS n par m = n := by
  have : zS n par m = zc (fun _ => True) n := zc_congr (fun a ha => ⟨fun _ => trivial, fun _ => zB_root h a ha⟩)
  rw [this]
  clear this h
  have : ∀ k, zc (fun _ => True) k = k := by
    intro k
    induction k with
    | zero => rfl
    | succ k ih => rw [zc_t trivial, ih]
  exact this n
/-- what lies under the first k children of p -/
noncomputable def zSc (n : Nat) (par : Nat → Int) (p k : Nat) : Nat := zc (fun a => ∃ c, c < k ∧ par c = (p : Int) ∧ zB par a c) n
theorem zSc_0 (p : Nat) : zSc n par p 0 = 0 := zc_zero (fun _ _ ⟨c, hc, _⟩ => absurd hc (Nat.not_lt_zero c))
theorem zSc_t (h : zt_ok n m par rk) {p k : Nat} (hp : par k = (p : Int)) : zSc n par p (k + 1) = zSc n par p k + zS n par k := by
  have := zc_or (P := fun a => ∃ c, c < k ∧ par c = (p : Int) ∧ zB par a c) (Q := fun a => zB par a k) (n := n) (fun a ha ⟨c, c1, c2, c3⟩ q => by
    have := zB_apart h ha c2 hp c3 q
    omega)
  unfold zSc zS
  rw [← this]
  refine zc_congr (fun a ha => ⟨fun ⟨c, c1, c2, c3⟩ => ?_, fun q => ?_⟩)
  · by_cases e : c = k
    · right; rw [← e]; exact c3
    · left; exact ⟨c, by omega, c2, c3⟩
  · rcases q with ⟨c, c1, c2, c3⟩ | q
    · exact ⟨c, by omega, c2, c3⟩
    · exact ⟨k, by omega, hp, q⟩
theorem zSc_f {p k : Nat} (hp : par k ≠ (p : Int)) : zSc n par p (k + 1) = zSc n par p k := by
  refine zc_congr (fun a ha => ⟨fun ⟨c, c1, c2, c3⟩ => ⟨c, ?_, c2, c3⟩, fun ⟨c, c1, c2, c3⟩ => ⟨c, by omega, c2, c3⟩⟩)
  rcases Nat.lt_or_ge c k with q | q
  · exact q
  · have : c = k := by omega
    rw [this] at c2
    exact absurd c2 hp
theorem zSc_all (h : zt_ok n m par rk) {p : Nat} (hp : p < n) : zS n par p = 1 + zSc n par p n := by
  have := zc_or (P := fun a => a = p) (Q := fun a => ∃ c, c < n ∧ par c = (p : Int) ∧ zB par a c) (n := n) (fun a ha e ⟨c, c1, c2, c3⟩ => by
    have hcm : c ≠ m := by intro e; rw [e, h.2.1] at c2; omega
    obtain ⟨q, g1, g2, g3⟩ := h.2.2.1 c c1 hcm
    have : q = p := by omega
    subst this
    rw [e] at c3
    rcases (zB_rk h q hp c c3).2 with z | z
    · rw [z] at g3; omega
    · omega)
  rw [zc_one hp] at this
  unfold zSc zS
  rw [← this]
  refine zc_congr (fun a ha => ⟨fun q => ?_, fun q => ?_⟩)
  · by_cases e : a = p
    · exact Or.inl e
    · exact Or.inr (zB_child h a ha q e)
  · rcases q with q | ⟨c, c1, c2, c3⟩
    · rw [q]; exact zB_self par p
    · exact zB_tr h (zB_up c2 (zB_self par p)) a ha c3
theorem zSc_mono {p : Nat} {k k' : Nat} (hk : k ≤ k') : zSc n par p k ≤ zSc n par p k' := zc_mono (fun a _ ⟨c, c1, c2, c3⟩ => ⟨c, by omega, c2, c3⟩)
theorem zS_child (h : zt_ok n m par rk) {p c : Nat} (hc : c < n) (hp : par c = (p : Int)) (hpn : p < n) : zS n par c < zS n par p := by
  have h1 := zSc_all h hpn
  have h2 := zSc_t h hp
  have h3 := zSc_mono (n := n) (par := par) (p := p) (show c + 1 ≤ n by omega)
  omega
/-- the heavy child -/
noncomputable def zh (n : Nat) (par : Nat → Int) (t : Nat) : Int := zf (fun c => par c = (t : Int) ∧ ∀ c', c' < n → par c' = (t : Int) → zS n par c' ≤ zS n par c) n
theorem zh_none {t : Nat} (h : zh n par t = -1) : ∀ c, c < n → par c ≠ (t : Int) := by
  intro c hc hp
  -- a greatest one exists
  have key : ∀ k, k ≤ n → (∃ c, c < k ∧ par c = (t : Int)) → ∃ c, c < k ∧ par c = (t : Int) ∧ ∀ c', c' < k → par c' = (t : Int) → zS n par c' ≤ zS n par c := by
    intro k
    induction k with
    | zero => intro _ ⟨c, hc, _⟩; omega
    | succ k ih =>
      intro hk ⟨c, hc, hp⟩
      by_cases hx : ∃ c, c < k ∧ par c = (t : Int)
      · obtain ⟨b, b1, b2, b3⟩ := ih (by omega) hx
        by_cases hkp : par k = (t : Int) ∧ zS n par b < zS n par k
        · refine ⟨k, by omega, hkp.1, fun c' hc' hp' => ?_⟩
          by_cases e : c' = k
          · rw [e]; exact Nat.le_refl _
          · have := b3 c' (by omega) hp'
            have := hkp.2
            omega
        · refine ⟨b, by omega, b2, fun c' hc' hp' => ?_⟩
          by_cases e : c' = k
          · subst e
            have : ¬ zS n par b < zS n par c' := fun z => hkp ⟨hp', z⟩
            omega
          · exact b3 c' (by omega) hp'
      · have e : c = k := by
          rcases Nat.lt_or_ge c k with q | q
          · exact absurd ⟨c, q, hp⟩ hx
          · omega
        subst e
        refine ⟨c, by omega, hp, fun c' hc' hp' => ?_⟩
        by_cases e : c' = c
        · rw [e]; exact Nat.le_refl _
        · exact absurd ⟨c', by omega, hp'⟩ hx
  obtain ⟨b, b1, b2, b3⟩ := key n (Nat.le_refl n) ⟨c, hc, hp⟩
  obtain ⟨i, h1, h2, -⟩ := zf_some (P := fun c => par c = (t : Int) ∧ ∀ c', c' < n → par c' = (t : Int) → zS n par c' ≤ zS n par c) (n := n) ⟨b, b1, b2, b3⟩
  have : zh n par t = (i : Int) := h2
  omega
theorem zh_some {t : Nat} (h : zh n par t ≠ -1) : ∃ b : Nat, b < n ∧ zh n par t = (b : Int) ∧ par b = (t : Int) ∧ ∀ c', c' < n → par c' = (t : Int) → zS n par c' ≤ zS n par b := by
  rcases zf_spec (fun c => par c = (t : Int) ∧ ∀ c', c' < n → par c' = (t : Int) → zS n par c' ≤ zS n par c) n with ⟨i, h1, h2, h3, h4⟩ | ⟨h1, h2⟩
  · exact ⟨i, h1, h2, h3.1, h3.2⟩
  · exact absurd h1 h
end ZT
