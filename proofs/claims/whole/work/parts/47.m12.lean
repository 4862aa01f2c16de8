/-! trees as the class grows them, in the order of the distances from the root -/
/-- the root is the first, parents come before their children -/
theorem zo_root {m r : Nat} {Wt : Nat → Nat → Int} (hg : zg_ok m Wt) (hr : r < m) {O : Nat → Nat} (ho : zo_ok m (zd m Wt r) m O) : O 0 = r := by
  obtain ⟨j, j1, j2⟩ := ho.2.1 r hr (by rw [zd_aa hg hr]; omega)
  rcases Nat.lt_or_ge 0 j with q | q
  · have h1 := ho.2.2 0 j q j1
    have h2 := (ho.1 0 (by omega)).1
    rw [j2] at h1
    unfold zx at h1
    rw [zd_aa hg hr] at h1
    by_cases e : O 0 = r
    · exact e
    · have := zd_pos hg hr h2 (fun z => e z.symm)
      omega
  · have : j = 0 := by omega
    rw [this] at j2
    exact j2
theorem zo_par {m r : Nat} {Wt : Nat → Nat → Int} (hg : zg_ok m Wt) (hall : zall m Wt) (hr : r < m) {O : Nat → Nat} (ho : zo_ok m (zd m Wt r) m O) {i : Nat} (hi : i < m) {c : Nat} (hc : c < m) (hp : zpa m Wt r c = (O i : Int)) : ∃ j, i < j ∧ j < m ∧ O j = c := by
  obtain ⟨h1, h2, h3⟩ := zpa_edge hg hall hr hc hp
  obtain ⟨j, j1, j2⟩ := ho.2.1 c hc (by have := zd_bd hg hr hc; omega)
  refine ⟨j, ?_, j1, j2⟩
  rcases Nat.lt_trichotomy i j with q | q | q
  · exact q
  · exfalso; rw [q, j2] at h3; omega
  · exfalso
    have h4 := ho.2.2 j i q hi
    rw [j2] at h4
    unfold zx at h4
    rw [zd_sym hg hr hc, zd_sym hg hr h1] at h4
    omega
def zpc (m : Nat) (O : Nat → Nat) (i : Nat) (c : Nat) : Prop := ∃ j, i < j ∧ j < m ∧ O j = c
section ZAS
variable {m r : Nat} {Wt : Nat → Nat → Int} {O : Nat → Nat}
theorem zas_0 (v : Nat) : zSx m (zpa m Wt r) v (zpc m O (m - 1)) m = 0 := zc_zero (fun a _ ⟨c, _, _, ⟨j, j1, j2, _⟩, _⟩ => by omega)
/-- a node's size is whole when its turn comes -/
theorem zas_whole (hg : zg_ok m Wt) (hall : zall m Wt) (hr : r < m) (ho : zo_ok m (zd m Wt r) m O) {i : Nat} (hi : i < m) : 1 + zSx m (zpa m Wt r) (O i) (zpc m O i) m = zS m (zpa m Wt r) (O i) := by
  have T := zpa_ok hg hall hr
  rw [zSc_all T (ho.1 i hi).1]
  congr 1
  exact zc_congr (fun a _ => ⟨fun ⟨c, c1, c2, _, c3⟩ => ⟨c, c1, c2, c3⟩, fun ⟨c, c1, c2, c3⟩ => ⟨c, c1, c2, zo_par hg hall hr ho hi c1 c2, c3⟩⟩)
theorem zas_step (hg : zg_ok m Wt) (hall : zall m Wt) (hr : r < m) (ho : zo_ok m (zd m Wt r) m O) {i q : Nat} (hi : i < m) (hp : zpa m Wt r (O i) = (q : Int)) (v : Nat) : zSx m (zpa m Wt r) v (zpc m O (i - 1)) m = (if v = q then zSx m (zpa m Wt r) v (zpc m O i) m + zS m (zpa m Wt r) (O i) else zSx m (zpa m Wt r) v (zpc m O i) m) ∨ i = 0 := by
  rcases Nat.eq_zero_or_pos i with z | z
  · exact Or.inr z
  left
  have T := zpa_ok hg hall hr
  have inj := zo_inj ho
  have e : ∀ c, zpc m O (i - 1) c ↔ (zpc m O i c ∨ c = O i) := by
    intro c
    constructor
    · rintro ⟨j, j1, j2, j3⟩
      by_cases e : j = i
      · right; rw [← j3, e]
      · left; exact ⟨j, by omega, j2, j3⟩
    · rintro (⟨j, j1, j2, j3⟩ | h)
      · exact ⟨j, by omega, j2, j3⟩
      · exact ⟨i, by omega, hi, h.symm⟩
  rw [zSx_congr (fun c _ _ => e c)]
  by_cases h : v = q
  · rw [if_pos h]
    subst h
    exact zSx_add T (ho.1 i hi).1 hp (fun ⟨j, j1, j2, j3⟩ => by have := inj j i j2 hi j3; omega)
  · rw [if_neg h]
    refine zSx_congr (fun c _ hc => ⟨fun z => z.elim id (fun z => ?_), Or.inl⟩)
    subst z
    omega
theorem zas_end (hg : zg_ok m Wt) (hall : zall m Wt) (hr : r < m) (ho : zo_ok m (zd m Wt r) m O) {v : Nat} (hv : v < m) : 1 + zSx m (zpa m Wt r) v (zpc m O 0) m = zS m (zpa m Wt r) v := by
  have T := zpa_ok hg hall hr
  rw [zSc_all T hv]
  congr 1
  refine zc_congr (fun a _ => ⟨fun ⟨c, c1, c2, _, c3⟩ => ⟨c, c1, c2, c3⟩, fun ⟨c, c1, c2, c3⟩ => ?_⟩)
  obtain ⟨i, i1, i2⟩ := ho.2.1 v hv (by have := zd_bd hg hr hv; omega)
  obtain ⟨j, j1, j2, j3⟩ := zo_par hg hall hr ho i1 c1 (by rw [i2]; exact c2)
  exact ⟨c, c1, c2, ⟨j, by omega, j2, j3⟩, c3⟩
end ZAS
/-- the heavy child, so far -/
def zhv (par : Nat → Int) (S : Nat → Nat) (v i : Nat) (r : Int) : Prop := (r = -1 ∧ ∀ c, c < i → par c ≠ (v : Int)) ∨ ∃ b : Nat, b < i ∧ r = (b : Int) ∧ par b = (v : Int) ∧ (∀ c, c < i → par c = (v : Int) → S c ≤ S b) ∧ ∀ c, c < b → par c = (v : Int) → S c < S b
theorem zhv_0 {par : Nat → Int} {S : Nat → Nat} {v : Nat} : zhv par S v 0 (-1) := Or.inl ⟨rfl, fun c h => absurd h (Nat.not_lt_zero c)⟩
theorem zhv_skip {par : Nat → Int} {S : Nat → Nat} {v i : Nat} {r : Int} (h : zhv par S v i r) (hp : par i ≠ (v : Int)) : zhv par S v (i + 1) r := by
  rcases h with ⟨h1, h2⟩ | ⟨b, b1, b2, b3, b4, b5⟩
  · exact Or.inl ⟨h1, lt_s h2 hp⟩
  · exact Or.inr ⟨b, by omega, b2, b3, lt_s b4 (fun z => absurd z hp), b5⟩
theorem zhv_take {par : Nat → Int} {S : Nat → Nat} {v i : Nat} {r : Int} (h : zhv par S v i r) (hp : par i = (v : Int)) (ht : r = -1 ∨ S r.toNat < S i) : zhv par S v (i + 1) (i : Int) := by
  refine Or.inr ⟨i, by omega, rfl, hp, fun c hc hpc => ?_, fun c hc hpc => ?_⟩
  · by_cases e : c = i
    · subst e; exact Nat.le_refl _
    · rcases h with ⟨h1, h2⟩ | ⟨b, b1, b2, b3, b4, b5⟩
      · exact absurd hpc (h2 c (by omega))
      · have := b4 c (by omega) hpc
        rw [b2] at ht
        simp only [Int.toNat_natCast] at ht
        omega
  · rcases h with ⟨h1, h2⟩ | ⟨b, b1, b2, b3, b4, b5⟩
    · exact absurd hpc (h2 c hc)
    · have := b4 c hc hpc
      rw [b2] at ht
      simp only [Int.toNat_natCast] at ht
      omega
theorem zhv_keep {par : Nat → Int} {S : Nat → Nat} {v i : Nat} {r : Int} (h : zhv par S v i r) (hr : r ≠ -1) (ht : S i ≤ S r.toNat) : zhv par S v (i + 1) r := by
  rcases h with ⟨h1, h2⟩ | ⟨b, b1, b2, b3, b4, b5⟩
  · exact absurd h1 hr
  · rw [b2] at ht
    simp only [Int.toNat_natCast] at ht
    exact Or.inr ⟨b, by omega, b2, b3, lt_s b4 (fun _ => ht), b5⟩
theorem zhv_rng {par : Nat → Int} {S : Nat → Nat} {v i : Nat} {r : Int} (h : zhv par S v i r) : r = -1 ∨ (0 ≤ r ∧ r < i) := by
  rcases h with ⟨h1, h2⟩ | ⟨b, b1, b2, -⟩
  · exact Or.inl h1
  · right; omega
theorem zhv_end {m : Nat} {par : Nat → Int} {v : Nat} {r : Int} (h : zhv par (zS m par) v m r) : r = zh m par v := by
  rcases h with ⟨h1, h2⟩ | ⟨b, b1, b2, b3, b4, b5⟩
  · exact zf_eq (Or.inr ⟨h1, fun c hc q => h2 c hc q.1⟩)
  · exact zf_eq (Or.inl ⟨b, b1, b2, ⟨b3, b4⟩, fun c hc q => by have := b5 c hc q.1; have := q.2 b b1 b3; omega⟩)
/-! the places of the children, one after the other -/
section ZPC
variable {n m : Nat} {par : Nat → Int} {rk : Nat → Nat}
theorem zbf_0 (h : zt_ok n m par rk) {p b : Nat} (hb : b < n) (hp : par b = (p : Int)) (hz : zh n par p = (b : Int)) : zSx n par p (zbf n par p 0) n = zS n par b := by
  have h1 := zSx_add h hb hp (X := fun _ => False) (fun q => q)
  have h2 : zSx n par p (fun _ => False) n = 0 := zc_zero (fun _ _ ⟨_, _, _, q, _⟩ => q)
  rw [h2, Nat.zero_add] at h1
  rw [← h1]
  refine zSx_congr (fun c _ _ => ?_)
  unfold zbf
  rw [hz]
  constructor
  · rintro (q | q)
    · right; omega
    · omega
  · rintro (q | q)
    · exact q.elim
    · left; omega
theorem zbf_s (h : zt_ok n m par rk) {p i : Nat} (hi : i < n) (hp : par i = (p : Int)) (hz : (i : Int) ≠ zh n par p) : zSx n par p (zbf n par p (i + 1)) n = zSx n par p (zbf n par p i) n + zS n par i := by
  rw [← zSx_add h hi hp (X := zbf n par p i) (fun q => q.elim hz (Nat.lt_irrefl i))]
  refine zSx_congr (fun c _ _ => ?_)
  unfold zbf
  constructor
  · rintro (q | q)
    · exact Or.inl (Or.inl q)
    · by_cases e : c = i
      · exact Or.inr e
      · exact Or.inl (Or.inr (by omega))
  · rintro ((q | q) | q)
    · exact Or.inl q
    · exact Or.inr (by omega)
    · exact Or.inr (by omega)
theorem zbf_n {p i : Nat} (hz : par i ≠ (p : Int) ∨ (i : Int) = zh n par p) : zSx n par p (zbf n par p (i + 1)) n = zSx n par p (zbf n par p i) n := by
  refine zSx_congr (fun c _ hc => ?_)
  unfold zbf
  constructor
  · rintro (q | q)
    · exact Or.inl q
    · by_cases e : c = i
      · subst e
        rcases hz with z | z
        · exact absurd hc z
        · exact Or.inl z
      · exact Or.inr (by omega)
  · rintro (q | q)
    · exact Or.inl q
    · exact Or.inr (by omega)
theorem zSx_le (h : zt_ok n m par rk) {p : Nat} (hp : p < n) (X : Nat → Prop) : zSx n par p X n + 1 ≤ n := by
  have h1 := zSc_all h hp
  have h2 := zS_le (n := n) (par := par) p
  have h3 := zSx_mono (n := n) (par := par) (p := p) (k := n) (X := X) (Y := fun _ => True) (fun _ _ _ _ => trivial)
  have hc : zSc n par p n = zSx n par p (fun _ => True) n := zc_congr (fun a _ => ⟨fun ⟨c, c1, c2, c3⟩ => ⟨c, c1, c2, trivial, c3⟩, fun ⟨c, c1, c2, _, c3⟩ => ⟨c, c1, c2, c3⟩⟩)
  omega
end ZPC
