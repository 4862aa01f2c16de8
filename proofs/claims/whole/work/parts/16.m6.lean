/-! places: what lies under the children that come before one -/
section ZP
variable {n m : Nat} {par : Nat → Int} {rk : Nat → Nat}
noncomputable def zSx (n : Nat) (par : Nat → Int) (p : Nat) (X : Nat → Prop) (k : Nat) : Nat := zc (fun a => ∃ c, c < k ∧ par c = (p : Int) ∧ X c ∧ zB par a c) n
theorem zSx_0 (p : Nat) (X : Nat → Prop) : zSx n par p X 0 = 0 := zc_zero (fun _ _ ⟨c, hc, _⟩ => absurd hc (Nat.not_lt_zero c))
theorem zSx_t (h : zt_ok n m par rk) {p k : Nat} {X : Nat → Prop} (hp : par k = (p : Int)) (hX : X k) : zSx n par p X (k + 1) = zSx n par p X k + zS n par k := by
  have := zc_or (P := fun a => ∃ c, c < k ∧ par c = (p : Int) ∧ X c ∧ zB par a c) (Q := fun a => zB par a k) (n := n) (fun a ha ⟨c, c1, c2, _, c3⟩ q => by
    have := zB_apart h ha c2 hp c3 q
    omega)
  unfold zSx zS
  rw [← this]
  refine zc_congr (fun a ha => ⟨fun ⟨c, c1, c2, cx, c3⟩ => ?_, fun q => ?_⟩)
  · by_cases e : c = k
    · right; rw [← e]; exact c3
    · left; exact ⟨c, by omega, c2, cx, c3⟩
  · rcases q with ⟨c, c1, c2, cx, c3⟩ | q
    · exact ⟨c, by omega, c2, cx, c3⟩
    · exact ⟨k, by omega, hp, hX, q⟩
theorem zSx_f {p k : Nat} {X : Nat → Prop} (hp : ¬ (par k = (p : Int) ∧ X k)) : zSx n par p X (k + 1) = zSx n par p X k := by
  refine zc_congr (fun a ha => ⟨fun ⟨c, c1, c2, cx, c3⟩ => ⟨c, ?_, c2, cx, c3⟩, fun ⟨c, c1, c2, cx, c3⟩ => ⟨c, by omega, c2, cx, c3⟩⟩)
  rcases Nat.lt_or_ge c k with q | q
  · exact q
  · have : c = k := by omega
    rw [this] at c2 cx
    exact absurd ⟨c2, cx⟩ hp
theorem zSx_congr {p k : Nat} {X Y : Nat → Prop} (h : ∀ c, c < k → par c = (p : Int) → (X c ↔ Y c)) : zSx n par p X k = zSx n par p Y k :=
  zc_congr (fun _ _ => ⟨fun ⟨c, c1, c2, cx, c3⟩ => ⟨c, c1, c2, (h c c1 c2).mp cx, c3⟩, fun ⟨c, c1, c2, cx, c3⟩ => ⟨c, c1, c2, (h c c1 c2).mpr cx, c3⟩⟩)
/-- one more child -/
theorem zSx_add (h : zt_ok n m par rk) {p v : Nat} {X : Nat → Prop} (hv : v < n) (hp : par v = (p : Int)) (hX : ¬ X v) : zSx n par p (fun c => X c ∨ c = v) n = zSx n par p X n + zS n par v := by
  have := zc_or (P := fun a => ∃ c, c < n ∧ par c = (p : Int) ∧ X c ∧ zB par a c) (Q := fun a => zB par a v) (n := n) (fun a ha ⟨c, c1, c2, cx, c3⟩ q => by
    have := zB_apart h ha c2 hp c3 q
    subst this
    exact hX cx)
  unfold zSx zS
  rw [← this]
  refine zc_congr (fun a ha => ⟨fun ⟨c, c1, c2, cx, c3⟩ => ?_, fun q => ?_⟩)
  · rcases cx with cx | cx
    · left; exact ⟨c, c1, c2, cx, c3⟩
    · right; rw [← cx]; exact c3
  · rcases q with ⟨c, c1, c2, cx, c3⟩ | q
    · exact ⟨c, c1, c2, Or.inl cx, c3⟩
    · exact ⟨v, hv, hp, Or.inr rfl, q⟩
theorem zSx_mono {p k : Nat} {X Y : Nat → Prop} (h : ∀ c, c < k → par c = (p : Int) → X c → Y c) : zSx n par p X k ≤ zSx n par p Y k :=
  zc_mono (fun _ _ ⟨c, c1, c2, cx, c3⟩ => ⟨c, c1, c2, h c c1 c2 cx, c3⟩)
/-- c comes before v among the children of p -/
def zbf (n : Nat) (par : Nat → Int) (p v : Nat) (c : Nat) : Prop := (c : Int) = zh n par p ∨ c < v
/-- how far behind its parent's place a child's lies -/
noncomputable def zbh (n : Nat) (par : Nat → Int) (p v : Nat) : Nat := if zz_dec ((v : Int) = zh n par p) = true then 1 else 1 + zSx n par p (zbf n par p v) n
theorem zbh_h {p v : Nat} (h : (v : Int) = zh n par p) : zbh n par p v = 1 := by unfold zbh; rw [zz_dec_t h]; simp
theorem zbh_l {p v : Nat} (h : (v : Int) ≠ zh n par p) : zbh n par p v = 1 + zSx n par p (zbf n par p v) n := by unfold zbh; rw [zz_dec_f h]; simp
theorem zbh_in (h : zt_ok n m par rk) {p v : Nat} (hv : v < n) (hp : par v = (p : Int)) (hpn : p < n) : 1 ≤ zbh n par p v ∧ zbh n par p v + zS n par v ≤ zS n par p := by
  have ha := zSc_all h hpn
  have hc : zSc n par p n = zSx n par p (fun _ => True) n := zc_congr (fun a _ => ⟨fun ⟨c, c1, c2, c3⟩ => ⟨c, c1, c2, trivial, c3⟩, fun ⟨c, c1, c2, _, c3⟩ => ⟨c, c1, c2, c3⟩⟩)
  by_cases e : (v : Int) = zh n par p
  · rw [zbh_h e]
    have h1 := zS_child h hv hp hpn
    omega
  · rw [zbh_l e]
    have h1 := zSx_add h hv hp (X := zbf n par p v) (fun q => q.elim e (Nat.lt_irrefl v))
    have h2 := zSx_mono (n := n) (par := par) (p := p) (k := n) (X := fun c => zbf n par p v c ∨ c = v) (Y := fun _ => True) (fun _ _ _ _ => trivial)
    omega
theorem zbh_apart (h : zt_ok n m par rk) {p v w : Nat} (hv : v < n) (hw : w < n) (hpv : par v = (p : Int)) (hpw : par w = (p : Int)) (hne : v ≠ w) : zbh n par p v + zS n par v ≤ zbh n par p w ∨ zbh n par p w + zS n par w ≤ zbh n par p v := by
  have key : ∀ v w : Nat, v < n → par v = (p : Int) → (w : Int) ≠ zh n par p → zbf n par p w v → v ≠ w → zbh n par p v + zS n par v ≤ zbh n par p w := by
    intro v w hv hp hw hb hne
    rw [zbh_l hw]
    by_cases e : (v : Int) = zh n par p
    · rw [zbh_h e]
      have h1 := zSx_add h hv hp (X := fun _ => False) (fun q => q)
      have h2 := zSx_mono (n := n) (par := par) (p := p) (k := n) (X := fun c => False ∨ c = v) (Y := zbf n par p w) (fun c _ _ q => q.elim False.elim (fun q => q ▸ hb))
      omega
    · rw [zbh_l e]
      have hlt : v < w := hb.elim (fun q => absurd q e) id
      have h1 := zSx_add h hv hp (X := zbf n par p v) (fun q => q.elim e (Nat.lt_irrefl v))
      have h2 := zSx_mono (n := n) (par := par) (p := p) (k := n) (X := fun c => zbf n par p v c ∨ c = v) (Y := zbf n par p w) (fun c _ _ q => by
        rcases q with (q | q) | q
        · exact Or.inl q
        · exact Or.inr (by omega)
        · exact Or.inr (by omega))
      omega
  by_cases ev : (v : Int) = zh n par p
  · have ew : (w : Int) ≠ zh n par p := by omega
    exact Or.inl (key v w hv hpv ew (Or.inl ev) hne)
  · by_cases ew : (w : Int) = zh n par p
    · exact Or.inr (key w v hw hpw ev (Or.inl ew) (fun q => hne q.symm))
    · rcases Nat.lt_or_ge v w with q | q
      · exact Or.inl (key v w hv hpv ew (Or.inr q) hne)
      · exact Or.inr (key w v hw hpw ev (Or.inr (by omega)) (fun q => hne q.symm))
/-- climbing from a node to the root, with g at each node but the root -/
def zcl (par : Nat → Int) (g : Nat → Int → Int) : Nat → Nat → Int → Int
  | 0, _, w => w
  | k + 1, a, w => if par a = -1 then w else zcl par g k (par a).toNat (g a w)
theorem zcl_root {g : Nat → Int → Int} {k : Nat} {a : Nat} {w : Int} (h : par a = -1) : zcl par g k a w = w := by
  cases k with
  | zero => rfl
  | succ k => simp only [zcl]; rw [if_pos h]
theorem zcl_up {g : Nat → Int → Int} {k : Nat} {a q : Nat} {w : Int} (h : par a = (q : Int)) : zcl par g (k + 1) a w = zcl par g k q (g a w) := by
  simp only [zcl]
  rw [if_neg (by omega), h]
  simp
theorem zcl_fuel (h : zt_ok n m par rk) (g : Nat → Int → Int) : ∀ a, a < n → ∀ (k k' : Nat) (w : Int), rk a ≤ k → rk a ≤ k' → zcl par g k a w = zcl par g k' a w := by
  refine zt_ind h (fun k k' w _ _ => ?_) (fun a q ha hq hne hp ih k k' w hk hk' => ?_)
  · rw [zcl_root h.2.1, zcl_root h.2.1]
  · obtain ⟨q', e1, -, e2⟩ := h.2.2.1 a ha hne
    have : q' = q := by omega
    subst this
    obtain ⟨j, rfl⟩ : ∃ j, k = j + 1 := ⟨k - 1, by omega⟩
    obtain ⟨j', rfl⟩ : ∃ j', k' = j' + 1 := ⟨k' - 1, by omega⟩
    rw [zcl_up hp, zcl_up hp]
    exact ih j j' _ (by omega) (by omega)
/-- the whole climb -/
def zC (par : Nat → Int) (g : Nat → Int → Int) (a : Nat) (w : Int) : Int := zcl par g 40 a w
theorem zC_root {g : Nat → Int → Int} {a : Nat} {w : Int} (h : par a = -1) : zC par g a w = w := zcl_root h
theorem zC_up (h : zt_ok n m par rk) (hn : n ≤ 40) {g : Nat → Int → Int} {a q : Nat} {w : Int} (ha : a < n) (hp : par a = (q : Int)) : zC par g a w = zC par g q (g a w) := by
  have hne : a ≠ m := by intro e; rw [e, h.2.1] at hp; omega
  obtain ⟨q', e1, e3, e2⟩ := h.2.2.1 a ha hne
  have : q' = q := by omega
  subst this
  have h4 := h.2.2.2 a ha
  unfold zC
  rw [zcl_up (k := 39) hp]
  exact zcl_fuel h g q' e3 39 40 _ (by omega) (by omega)
/-- places -/
noncomputable def zpg (n : Nat) (par : Nat → Int) : Nat → Int → Int := fun v w => w + (zbh n par (par v).toNat v : Int)
noncomputable def zpl (n : Nat) (par : Nat → Int) (a : Nat) : Int := zC par (zpg n par) a 0
theorem zpl_add (h : zt_ok n m par rk) (hn : n ≤ 40) : ∀ a, a < n → ∀ w, zC par (zpg n par) a w = w + zpl n par a := by
  refine zt_ind h (fun w => ?_) (fun a q ha hq hne hp ih w => ?_)
  · unfold zpl; rw [zC_root h.2.1, zC_root h.2.1]; omega
  · unfold zpl
    rw [zC_up h hn ha hp, zC_up h hn ha hp, ih, ih]
    unfold zpg
    omega
theorem zpl_root (h : zt_ok n m par rk) : zpl n par m = 0 := zC_root h.2.1
theorem zpl_up (h : zt_ok n m par rk) (hn : n ≤ 40) {a q : Nat} (ha : a < n) (hq : q < n) (hp : par a = (q : Int)) : zpl n par a = zpl n par q + (zbh n par q a : Int) := by
  have : zpl n par a = zC par (zpg n par) q (zpg n par a 0) := zC_up h hn ha hp
  rw [this, zpl_add h hn q hq]
  unfold zpg
  rw [hp]
  simp
  omega
/-- a place at or below a node -/
def zI (n : Nat) (par : Nat → Int) (u : Nat) (x : Int) : Prop := zpl n par u ≤ x ∧ x < zpl n par u + (zS n par u : Int)
theorem zI_child (h : zt_ok n m par rk) (hn : n ≤ 40) {a q : Nat} (ha : a < n) (hq : q < n) (hp : par a = (q : Int)) {x : Int} (hx : zI n par a x) : zI n par q x ∧ x ≠ zpl n par q := by
  have h1 := zpl_up h hn ha hq hp
  have h2 := zbh_in h ha hp hq
  unfold zI at *
  omega
theorem zI_of (h : zt_ok n m par rk) (hn : n ≤ 40) {u : Nat} : ∀ a, a < n → zB par a u → ∀ x, zI n par a x → zI n par u x := by
  refine zt_ind h (fun ht x hx => ?_) (fun a q ha hq hne hp ih ht x hx => ?_)
  · rcases zB_iff.mp ht with e | ⟨e, -⟩
    · rw [← e]; exact hx
    · exact absurd h.2.1 e
  · by_cases e : a = u
    · rw [← e]; exact hx
    · exact ih (zB_dn hp ht e) x (zI_child h hn ha hq hp hx).1
theorem zI_self {a : Nat} (ha : a < n) : zI n par a (zpl n par a) := by
  have := zS_pos (n := n) (par := par) ha
  unfold zI
  omega
/-- whose place lies at or below a node lies at or below it -/
theorem zI_iff (h : zt_ok n m par rk) (hn : n ≤ 40) {v : Nat} (hv : v < n) : ∀ u, u < n → (zI n par u (zpl n par v) ↔ zB par v u) := by
  have fwd : ∀ u, u < n → zI n par u (zpl n par v) → zB par v u := by
    refine zt_ind h (fun _ => zB_root h v hv) (fun u q hu hq hne hp ih hx => ?_)
    obtain ⟨h1, h2⟩ := zI_child h hn hu hq hp hx
    have h3 := ih h1
    have hvq : v ≠ q := fun e => h2 (by rw [e])
    obtain ⟨c, c1, c2, c3⟩ := zB_child h v hv h3 hvq
    by_cases e : c = u
    · rw [← e]; exact c3
    · exfalso
      have h4 := zI_of h hn v hv c3 _ (zI_self hv)
      have h5 := zbh_apart h c1 hu c2 hp e
      have h6 := zpl_up h hn c1 hq c2
      have h7 := zpl_up h hn hu hq hp
      unfold zI at *
      omega
  exact fun u hu => ⟨fwd u hu, fun q => zI_of h hn v hv q _ (zI_self hv)⟩
theorem zpl_bd (h : zt_ok n m par rk) (hn : n ≤ 40) {a : Nat} (ha : a < n) : 0 ≤ zpl n par a ∧ zpl n par a < n := by
  have := zI_of h hn a ha (zB_root h a ha) _ (zI_self ha)
  unfold zI at this
  rw [zpl_root h, zS_root h] at this
  omega
end ZP
