/-! ways of packets -/
/-- the parent of a in the tree of m; the rank: how many are nearer to m -/
noncomputable def zpa (n : Nat) (Wt : Nat → Nat → Int) (m : Nat) : Nat → Int := fun a => ztw n Wt (zd n Wt) a m
noncomputable def zrk (n : Nat) (Wt : Nat → Nat → Int) (m : Nat) (a : Nat) : Nat := zc (fun c => zd n Wt c m < zd n Wt a m) n
theorem zrk_lt {n : Nat} {Wt : Nat → Nat → Int} {m a q : Nat} (hq : q < n) (h : zd n Wt q m < zd n Wt a m) : zrk n Wt m q < zrk n Wt m a := zc_lt (fun c _ (hc : zd n Wt c m < zd n Wt q m) => Int.lt_trans hc h) hq (fun z => absurd z (Int.lt_irrefl _)) h
theorem zrk_n {n : Nat} {Wt : Nat → Nat → Int} {m a : Nat} (ha : a < n) : zrk n Wt m a < n := by
  have h1 : zrk n Wt m a < zc (fun _ => True) n := zc_lt (fun _ _ _ => trivial) ha (fun z => absurd z (Int.lt_irrefl _)) trivial
  have := zc_le (fun _ => True) n
  omega
def zall (n : Nat) (Wt : Nat → Nat → Int) : Prop := ∀ x y, x < n → y < n → zd n Wt x y < 1000000
theorem zpa_ok {n : Nat} {Wt : Nat → Nat → Int} (hg : zg_ok n Wt) (hall : zall n Wt) {m : Nat} (hm : m < n) : zt_ok n m (zpa n Wt m) (zrk n Wt m) := by
  refine ⟨hm, ztw_self hg hm, fun a ha hne => ?_, fun a ha => zrk_n ha⟩
  obtain ⟨c, c1, c2, c3, c4⟩ := ztw_some hg hall ha hm hne
  exact ⟨c, c2, c1, zrk_lt c1 (by omega)⟩
theorem zpa_edge {n : Nat} {Wt : Nat → Nat → Int} (hg : zg_ok n Wt) (hall : zall n Wt) {m : Nat} (hm : m < n) {a q : Nat} (ha : a < n) (hp : zpa n Wt m a = (q : Int)) : q < n ∧ 0 < Wt a q ∧ zd n Wt q m < zd n Wt a m := by
  have hne : a ≠ m := by
    intro e
    subst e
    have : zpa n Wt a a = -1 := ztw_self hg ha
    omega
  obtain ⟨c, c1, c2, c3, c4⟩ := ztw_some hg hall ha hm hne
  have h5 : zpa n Wt m a = (c : Int) := c2
  have : c = q := by omega
  subst this
  exact ⟨c1, c3, by omega⟩
/-- a node's own landmark: the nearest, of those as near the lowest -/
noncomputable def zow (n : Nat) (d : Nat → Nat → Int) (mk : Nat → Prop) (a : Nat) : Int := zf (fun m => mk m ∧ ∀ m', m' < n → mk m' → d a m ≤ d a m') n
theorem zow_some {n : Nat} {d : Nat → Nat → Int} {mk : Nat → Prop} {a : Nat} (h : ∃ m, m < n ∧ mk m) : ∃ w : Nat, w < n ∧ zow n d mk a = (w : Int) ∧ mk w ∧ ∀ m', m' < n → mk m' → d a w ≤ d a m' := by
  have key : ∀ k, k ≤ n → (∃ m, m < k ∧ mk m) → ∃ m, m < k ∧ mk m ∧ ∀ m', m' < k → mk m' → d a m ≤ d a m' := by
    intro k
    induction k with
    | zero => intro _ ⟨m, hm, _⟩; omega
    | succ k ih =>
      intro hk ⟨m, hm, hmk⟩
      by_cases hx : ∃ m, m < k ∧ mk m
      · obtain ⟨b, b1, b2, b3⟩ := ih (by omega) hx
        by_cases hkp : mk k ∧ d a k < d a b
        · refine ⟨k, by omega, hkp.1, fun c' hc' hp' => ?_⟩
          by_cases e : c' = k
          · rw [e]; exact Int.le_refl _
          · have := b3 c' (by omega) hp'
            have := hkp.2
            omega
        · refine ⟨b, by omega, b2, fun c' hc' hp' => ?_⟩
          by_cases e : c' = k
          · subst e
            have : ¬ d a c' < d a b := fun z => hkp ⟨hp', z⟩
            omega
          · exact b3 c' (by omega) hp'
      · have e : m = k := by
          rcases Nat.lt_or_ge m k with q | q
          · exact absurd ⟨m, q, hmk⟩ hx
          · omega
        subst e
        refine ⟨m, by omega, hmk, fun c' hc' hp' => ?_⟩
        by_cases e : c' = m
        · rw [e]; exact Int.le_refl _
        · exact absurd ⟨c', by omega, hp'⟩ hx
  obtain ⟨b, b1, b2, b3⟩ := key n (Nat.le_refl n) h
  obtain ⟨i, h1, h2, h3, -⟩ := zf_some (P := fun m => mk m ∧ ∀ m', m' < n → mk m' → d a m ≤ d a m') (n := n) ⟨b, b1, b2, b3⟩
  exact ⟨i, h1, h2, h3.1, h3.2⟩
/-- c lies nearer to a than to its own landmark -/
def znr (n : Nat) (d : Nat → Nat → Int) (mk : Nat → Prop) (a c : Nat) : Prop := d a c < d c (zow n d mk c).toNat
section ZH
variable (n : Nat) (bh Wt : Nat → Nat → Int) (mk : Nat → Prop)
/-- the port from a node's parent to it -/
noncomputable def zpt (m : Nat) (v : Nat) : Int := zp bh (zpa n Wt m v).toNat (v : Int)
noncomputable def zhop (a g : Nat) : Int :=
  if zz_dec (a = g) = true then (a : Int)
  else if zz_dec (mk g ∨ znr n (zd n Wt) mk a g) = true then ztw n Wt (zd n Wt) a g
  else
    if zz_dec (¬ zI n (zpa n Wt (zow n (zd n Wt) mk g).toNat) a (zpl n (zpa n Wt (zow n (zd n Wt) mk g).toNat) g)) = true then zpa n Wt (zow n (zd n Wt) mk g).toNat a
    else if zz_dec (zI n (zpa n Wt (zow n (zd n Wt) mk g).toNat) (zh n (zpa n Wt (zow n (zd n Wt) mk g).toNat) a).toNat (zpl n (zpa n Wt (zow n (zd n Wt) mk g).toNat) g)) = true then zh n (zpa n Wt (zow n (zd n Wt) mk g).toNat) a
    else bh a (zwd n (zpa n Wt (zow n (zd n Wt) mk g).toNat) (zpt n bh Wt (zow n (zd n Wt) mk g).toNat) g / 16 ^ (zli n (zpa n Wt (zow n (zd n Wt) mk g).toNat) a).toNat % 16).toNat
end ZH
/-- what is left of a way: straight on, down, up -/
noncomputable def zphi (n : Nat) (Wt : Nat → Nat → Int) (mk : Nat → Prop) (m a g : Nat) : Nat :=
  if zz_dec (mk g ∨ znr n (zd n Wt) mk a g) = true then zrk n Wt g a
  else if zz_dec (zB (zpa n Wt m) g a) = true then 40 + (zrk n Wt m g - zrk n Wt m a)
  else 80 + zrk n Wt m a
section ZH2
variable {n : Nat} {bh wt Wt : Nat → Nat → Int} {mk : Nat → Prop}
theorem zphi_d {m a g : Nat} (h : mk g ∨ znr n (zd n Wt) mk a g) : zphi n Wt mk m a g = zrk n Wt g a := by unfold zphi; rw [zz_dec_t h]; simp
theorem zphi_b {m a g : Nat} (h : ¬ (mk g ∨ znr n (zd n Wt) mk a g)) (hb : zB (zpa n Wt m) g a) : zphi n Wt mk m a g = 40 + (zrk n Wt m g - zrk n Wt m a) := by unfold zphi; rw [zz_dec_f h, zz_dec_t hb]; simp
theorem zphi_u {m a g : Nat} (h : ¬ (mk g ∨ znr n (zd n Wt) mk a g)) (hb : ¬ zB (zpa n Wt m) g a) : zphi n Wt mk m a g = 80 + zrk n Wt m a := by unfold zphi; rw [zz_dec_f h, zz_dec_f hb]; simp
theorem zphi_bd (hn : n ≤ 40) {m a g : Nat} (ha : a < n) (hg : g < n) : zphi n Wt mk m a g < 120 := by
  have h1 := zrk_n (Wt := Wt) (m := g) ha
  have h2 := zrk_n (Wt := Wt) (m := m) ha
  have h3 := zrk_n (Wt := Wt) (m := m) hg
  by_cases e : mk g ∨ znr n (zd n Wt) mk a g
  · rw [zphi_d e]; omega
  · by_cases e2 : zB (zpa n Wt m) g a
    · rw [zphi_b e e2]; omega
    · rw [zphi_u e e2]; omega
theorem zpt_ok (hN : zn_ok n bh wt Wt) (hall : zall n Wt) {m : Nat} (hm : m < n) : ∀ v, v < n → v ≠ m → 0 ≤ zpt n bh Wt m v ∧ zpt n bh Wt m v ≤ 15 := by
  intro v hv hne
  obtain ⟨q, e1, e2, -⟩ := (zpa_ok hN.1 hall hm).2.2.1 v hv hne
  obtain ⟨-, h2, -⟩ := zpa_edge hN.1 hall hm hv e1
  have h3 : zp bh q (v : Int) ≠ -1 := (zp_edge hN e2 hv).mpr (by rw [← (hN.1.1 v q hv e2).2.2]; exact h2)
  unfold zpt
  rw [e1]
  simp only [Int.toNat_natCast]
  rcases zp_range bh q (v : Int) with z | z
  · exact absurd z h3
  · omega
/-- A HOP: it goes along an edge, and what is left falls -/
theorem zhop_ok (hn : n ≤ 40) (hN : zn_ok n bh wt Wt) (hall : zall n Wt) (hmk : ∃ m, m < n ∧ mk m) {a g m : Nat} (ha : a < n) (hg : g < n) (hne : a ≠ g) (hm : zow n (zd n Wt) mk g = (m : Int)) (hmn : m < n) :
    ∃ c : Nat, c < n ∧ zhop n bh Wt mk a g = (c : Int) ∧ 0 < Wt a c ∧ zphi n Wt mk m c g < zphi n Wt mk m a g ∧
      (¬ (mk g ∨ znr n (zd n Wt) mk a g) → zI n (zpa n Wt m) a (zpl n (zpa n Wt m) g) → ∃ b : Nat, b < n ∧ zh n (zpa n Wt m) a = (b : Int)) := by
  have hG := hN.1
  have T := zpa_ok hG hall hmn
  have hpt := zpt_ok hN hall hmn
  have en : zz_dec (a = g) = false := zz_dec_f hne
  by_cases hd : mk g ∨ znr n (zd n Wt) mk a g
  · obtain ⟨c, c1, c2, c3, c4⟩ := ztw_some hG hall ha hg hne
    refine ⟨c, c1, ?_, c3, ?_, fun z => absurd hd z⟩
    · unfold zhop; rw [en, zz_dec_t hd]; simpa using c2
    · have hd' : mk g ∨ znr n (zd n Wt) mk c g := by
        rcases hd with q | q
        · exact Or.inl q
        · right
          unfold znr at *
          omega
      rw [zphi_d hd, zphi_d hd']
      exact zrk_lt c1 (by omega)
  · have e1 : zz_dec (mk g ∨ znr n (zd n Wt) mk a g) = false := zz_dec_f hd
    by_cases hI : zI n (zpa n Wt m) a (zpl n (zpa n Wt m) g)
    · have hB := (zI_iff T hn hg a ha).mp hI
      obtain ⟨c, c1, c2, c3⟩ := zB_child T g hg hB (fun z => hne z.symm)
      have hz : zh n (zpa n Wt m) a ≠ -1 := fun z => zh_none z c c1 c2
      obtain ⟨b, b1, b2, b3, b4⟩ := zh_some hz
      obtain ⟨-, w1, w2⟩ := zpa_edge hG hall hmn c1 c2
      have hfall : zphi n Wt mk m c g < zphi n Wt mk m a g := by
        rw [zphi_b hd hB]
        have r1 : zrk n Wt m a < zrk n Wt m c := zrk_lt ha w2
        have r2 := (zB_rk T g hg c c3).2
        have r3 := zrk_n (Wt := Wt) (m := g) c1
        by_cases hd' : mk g ∨ znr n (zd n Wt) mk c g
        · rw [zphi_d hd']; omega
        · rw [zphi_b hd' c3]
          rcases r2 with r2 | r2
          · subst r2; omega
          · omega
      have hwac : 0 < Wt a c := by rw [(hG.1 a c ha c1).2.2]; exact w1
      refine ⟨c, c1, ?_, hwac, hfall, fun _ _ => ⟨b, b1, b2⟩⟩
      unfold zhop
      rw [en, e1, hm]
      simp only [Int.toNat_natCast]
      rw [zz_dec_f (fun z : ¬ _ => z hI), b2]
      simp only [Int.toNat_natCast]
      by_cases hIb : zI n (zpa n Wt m) b (zpl n (zpa n Wt m) g)
      · have hBb := (zI_iff T hn hg b b1).mp hIb
        have : b = c := zB_apart T hg b3 c2 hBb c3
        subst this
        simp [zz_dec_t hIb]
      · simp only [zz_dec_f hIb, Bool.false_eq_true, if_false]
        have hcb : c ≠ b := by
          intro z
          subst z
          exact hIb ((zI_iff T hn hg c b1).mpr c3)
        have hl : zlt n (zpa n Wt m) c := by
          refine ⟨by omega, ?_⟩
          rw [c2]
          simp only [Int.toNat_natCast]
          omega
        obtain ⟨k, k1, k2, k3⟩ := zwd_bits T hn hpt c1 ha hg c2 hl c3
        rw [k1]
        simp only [Int.toNat_natCast]
        have k3' : zwd n (zpa n Wt m) (zpt n bh Wt m) g / 16 ^ k % 16 = zpt n bh Wt m c := k3
        have ept : zpt n bh Wt m c = zp bh a (c : Int) := by
          unfold zpt
          rw [c2]
          simp
        have hz3 : zp bh a (c : Int) ≠ -1 := (zp_edge hN ha c1).mpr hwac
        obtain ⟨p, p1, p2, p3, -⟩ := zp_at hz3
        rw [k3', ept, p2]
        simp [p3]
    · have hB : ¬ zB (zpa n Wt m) g a := fun z => hI ((zI_iff T hn hg a ha).mpr z)
      have ham : a ≠ m := by
        intro z
        rw [z] at hB
        exact hB (zB_root T g hg)
      obtain ⟨q, q1, q2, q3⟩ := T.2.2.1 a ha ham
      obtain ⟨-, w1, w2⟩ := zpa_edge hG hall hmn ha q1
      refine ⟨q, q2, ?_, w1, ?_, fun _ z => absurd z hI⟩
      · unfold zhop
        rw [en, e1, hm]
        simp only [Int.toNat_natCast]
        rw [zz_dec_t (show ¬ _ from hI)]
        simpa using q1
      · rw [zphi_u hd hB]
        have r3 := zrk_n (Wt := Wt) (m := g) q2
        have r4 := zrk_n (Wt := Wt) (m := m) hg
        by_cases hd' : mk g ∨ znr n (zd n Wt) mk q g
        · rw [zphi_d hd']; omega
        · by_cases hb' : zB (zpa n Wt m) g q
          · rw [zphi_b hd' hb']; omega
          · rw [zphi_u hd' hb']; omega
theorem zhop_there {a : Nat} : zhop n bh Wt mk a a = (a : Int) := by unfold zhop; rw [zz_dec_t rfl]; simp
end ZH2
/-- a way: its weight and its hops, at most k -/
noncomputable def zwk (n : Nat) (bh Wt : Nat → Nat → Int) (mk : Nat → Prop) (g : Nat) : Nat → Nat → Int × Int
  | 0, _ => (0, 0)
  | k + 1, a => if zz_dec (a = g) = true then (0, 0) else (Wt a (zhop n bh Wt mk a g).toNat + (zwk n bh Wt mk g k (zhop n bh Wt mk a g).toNat).1, 1 + (zwk n bh Wt mk g k (zhop n bh Wt mk a g).toNat).2)
section ZH3
variable {n : Nat} {bh wt Wt : Nat → Nat → Int} {mk : Nat → Prop}
theorem zwk_there {g k : Nat} : zwk n bh Wt mk g k g = (0, 0) := by
  cases k with
  | zero => rfl
  | succ k => unfold zwk; rw [if_pos (zz_dec_t rfl)]
theorem zwk_on {g k a c : Nat} (hne : a ≠ g) (hc : zhop n bh Wt mk a g = (c : Int)) : zwk n bh Wt mk g (k + 1) a = (Wt a c + (zwk n bh Wt mk g k c).1, 1 + (zwk n bh Wt mk g k c).2) := by
  simp only [zwk]; rw [zz_dec_f hne, hc]; simp
theorem zwk_fuel (hn : n ≤ 40) (hN : zn_ok n bh wt Wt) (hall : zall n Wt) (hmk : ∃ m, m < n ∧ mk m) {g m : Nat} (hg : g < n) (hm : zow n (zd n Wt) mk g = (m : Int)) (hmn : m < n) : ∀ (k k' a : Nat), a < n → zphi n Wt mk m a g < k → zphi n Wt mk m a g < k' → zwk n bh Wt mk g k a = zwk n bh Wt mk g k' a := by
  intro k
  induction k with
  | zero => intro k' a _ h; omega
  | succ k ih =>
    intro k' a ha h h'
    by_cases e : a = g
    · rw [e, zwk_there, zwk_there]
    · obtain ⟨c, c1, c2, c3, c4, -⟩ := zhop_ok hn hN hall hmk ha hg e hm hmn
      obtain ⟨j, rfl⟩ : ∃ j, k' = j + 1 := ⟨k' - 1, by omega⟩
      rw [zwk_on e c2, zwk_on e c2, ih j c c1 (by omega) (by omega)]
end ZH3
