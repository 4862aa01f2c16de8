/-! what each call does: k, what is thrown (0: nothing); r, the answer; X', the state behind it -/
def zn (X : zSt) (x : Int) : Prop := 0 ≤ x ∧ x < (X.n : Int)
theorem zd_small {n : Nat} {Wt : Nat → Nat → Int} (hg : zg_ok n Wt) {a : Nat} (ha : a < n) : ∀ (k b : Nat), b < n → zc (fun c => zd n Wt a c < zd n Wt a b) n ≤ k → zd n Wt a b < 1000000 → zd n Wt a b ≤ 1000 * k := by
  intro k
  induction k with
  | zero =>
    intro b hb hk hf
    by_cases e : a = b
    · subst e; rw [zd_aa hg ha]; omega
    · have h1 := zd_pos hg ha hb e
      have h2 : 0 < zc (fun c => zd n Wt a c < zd n Wt a b) n := zc_pos ha (by show zd n Wt a a < zd n Wt a b; rw [zd_aa hg ha]; exact h1)
      omega
  | succ k ih =>
    intro b hb hk hf
    by_cases e : a = b
    · subst e; rw [zd_aa hg ha]; omega
    · obtain ⟨c, c1, c2, c3⟩ := zd_last hg ha hb e hf
      have h1 : zc (fun x => zd n Wt a x < zd n Wt a c) n < zc (fun x => zd n Wt a x < zd n Wt a b) n := zc_lt (fun x _ (hx : zd n Wt a x < zd n Wt a c) => by show zd n Wt a x < zd n Wt a b; omega) c1 (fun z => absurd z (Int.lt_irrefl _)) (by show zd n Wt a c < zd n Wt a b; omega)
      have h2 := ih c c1 (by omega) (by omega)
      have h3 := (hg.1 c b c1 hb).2.1
      omega
theorem zd_bnd {n : Nat} {Wt : Nat → Nat → Int} (hg : zg_ok n Wt) {a b : Nat} (ha : a < n) (hb : b < n) (hf : zd n Wt a b < 1000000) : zd n Wt a b ≤ 1000 * n := zd_small hg ha n b hb (zc_le _ n) hf
theorem zall_0 {n : Nat} {Wt : Nat → Nat → Int} (hg : zg_ok n Wt) (hn : n ≤ 40) (h1 : 1 ≤ n) : zall n Wt ↔ ∀ b, b < n → zd n Wt 0 b < 1000000 := by
  constructor
  · intro h b hb; exact h 0 b (by omega) hb
  · intro h x y hx hy
    have e1 := zd_tri hg hx hy (show 0 < n by omega)
    have e2 := zd_sym hg hx (show 0 < n by omega)
    have e3 := zd_bnd hg (show 0 < n by omega) hx (h x hx)
    have e4 := zd_bnd hg (show 0 < n by omega) hy (h y hy)
    omega
def zR_nodes (X : zSt) (x k r : Int) (X' : zSt) : Prop := (k = 1 ∧ X' = X ∧ ¬ (1 ≤ x ∧ x ≤ 40)) ∨ (k = 0 ∧ (1 ≤ x ∧ x ≤ 40) ∧ X' = zs_nodes X x.toNat)
def zR_edge (X : zSt) (x y z k r : Int) (X' : zSt) : Prop := (k = 1 ∧ X' = X ∧ ¬ (zn X x ∧ zn X y)) ∨ ((zn X x ∧ zn X y) ∧ ((k = 2 ∧ X' = X ∧ ¬ (x ≠ y ∧ 1 ≤ z ∧ z ≤ 1000)) ∨ ((x ≠ y ∧ 1 ≤ z ∧ z ≤ 1000) ∧ ((k = 3 ∧ X' = X ∧ zp X.bh x.toNat y = -1 ∧ (zp X.bh x.toNat (-1) = -1 ∨ zp X.bh y.toNat (-1) = -1)) ∨ (k = 0 ∧ zp X.bh x.toNat y ≠ -1 ∧ r = zp X.bh x.toNat y ∧ X' = zs_set X x.toNat y.toNat (zp X.bh x.toNat y).toNat (zp X.bh y.toNat x).toNat z) ∨ (k = 0 ∧ zp X.bh x.toNat y = -1 ∧ zp X.bh x.toNat (-1) ≠ -1 ∧ zp X.bh y.toNat (-1) ≠ -1 ∧ r = zp X.bh x.toNat (-1) ∧ X' = zs_join X x.toNat y.toNat (zp X.bh x.toNat (-1)).toNat (zp X.bh y.toNat (-1)).toNat z)))))
def zR_cut (X : zSt) (x y k r : Int) (X' : zSt) : Prop := (k = 1 ∧ X' = X ∧ ¬ (zn X x ∧ zn X y)) ∨ ((zn X x ∧ zn X y) ∧ ((k = 2 ∧ X' = X ∧ zp X.bh x.toNat y = -1) ∨ (k = 0 ∧ zp X.bh x.toNat y ≠ -1 ∧ r = X.Wt x.toNat y.toNat ∧ X' = zs_cut X x.toNat y.toNat (zp X.bh x.toNat y).toNat (zp X.bh y.toNat x).toNat)))
def zR_port (X : zSt) (x y k r : Int) (X' : zSt) : Prop := X' = X ∧ ((k = 1 ∧ ¬ (zn X x ∧ 0 ≤ y ∧ y < 16)) ∨ (k = 0 ∧ (zn X x ∧ 0 ≤ y ∧ y < 16) ∧ r = X.bh x.toNat y.toNat))
def zR_build (X : zSt) (x k r : Int) (X' : zSt) : Prop := (k = 1 ∧ X' = X ∧ ¬ (1 ≤ x ∧ x ≤ 40)) ∨ ((1 ≤ x ∧ x ≤ 40) ∧ ((k = 2 ∧ X' = X ∧ ¬ zall X.n X.Wt) ∨ (k = 0 ∧ zall X.n X.Wt ∧ X' = zs_build X x.toNat ∧ r = (zc (zMK X.n X.Wt x.toNat) X.n : Int))))
def zR_landmark (X : zSt) (x k r : Int) (X' : zSt) : Prop := X' = X ∧ ((k = 1 ∧ ¬ X.bt) ∨ (X.bt ∧ ((k = 2 ∧ ¬ (0 ≤ x ∧ x < (zc X.mk X.n : Int))) ∨ (k = 0 ∧ (0 ≤ x ∧ x < (zc X.mk X.n : Int)) ∧ r = zf (fun v => X.mk v ∧ (zc X.mk v : Int) = x) X.n))))
def zR_table (X : zSt) (x y k r : Int) (X' : zSt) : Prop := X' = X ∧ ((k = 1 ∧ ¬ X.bt) ∨ (X.bt ∧ ((k = 2 ∧ ¬ (zn X x ∧ 0 ≤ y ∧ y < 3)) ∨ (k = 0 ∧ (zn X x ∧ 0 ≤ y ∧ y < 3) ∧ ((y = 0 ∧ r = (zc X.mk X.n : Int) + (zcw X.n (zd X.n X.Wo) X.mk x.toNat : Int)) ∨ (y = 1 ∧ r = (zcw X.n (zd X.n X.Wo) X.mk x.toNat : Int)) ∨ (y = 2 ∧ r = zow X.n (zd X.n X.Wo) X.mk x.toNat))))))
def zR_row (X : zSt) (x y k r : Int) (X' : zSt) : Prop := X' = X ∧ ((k = 1 ∧ ¬ X.bt) ∨ (X.bt ∧ ((k = 2 ∧ ¬ (zn X x ∧ zn X y)) ∨ ((zn X x ∧ zn X y) ∧ ((k = 3 ∧ ¬ (X.mk y.toNat ∨ znr X.n (zd X.n X.Wo) X.mk x.toNat y.toNat)) ∨ (k = 0 ∧ (X.mk y.toNat ∨ znr X.n (zd X.n X.Wo) X.mk x.toNat y.toNat) ∧ ((x = y ∧ r = -1) ∨ (x ≠ y ∧ r = zp X.bo x.toNat (ztw X.n X.Wo (zd X.n X.Wo) x.toNat y.toNat)))))))))
/-- a label's word -/
def zlw (X : zSt) (a : Nat) (y r : Int) : Prop := (y = 0 ∧ r = (a : Int)) ∨ (y = 1 ∧ r = zow X.n (zd X.n X.Wo) X.mk a) ∨ (y = 2 ∧ r = zpl X.n (zpa X.n X.Wo (zow X.n (zd X.n X.Wo) X.mk a).toNat) a) ∨ (y = 3 ∧ r = zli X.n (zpa X.n X.Wo (zow X.n (zd X.n X.Wo) X.mk a).toNat) a) ∨ (y = 4 ∧ r = zwd X.n (zpa X.n X.Wo (zow X.n (zd X.n X.Wo) X.mk a).toNat) (zpt X.n X.bo X.Wo (zow X.n (zd X.n X.Wo) X.mk a).toNat) a)
def zR_label (X : zSt) (x y k r : Int) (X' : zSt) : Prop := X' = X ∧ ((k = 1 ∧ ¬ X.bt) ∨ (X.bt ∧ ((k = 2 ∧ ¬ (zn X x ∧ 0 ≤ y ∧ y < 5)) ∨ (k = 0 ∧ (zn X x ∧ 0 ≤ y ∧ y < 5) ∧ zlw X x.toNat y r))))
def zR_tree (X : zSt) (x y z k r : Int) (X' : zSt) : Prop := X' = X ∧ ((k = 1 ∧ ¬ X.bt) ∨ (X.bt ∧ ((k = 2 ∧ ¬ (zn X x ∧ zn X y ∧ 0 ≤ z ∧ z < 4)) ∨ ((zn X x ∧ zn X y ∧ 0 ≤ z ∧ z < 4) ∧ ((k = 3 ∧ ¬ X.mk x.toNat) ∨ (k = 0 ∧ X.mk x.toNat ∧ ((z = 0 ∧ r = zpl X.n (zpa X.n X.Wo x.toNat) y.toNat) ∨ (z = 1 ∧ r = (zS X.n (zpa X.n X.Wo x.toNat) y.toNat : Int)) ∨ (z = 2 ∧ r = zh X.n (zpa X.n X.Wo x.toNat) y.toNat) ∨ (z = 3 ∧ r = zpa X.n X.Wo x.toNat y.toNat))))))))
def zR_send (X : zSt) (x y k r : Int) (X' : zSt) : Prop := (k = 1 ∧ X' = X ∧ ¬ X.bt) ∨ (X.bt ∧ ((k = 2 ∧ X' = X ∧ ¬ (zn X x ∧ zn X y)) ∨ (k = 0 ∧ (zn X x ∧ zn X y) ∧ r = ((X.sn % 16 : Nat) : Int) ∧ X' = zs_send X x y)))
def zR_hop (X : zSt) (x k r : Int) (X' : zSt) : Prop := (k = 1 ∧ X' = X ∧ ¬ (0 ≤ x ∧ x < (X.pk : Int))) ∨ (k = 0 ∧ (0 ≤ x ∧ x < (X.pk : Int)) ∧ r = zhop X.n X.bo X.Wo X.mk (X.P x.toNat).toNat (X.G x.toNat).toNat ∧ X' = zs_hop X x.toNat r (X.Wo (X.P x.toNat).toNat r.toNat))
def zR_weight (X : zSt) (x k r : Int) (X' : zSt) : Prop := X' = X ∧ ((k = 1 ∧ ¬ (0 ≤ x ∧ x < (X.pk : Int))) ∨ (k = 0 ∧ (0 ≤ x ∧ x < (X.pk : Int)) ∧ r = X.U x.toNat))
def zR_distance (X : zSt) (x y k r : Int) (X' : zSt) : Prop := X' = X ∧ ((k = 1 ∧ ¬ (zn X x ∧ zn X y)) ∨ (k = 0 ∧ (zn X x ∧ zn X y) ∧ ((zd X.n X.Wt x.toNat y.toNat < 1000000 ∧ r = zd X.n X.Wt x.toNat y.toNat) ∨ (¬ zd X.n X.Wt x.toNat y.toNat < 1000000 ∧ r = -1))))
def zR_walk (X : zSt) (x y z k r : Int) (X' : zSt) : Prop := X' = X ∧ ((k = 1 ∧ ¬ X.bt) ∨ (X.bt ∧ ((k = 2 ∧ ¬ (zn X x ∧ zn X y ∧ 0 ≤ z ∧ z < 3)) ∨ (k = 0 ∧ (zn X x ∧ zn X y ∧ 0 ≤ z ∧ z < 3) ∧ ((z = 0 ∧ r = (zwk X.n X.bo X.Wo X.mk y.toNat 120 x.toNat).1) ∨ (z = 1 ∧ r = (zwk X.n X.bo X.Wo X.mk y.toNat 120 x.toNat).2) ∨ (z = 2 ∧ r = zst X.n X.bo X.Wo X.mk x.toNat y.toNat))))))
theorem zU_nodes {X X1 X2 : zSt} {x k1 r1 k2 r2 : Int} (h : zR_nodes X x k1 r1 X1) (g : zR_nodes X x k2 r2 X2) : k1 = k2 ∧ X1 = X2 := by
  unfold zR_nodes at h g
  rcases h with ⟨h1, h2, h3⟩ | ⟨h1, h2, h3⟩
  · rcases g with ⟨g1, g2, g3⟩ | ⟨g1, g2, g3⟩
    · exact ⟨by omega, h2.trans g2.symm⟩
    · exact absurd g2 h3
  · rcases g with ⟨g1, g2, g3⟩ | ⟨g1, g2, g3⟩
    · exact absurd h2 g3
    · exact ⟨by omega, h3.trans g3.symm⟩
theorem zU_edge {X X1 X2 : zSt} {x y z k1 r1 k2 r2 : Int} (h : zR_edge X x y z k1 r1 X1) (g : zR_edge X x y z k2 r2 X2) : k1 = k2 ∧ (k1 = 0 → r1 = r2) ∧ X1 = X2 := by
  unfold zR_edge at h g
  rcases h with ⟨h1, h2, h3⟩ | ⟨h0, ⟨h1, h2, h3⟩ | ⟨h4, ⟨h1, h2, h3, h5⟩ | ⟨h1, h3, h5, h2⟩ | ⟨h1, h3, h6, h7, h5, h2⟩⟩⟩
  all_goals rcases g with ⟨g1, g2, g3⟩ | ⟨g0, ⟨g1, g2, g3⟩ | ⟨g4, ⟨g1, g2, g3, g5⟩ | ⟨g1, g3, g5, g2⟩ | ⟨g1, g3, g6, g7, g5, g2⟩⟩⟩
  all_goals first
    | exact absurd ‹_› ‹¬ _›
    | (refine ⟨by omega, fun _ => ?_, ?_⟩ <;> first | omega | (subst_vars; rfl) | (simp_all; done))
    | (exfalso; first | omega | (simp_all; done))
theorem zU_cut {X X1 X2 : zSt} {x y k1 r1 k2 r2 : Int} (h : zR_cut X x y k1 r1 X1) (g : zR_cut X x y k2 r2 X2) : k1 = k2 ∧ (k1 = 0 → r1 = r2) ∧ X1 = X2 := by
  unfold zR_cut at h g
  rcases h with ⟨h1, h2, h3⟩ | ⟨h0, ⟨h1, h2, h3⟩ | ⟨h1, h3, h5, h2⟩⟩
  all_goals rcases g with ⟨g1, g2, g3⟩ | ⟨g0, ⟨g1, g2, g3⟩ | ⟨g1, g3, g5, g2⟩⟩
  all_goals first
    | exact absurd ‹_› ‹¬ _›
    | (refine ⟨by omega, fun _ => ?_, ?_⟩ <;> first | omega | (subst_vars; rfl) | (simp_all; done))
    | (exfalso; first | omega | (simp_all; done))
theorem zU_port {X X1 X2 : zSt} {x y k1 r1 k2 r2 : Int} (h : zR_port X x y k1 r1 X1) (g : zR_port X x y k2 r2 X2) : k1 = k2 ∧ (k1 = 0 → r1 = r2) ∧ X1 = X2 := by
  unfold zR_port at h g
  rcases h with ⟨h2, ⟨h1, h3⟩ | ⟨h1, h3, h5⟩⟩
  all_goals rcases g with ⟨g2, ⟨g1, g3⟩ | ⟨g1, g3, g5⟩⟩
  all_goals first
    | exact absurd ‹_› ‹¬ _›
    | (refine ⟨by omega, fun _ => ?_, ?_⟩ <;> first | omega | (subst_vars; rfl) | (simp_all; done))
    | (exfalso; first | omega | (simp_all; done))
theorem zU_build {X X1 X2 : zSt} {x k1 r1 k2 r2 : Int} (h : zR_build X x k1 r1 X1) (g : zR_build X x k2 r2 X2) : k1 = k2 ∧ (k1 = 0 → r1 = r2) ∧ X1 = X2 := by
  unfold zR_build at h g
  rcases h with ⟨h1, h2, h3⟩ | ⟨h0, ⟨h1, h2, h3⟩ | ⟨h1, h3, h2, h5⟩⟩
  all_goals rcases g with ⟨g1, g2, g3⟩ | ⟨g0, ⟨g1, g2, g3⟩ | ⟨g1, g3, g2, g5⟩⟩
  all_goals first
    | exact absurd ‹_› ‹¬ _›
    | (refine ⟨by omega, fun _ => ?_, ?_⟩ <;> first | omega | (subst_vars; rfl) | (simp_all; done))
    | (exfalso; first | omega | (simp_all; done))
theorem zU_landmark {X X1 X2 : zSt} {x k1 r1 k2 r2 : Int} (h : zR_landmark X x k1 r1 X1) (g : zR_landmark X x k2 r2 X2) : k1 = k2 ∧ (k1 = 0 → r1 = r2) ∧ X1 = X2 := by
  unfold zR_landmark at h g
  rcases h with ⟨h2, ⟨h1, h3⟩ | ⟨h0, ⟨h1, h3⟩ | ⟨h1, h3, h5⟩⟩⟩
  all_goals rcases g with ⟨g2, ⟨g1, g3⟩ | ⟨g0, ⟨g1, g3⟩ | ⟨g1, g3, g5⟩⟩⟩
  all_goals first
    | exact absurd ‹_› ‹¬ _›
    | (refine ⟨by omega, fun _ => ?_, ?_⟩ <;> first | omega | (subst_vars; rfl) | (simp_all; done))
    | (exfalso; first | omega | (simp_all; done))
theorem zU_table {X X1 X2 : zSt} {x y k1 r1 k2 r2 : Int} (h : zR_table X x y k1 r1 X1) (g : zR_table X x y k2 r2 X2) : k1 = k2 ∧ (k1 = 0 → r1 = r2) ∧ X1 = X2 := by
  unfold zR_table at h g
  rcases h with ⟨h2, ⟨h1, h3⟩ | ⟨h0, ⟨h1, h3⟩ | ⟨h1, h3, ⟨h4, h5⟩ | ⟨h4, h5⟩ | ⟨h4, h5⟩⟩⟩⟩
  all_goals rcases g with ⟨g2, ⟨g1, g3⟩ | ⟨g0, ⟨g1, g3⟩ | ⟨g1, g3, ⟨g4, g5⟩ | ⟨g4, g5⟩ | ⟨g4, g5⟩⟩⟩⟩
  all_goals first
    | exact absurd ‹_› ‹¬ _›
    | (refine ⟨by omega, fun _ => ?_, ?_⟩ <;> first | omega | (subst_vars; rfl) | (simp_all; done))
    | (exfalso; first | omega | (simp_all; done))
theorem zU_row {X X1 X2 : zSt} {x y k1 r1 k2 r2 : Int} (h : zR_row X x y k1 r1 X1) (g : zR_row X x y k2 r2 X2) : k1 = k2 ∧ (k1 = 0 → r1 = r2) ∧ X1 = X2 := by
  unfold zR_row at h g
  rcases h with ⟨h2, ⟨h1, h3⟩ | ⟨h0, ⟨h1, h3⟩ | ⟨h6, ⟨h1, h3⟩ | ⟨h1, h3, ⟨h4, h5⟩ | ⟨h4, h5⟩⟩⟩⟩⟩
  all_goals rcases g with ⟨g2, ⟨g1, g3⟩ | ⟨g0, ⟨g1, g3⟩ | ⟨g6, ⟨g1, g3⟩ | ⟨g1, g3, ⟨g4, g5⟩ | ⟨g4, g5⟩⟩⟩⟩⟩
  all_goals first
    | exact absurd ‹_› ‹¬ _›
    | (refine ⟨by omega, fun _ => ?_, ?_⟩ <;> first | omega | (subst_vars; rfl) | (simp_all; done))
    | (exfalso; first | omega | (simp_all; done))
theorem zU_label {X X1 X2 : zSt} {x y k1 r1 k2 r2 : Int} (h : zR_label X x y k1 r1 X1) (g : zR_label X x y k2 r2 X2) : k1 = k2 ∧ (k1 = 0 → r1 = r2) ∧ X1 = X2 := by
  unfold zR_label at h g
  unfold zlw at h g
  rcases h with ⟨h2, ⟨h1, h3⟩ | ⟨h0, ⟨h1, h3⟩ | ⟨h1, h3, ⟨h4, h5⟩ | ⟨h4, h5⟩ | ⟨h4, h5⟩ | ⟨h4, h5⟩ | ⟨h4, h5⟩⟩⟩⟩
  all_goals rcases g with ⟨g2, ⟨g1, g3⟩ | ⟨g0, ⟨g1, g3⟩ | ⟨g1, g3, ⟨g4, g5⟩ | ⟨g4, g5⟩ | ⟨g4, g5⟩ | ⟨g4, g5⟩ | ⟨g4, g5⟩⟩⟩⟩
  all_goals first
    | exact absurd ‹_› ‹¬ _›
    | (refine ⟨by omega, fun _ => ?_, ?_⟩ <;> first | omega | (subst_vars; rfl) | (simp_all; done))
    | (exfalso; first | omega | (simp_all; done))
theorem zU_tree {X X1 X2 : zSt} {x y z k1 r1 k2 r2 : Int} (h : zR_tree X x y z k1 r1 X1) (g : zR_tree X x y z k2 r2 X2) : k1 = k2 ∧ (k1 = 0 → r1 = r2) ∧ X1 = X2 := by
  unfold zR_tree at h g
  rcases h with ⟨h2, ⟨h1, h3⟩ | ⟨h0, ⟨h1, h3⟩ | ⟨h6, ⟨h1, h3⟩ | ⟨h1, h3, ⟨h4, h5⟩ | ⟨h4, h5⟩ | ⟨h4, h5⟩ | ⟨h4, h5⟩⟩⟩⟩⟩
  all_goals rcases g with ⟨g2, ⟨g1, g3⟩ | ⟨g0, ⟨g1, g3⟩ | ⟨g6, ⟨g1, g3⟩ | ⟨g1, g3, ⟨g4, g5⟩ | ⟨g4, g5⟩ | ⟨g4, g5⟩ | ⟨g4, g5⟩⟩⟩⟩⟩
  all_goals first
    | exact absurd ‹_› ‹¬ _›
    | (refine ⟨by omega, fun _ => ?_, ?_⟩ <;> first | omega | (subst_vars; rfl) | (simp_all; done))
    | (exfalso; first | omega | (simp_all; done))
theorem zU_send {X X1 X2 : zSt} {x y k1 r1 k2 r2 : Int} (h : zR_send X x y k1 r1 X1) (g : zR_send X x y k2 r2 X2) : k1 = k2 ∧ (k1 = 0 → r1 = r2) ∧ X1 = X2 := by
  unfold zR_send at h g
  rcases h with ⟨h1, h2, h3⟩ | ⟨h0, ⟨h1, h2, h3⟩ | ⟨h1, h3, h5, h2⟩⟩
  all_goals rcases g with ⟨g1, g2, g3⟩ | ⟨g0, ⟨g1, g2, g3⟩ | ⟨g1, g3, g5, g2⟩⟩
  all_goals first
    | exact absurd ‹_› ‹¬ _›
    | (refine ⟨by omega, fun _ => ?_, ?_⟩ <;> first | omega | (subst_vars; rfl) | (simp_all; done))
    | (exfalso; first | omega | (simp_all; done))
theorem zU_hop {X X1 X2 : zSt} {x k1 r1 k2 r2 : Int} (h : zR_hop X x k1 r1 X1) (g : zR_hop X x k2 r2 X2) : k1 = k2 ∧ (k1 = 0 → r1 = r2) ∧ X1 = X2 := by
  unfold zR_hop at h g
  rcases h with ⟨h1, h2, h3⟩ | ⟨h1, h3, h5, h2⟩
  all_goals rcases g with ⟨g1, g2, g3⟩ | ⟨g1, g3, g5, g2⟩
  all_goals first
    | exact absurd ‹_› ‹¬ _›
    | (refine ⟨by omega, fun _ => ?_, ?_⟩ <;> first | omega | (subst_vars; rfl) | (simp_all; done))
    | (exfalso; first | omega | (simp_all; done))
theorem zU_weight {X X1 X2 : zSt} {x k1 r1 k2 r2 : Int} (h : zR_weight X x k1 r1 X1) (g : zR_weight X x k2 r2 X2) : k1 = k2 ∧ (k1 = 0 → r1 = r2) ∧ X1 = X2 := by
  unfold zR_weight at h g
  rcases h with ⟨h2, ⟨h1, h3⟩ | ⟨h1, h3, h5⟩⟩
  all_goals rcases g with ⟨g2, ⟨g1, g3⟩ | ⟨g1, g3, g5⟩⟩
  all_goals first
    | exact absurd ‹_› ‹¬ _›
    | (refine ⟨by omega, fun _ => ?_, ?_⟩ <;> first | omega | (subst_vars; rfl) | (simp_all; done))
    | (exfalso; first | omega | (simp_all; done))
theorem zU_distance {X X1 X2 : zSt} {x y k1 r1 k2 r2 : Int} (h : zR_distance X x y k1 r1 X1) (g : zR_distance X x y k2 r2 X2) : k1 = k2 ∧ (k1 = 0 → r1 = r2) ∧ X1 = X2 := by
  unfold zR_distance at h g
  rcases h with ⟨h2, ⟨h1, h3⟩ | ⟨h1, h3, ⟨h4, h5⟩ | ⟨h4, h5⟩⟩⟩
  all_goals rcases g with ⟨g2, ⟨g1, g3⟩ | ⟨g1, g3, ⟨g4, g5⟩ | ⟨g4, g5⟩⟩⟩
  all_goals first
    | exact absurd ‹_› ‹¬ _›
    | (refine ⟨by omega, fun _ => ?_, ?_⟩ <;> first | omega | (subst_vars; rfl) | (simp_all; done))
    | (exfalso; first | omega | (simp_all; done))
theorem zU_walk {X X1 X2 : zSt} {x y z k1 r1 k2 r2 : Int} (h : zR_walk X x y z k1 r1 X1) (g : zR_walk X x y z k2 r2 X2) : k1 = k2 ∧ (k1 = 0 → r1 = r2) ∧ X1 = X2 := by
  unfold zR_walk at h g
  rcases h with ⟨h2, ⟨h1, h3⟩ | ⟨h0, ⟨h1, h3⟩ | ⟨h1, h3, ⟨h4, h5⟩ | ⟨h4, h5⟩ | ⟨h4, h5⟩⟩⟩⟩
  all_goals rcases g with ⟨g2, ⟨g1, g3⟩ | ⟨g0, ⟨g1, g3⟩ | ⟨g1, g3, ⟨g4, g5⟩ | ⟨g4, g5⟩ | ⟨g4, g5⟩⟩⟩⟩
  all_goals first
    | exact absurd ‹_› ‹¬ _›
    | (refine ⟨by omega, fun _ => ?_, ?_⟩ <;> first | omega | (subst_vars; rfl) | (simp_all; done))
    | (exfalso; first | omega | (simp_all; done))
theorem zK_nodes {X X' : zSt} {B : Nat} {x k r : Int} (h : zOK X B) (g : zR_nodes X x k r X') : zOK X' (B + 1) := by
  rcases g with ⟨-, e, -⟩ | ⟨-, h1, e⟩
  · rw [e]; exact h.up (by omega)
  · rw [e]; exact (zOK_nodes h (by omega) (by omega)).up (by omega)
theorem zOK.sym {X : zSt} {B : Nat} (h : zOK X B) {a c : Nat} (ha : a < X.n) (hc : c < X.n) : (zp X.bh a (c : Int) ≠ -1 ↔ zp X.bh c (a : Int) ≠ -1) := by
  rw [zp_edge h.2.2.1 ha hc, zp_edge h.2.2.1 hc ha, (h.2.2.1.1.1 a c ha hc).2.2]
theorem zp_nat {bh : Nat → Nat → Int} {a : Nat} {b : Int} (h : zp bh a b ≠ -1) : zp bh a b = ((zp bh a b).toNat : Int) := by
  rcases zp_range bh a b with z | z
  · exact absurd z h
  · omega
theorem zK_edge {X X' : zSt} {B : Nat} {x y z k r : Int} (h : zOK X B) (g : zR_edge X x y z k r X') : zOK X' (B + 1) := by
  rcases g with ⟨-, e, -⟩ | ⟨⟨⟨x1, x2⟩, y1, y2⟩, ⟨-, e, -⟩ | ⟨⟨g1, g2, g3⟩, ⟨-, e, -⟩ | ⟨-, g4, -, e⟩ | ⟨-, g4, g5, g6, -, e⟩⟩⟩
  · rw [e]; exact h.up (by omega)
  · rw [e]; exact h.up (by omega)
  · rw [e]; exact h.up (by omega)
  · rw [e]
    have e1 : ((x.toNat : Nat) : Int) = x := by omega
    have e2 : ((y.toNat : Nat) : Int) = y := by omega
    have g5 : zp X.bh y.toNat x ≠ -1 := by rw [← e1]; exact (h.sym (by omega) (by omega)).mp (by rw [e2]; exact g4)
    exact (zOK_set h (by omega) (by omega) (by omega) g2 g3 (by rw [e2]; exact zp_nat g4) (by rw [e1]; exact zp_nat g5)).up (by omega)
  · rw [e]
    have e2 : ((y.toNat : Nat) : Int) = y := by omega
    exact (zOK_join h (by omega) (by omega) (by omega) g2 g3 (by rw [e2]; exact g4) (zp_nat g5) (zp_nat g6)).up (by omega)
theorem zK_cut {X X' : zSt} {B : Nat} {x y k r : Int} (h : zOK X B) (g : zR_cut X x y k r X') : zOK X' (B + 1) := by
  rcases g with ⟨-, e, -⟩ | ⟨⟨⟨x1, x2⟩, y1, y2⟩, ⟨-, e, -⟩ | ⟨-, g4, -, e⟩⟩
  · rw [e]; exact h.up (by omega)
  · rw [e]; exact h.up (by omega)
  · rw [e]
    have e1 : ((x.toNat : Nat) : Int) = x := by omega
    have e2 : ((y.toNat : Nat) : Int) = y := by omega
    have hne : x.toNat ≠ y.toNat := by
      intro q
      have := zp_edge h.2.2.1 (show x.toNat < X.n by omega) (show y.toNat < X.n by omega)
      rw [e2, ← q, h.2.2.1.1.2 x.toNat (by omega)] at this
      exact absurd (this.mp g4) (by omega)
    have g5 : zp X.bh y.toNat x ≠ -1 := by rw [← e1]; exact (h.sym (by omega) (by omega)).mp (by rw [e2]; exact g4)
    exact (zOK_cut h (by omega) (by omega) hne (by rw [e2]; exact zp_nat g4) (by rw [e1]; exact zp_nat g5)).up (by omega)
theorem zK_build {X X' : zSt} {B : Nat} {x k r : Int} (h : zOK X B) (g : zR_build X x k r X') : zOK X' (B + 1) := by
  rcases g with ⟨-, e, -⟩ | ⟨g0, ⟨-, e, -⟩ | ⟨-, g1, e, -⟩⟩
  · rw [e]; exact h.up (by omega)
  · rw [e]; exact h.up (by omega)
  · rw [e]; exact (zOK_build h g1 (by omega)).up (by omega)
theorem zK_send {X X' : zSt} {B : Nat} {x y k r : Int} (h : zOK X B) (g : zR_send X x y k r X') : zOK X' (B + 1) := by
  rcases g with ⟨-, e, -⟩ | ⟨g0, ⟨-, e, -⟩ | ⟨-, ⟨⟨x1, x2⟩, y1, y2⟩, -, e⟩⟩
  · rw [e]; exact h.up (by omega)
  · rw [e]; exact h.up (by omega)
  · rw [e]
    have e1 : ((x.toNat : Nat) : Int) = x := by omega
    have e2 : ((y.toNat : Nat) : Int) = y := by omega
    have := zOK_send h g0 (a := x.toNat) (c := y.toNat) (by omega) (by omega)
    rw [e1, e2] at this
    exact this
/-- what a packet's hop comes to -/
theorem zOK.hop {X : zSt} {B : Nat} (h : zOK X B) {k : Nat} (hk : k < X.pk) : ∃ c : Nat, c < X.n ∧ zhop X.n X.bo X.Wo X.mk (X.P k).toNat (X.G k).toNat = (c : Int) ∧ 0 ≤ X.Wo (X.P k).toNat c ∧ X.Wo (X.P k).toNat c ≤ 1000 := by
  obtain ⟨h1, h2, h3, h4, h5, h6, h7, h8⟩ := h
  have hB := h4 (h6 (by omega))
  have o := h7 k hk
  by_cases e : (X.P k).toNat = (X.G k).toNat
  · refine ⟨(X.P k).toNat, by omega, by rw [← e, zhop_there], ?_⟩
    have := hB.2.2.1.1.1 (X.P k).toNat (X.P k).toNat (by omega) (by omega)
    exact ⟨this.1, this.2.1⟩
  · obtain ⟨r, r1, r2, -⟩ := hB.own (X.G k).toNat
    obtain ⟨c, c1, c2, c3, c4, -⟩ := hB.hop (show (X.P k).toNat < X.n by omega) (show (X.G k).toNat < X.n by omega) e r2 r1
    exact ⟨c, c1, c2, by omega, c4⟩
theorem zK_hop {X X' : zSt} {B : Nat} {x k r : Int} (h : zOK X B) (g : zR_hop X x k r X') : zOK X' (B + 1) := by
  rcases g with ⟨-, e, -⟩ | ⟨-, ⟨x1, x2⟩, g1, e⟩
  · rw [e]; exact h.up (by omega)
  · obtain ⟨c, c1, c2, c3, c4⟩ := h.hop (show x.toNat < X.pk by omega)
    rw [e, g1, c2]
    simp only [Int.toNat_natCast]
    exact zOK_hop h (by omega) c1 c3 c4
