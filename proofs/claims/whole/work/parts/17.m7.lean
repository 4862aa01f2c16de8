/-! light nodes and the word of their ports -/
section ZL
variable {n m : Nat} {par : Nat → Int} {rk : Nat → Nat}
def zlt (n : Nat) (par : Nat → Int) (v : Nat) : Prop := par v ≠ -1 ∧ zh n par (par v).toNat ≠ (v : Int)
noncomputable def zlg (n : Nat) (par : Nat → Int) : Nat → Int → Int := fun v w => w + (if zz_dec (zlt n par v) = true then 1 else 0)
noncomputable def zli (n : Nat) (par : Nat → Int) (a : Nat) : Int := zC par (zlg n par) a 0
noncomputable def zwg (n : Nat) (par : Nat → Int) (pt : Nat → Int) : Nat → Int → Int := fun v w => if zz_dec (zlt n par v) = true then w * 16 + pt v else w
noncomputable def zwd (n : Nat) (par : Nat → Int) (pt : Nat → Int) (a : Nat) : Int := zC par (zwg n par pt) a 0
theorem zlg_t {v : Nat} {w : Int} (h : zlt n par v) : zlg n par v w = w + 1 := by unfold zlg; rw [zz_dec_t h]; simp
theorem zlg_f {v : Nat} {w : Int} (h : ¬ zlt n par v) : zlg n par v w = w := by unfold zlg; rw [zz_dec_f h]; simp
theorem zwg_t {pt : Nat → Int} {v : Nat} {w : Int} (h : zlt n par v) : zwg n par pt v w = w * 16 + pt v := by unfold zwg; rw [zz_dec_t h]; simp
theorem zwg_f {pt : Nat → Int} {v : Nat} {w : Int} (h : ¬ zlt n par v) : zwg n par pt v w = w := by unfold zwg; rw [zz_dec_f h]; simp
theorem zli_add (h : zt_ok n m par rk) (hn : n ≤ 40) : ∀ a, a < n → ∀ w, zC par (zlg n par) a w = w + zli n par a := by
  refine zt_ind h (fun w => ?_) (fun a q ha hq hne hp ih w => ?_)
  · unfold zli; rw [zC_root h.2.1, zC_root h.2.1]; omega
  · unfold zli
    rw [zC_up h hn ha hp, zC_up h hn ha hp, ih, ih]
    by_cases e : zlt n par a
    · rw [zlg_t e, zlg_t e]; omega
    · rw [zlg_f e, zlg_f e]; omega
theorem zli_root (h : zt_ok n m par rk) : zli n par m = 0 := zC_root h.2.1
theorem zli_t (h : zt_ok n m par rk) (hn : n ≤ 40) {a q : Nat} (ha : a < n) (hq : q < n) (hp : par a = (q : Int)) (e : zlt n par a) : zli n par a = zli n par q + 1 := by
  have : zli n par a = zC par (zlg n par) q (zlg n par a 0) := zC_up h hn ha hp
  rw [this, zli_add h hn q hq, zlg_t e]
  omega
theorem zli_f (h : zt_ok n m par rk) (hn : n ≤ 40) {a q : Nat} (ha : a < n) (hq : q < n) (hp : par a = (q : Int)) (e : ¬ zlt n par a) : zli n par a = zli n par q := by
  have : zli n par a = zC par (zlg n par) q (zlg n par a 0) := zC_up h hn ha hp
  rw [this, zli_add h hn q hq, zlg_f e]
  omega
/-- a light node is at most half of its parent -/
theorem zS_light (h : zt_ok n m par rk) {a q : Nat} (ha : a < n) (hq : q < n) (hp : par a = (q : Int)) (e : zlt n par a) : 2 * zS n par a + 1 ≤ zS n par q := by
  have hz : zh n par q ≠ (a : Int) := by
    have := e.2
    rw [hp] at this
    simpa using this
  have hz1 : zh n par q ≠ -1 := fun z => zh_none z a ha hp
  obtain ⟨b, b1, b2, b3, b4⟩ := zh_some hz1
  have hba : b ≠ a := by omega
  have h1 := b4 a ha hp
  have h2 := zSx_add h b1 b3 (X := fun _ => False) (fun z => z)
  have h3 := zSx_add h ha hp (X := fun c => False ∨ c = b) (fun z => z.elim False.elim (fun z => hba z.symm))
  have h4 := zSx_mono (n := n) (par := par) (p := q) (k := n) (X := fun c => (False ∨ c = b) ∨ c = a) (Y := fun _ => True) (fun _ _ _ _ => trivial)
  have hc : zSc n par q n = zSx n par q (fun _ => True) n := zc_congr (fun a _ => ⟨fun ⟨c, c1, c2, c3⟩ => ⟨c, c1, c2, trivial, c3⟩, fun ⟨c, c1, c2, _, c3⟩ => ⟨c, c1, c2, c3⟩⟩)
  have := zSc_all h hq
  omega
/-- few light nodes: each halves -/
theorem zli_few (h : zt_ok n m par rk) (hn : n ≤ 40) : ∀ a, a < n → ∃ k : Nat, zli n par a = (k : Int) ∧ zS n par a * 2 ^ k ≤ n := by
  refine zt_ind h ⟨0, zli_root h, by rw [zS_root h]; simp⟩ (fun a q ha hq hne hp ih => ?_)
  obtain ⟨k, k1, k2⟩ := ih
  by_cases e : zlt n par a
  · refine ⟨k + 1, by rw [zli_t h hn ha hq hp e, k1]; simp, ?_⟩
    have h1 := zS_light h ha hq hp e
    have h2 : zS n par a * 2 ^ (k + 1) = (2 * zS n par a) * 2 ^ k := by
      rw [Nat.pow_succ, Nat.mul_comm (2 ^ k) 2, ← Nat.mul_assoc, Nat.mul_comm (zS n par a) 2]
    rw [h2]
    exact Nat.le_trans (Nat.mul_le_mul_right _ (by omega)) k2
  · refine ⟨k, by rw [zli_f h hn ha hq hp e, k1], ?_⟩
    have h1 := zS_child h ha hp hq
    exact Nat.le_trans (Nat.mul_le_mul_right _ (by omega)) k2
theorem zli_bd (h : zt_ok n m par rk) (hn : n ≤ 40) {a : Nat} (ha : a < n) : ∃ k : Nat, zli n par a = (k : Int) ∧ k ≤ 5 := by
  obtain ⟨k, k1, k2⟩ := zli_few h hn a ha
  refine ⟨k, k1, ?_⟩
  have h1 := zS_pos (n := n) (par := par) ha
  rcases Nat.lt_or_ge k 6 with q | q
  · omega
  · exfalso
    have h2 : 2 ^ 6 ≤ 2 ^ k := Nat.pow_le_pow_right (by omega) q
    have h3 : 1 * 2 ^ k ≤ zS n par a * 2 ^ k := Nat.mul_le_mul_right _ h1
    omega
theorem zwd_gen (h : zt_ok n m par rk) (hn : n ≤ 40) {pt : Nat → Int} (hpt : ∀ v, v < n → v ≠ m → 0 ≤ pt v ∧ pt v ≤ 15) : ∀ a, a < n → ∃ k : Nat, zli n par a = (k : Int) ∧ (0 ≤ zwd n par pt a ∧ zwd n par pt a < 16 ^ k) ∧ ∀ w, zC par (zwg n par pt) a w = w * 16 ^ k + zwd n par pt a := by
  refine zt_ind h ⟨0, zli_root h, ?_, fun w => ?_⟩ (fun a q ha hq hne hp ih => ?_)
  · have : zwd n par pt m = 0 := zC_root h.2.1
    rw [this]; simp
  · have : zwd n par pt m = 0 := zC_root h.2.1
    rw [this, zC_root h.2.1]; simp
  · obtain ⟨k, k1, ⟨k2, k3⟩, k4⟩ := ih
    have ea : zwd n par pt a = zC par (zwg n par pt) q (zwg n par pt a 0) := zC_up h hn ha hp
    have hp15 := hpt a ha hne
    have hpos : (0 : Int) < 16 ^ k := Int.pow_pos (by omega)
    by_cases e : zlt n par a
    · rw [zwg_t e, k4] at ea
      refine ⟨k + 1, by rw [zli_t h hn ha hq hp e, k1]; simp, ?_, fun w => ?_⟩
      · rw [ea, Int.pow_succ]
        generalize (16 : Int) ^ k = X at *
        have h5 : (0 * 16 + pt a) * X = pt a * X := by simp
        rw [h5]
        have h6 : 0 ≤ pt a * X := Int.mul_nonneg hp15.1 (by omega)
        have h7 : pt a * X ≤ 15 * X := Int.mul_le_mul_of_nonneg_right hp15.2 (by omega)
        omega
      · rw [zC_up h hn ha hp, zwg_t e, k4, ea, Int.pow_succ]
        generalize (16 : Int) ^ k = X at *
        have h5 : (0 * 16 + pt a) * X = pt a * X := by simp
        have h6 : (w * 16 + pt a) * X = w * 16 * X + pt a * X := Int.add_mul _ _ _
        have h7 : w * (X * 16) = w * 16 * X := by rw [Int.mul_comm X 16, Int.mul_assoc]
        rw [h5, h6, h7]
        omega
    · rw [zwg_f e] at ea
      refine ⟨k, by rw [zli_f h hn ha hq hp e, k1], ?_, fun w => ?_⟩
      · rw [ea, k4]; simp only [Int.zero_mul, Int.zero_add]; exact ⟨k2, k3⟩
      · rw [zC_up h hn ha hp, zwg_f e, k4, ea, k4]; simp
/-- the climb from below c passes c -/
theorem zwd_pass (h : zt_ok n m par rk) (hn : n ≤ 40) {pt : Nat → Int} (hpt : ∀ v, v < n → v ≠ m → 0 ≤ pt v ∧ pt v ≤ 15) {c : Nat} : ∀ a, a < n → zB par a c → ∀ w, 0 ≤ w → ∃ y, 0 ≤ y ∧ zC par (zwg n par pt) a w = zC par (zwg n par pt) c y := by
  refine zt_ind h (fun ht w hw => ?_) (fun a q ha hq hne hp ih ht w hw => ?_)
  · rcases zB_iff.mp ht with e | ⟨e, -⟩
    · exact ⟨w, hw, by rw [e]⟩
    · exact absurd h.2.1 e
  · by_cases e : a = c
    · exact ⟨w, hw, by rw [e]⟩
    · rw [zC_up h hn ha hp]
      refine ih (zB_dn hp ht e) _ ?_
      have := hpt a ha hne
      by_cases e2 : zlt n par a
      · rw [zwg_t e2]; omega
      · rw [zwg_f e2]; exact hw
/-- the port to a light child on the way stands where the label's reader looks -/
theorem zwd_bits (h : zt_ok n m par rk) (hn : n ≤ 40) {pt : Nat → Int} (hpt : ∀ v, v < n → v ≠ m → 0 ≤ pt v ∧ pt v ≤ 15) {a c g : Nat} (hc : c < n) (ha : a < n) (hg : g < n) (hp : par c = (a : Int)) (hl : zlt n par c) (hb : zB par g c) :
    ∃ k : Nat, zli n par a = (k : Int) ∧ k ≤ 5 ∧ zwd n par pt g / 16 ^ k % 16 = pt c := by
  obtain ⟨y, y0, hy⟩ := zwd_pass h hn hpt g hg hb 0 (Int.le_refl 0)
  obtain ⟨k, k1, ⟨k2, k3⟩, k4⟩ := zwd_gen h hn hpt a ha
  obtain ⟨k', e1, e2⟩ := zli_bd h hn ha
  have : k' = k := by omega
  subst this
  refine ⟨k', k1, e2, ?_⟩
  have hcm : c ≠ m := by intro e; rw [e, h.2.1] at hp; omega
  have hp15 := hpt c hc hcm
  have e3 : zwd n par pt g = (y * 16 + pt c) * 16 ^ k' + zwd n par pt a := by
    have : zwd n par pt g = zC par (zwg n par pt) c y := hy
    rw [this, zC_up h hn hc hp, zwg_t hl, k4]
  have hpos : (0 : Int) < 16 ^ k' := Int.pow_pos (by omega)
  have e4 : zwd n par pt g / 16 ^ k' = y * 16 + pt c := by
    rw [e3, Int.add_comm, Int.add_mul_ediv_right _ _ (by omega), Int.ediv_eq_zero_of_lt k2 k3]
    omega
  rw [e4]
  omega
theorem zwd_bd (h : zt_ok n m par rk) (hn : n ≤ 40) {pt : Nat → Int} (hpt : ∀ v, v < n → v ≠ m → 0 ≤ pt v ∧ pt v ≤ 15) {a : Nat} (ha : a < n) : 0 ≤ zwd n par pt a ∧ zwd n par pt a < 1048576 := by
  obtain ⟨k, k1, ⟨k2, k3⟩, -⟩ := zwd_gen h hn hpt a ha
  obtain ⟨k', e1, e2⟩ := zli_bd h hn ha
  have : k' = k := by omega
  subst this
  have h6 : (16 : Int) ^ k' ≤ 1048576 := by
    rcases (show k' = 0 ∨ k' = 1 ∨ k' = 2 ∨ k' = 3 ∨ k' = 4 ∨ k' = 5 by omega) with z | z | z | z | z | z <;> rw [z] <;> decide
  omega
end ZL
