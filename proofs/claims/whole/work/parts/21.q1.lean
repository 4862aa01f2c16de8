/-! worlds by roles: cell number k of the system lies at the address ad k and holds w k -/
def qL (ad : Nat → Nat) (N : Nat) (w : Nat → va_E) : va_W := (List.range N).map (fun k => (ad k, w k))
theorem qL_at {ad : Nat → Nat} {N : Nat} {w : Nat → va_E} {k : Nat} (h : k < N) : (qL ad N w)[k]? = some (ad k, w k) := by
  unfold qL
  rw [List.getElem?_map, List.getElem?_range h]
  rfl
theorem qL_len (ad : Nat → Nat) (N : Nat) (w : Nat → va_E) : (qL ad N w).length = N := by unfold qL; simp
theorem qL_set {ad : Nat → Nat} {N : Nat} {w : Nat → va_E} {k : Nat} {x : va_E} : (qL ad N w).set k (ad k, x) = qL ad N (va_up w k x) := by
  refine List.ext_getElem? (fun i => ?_)
  rcases Nat.lt_or_ge i N with hi | hi
  · rw [List.getElem?_set, qL_at hi]
    by_cases e : k = i
    · subst e
      rw [if_pos rfl, if_pos (by rw [qL_len]; exact hi), qL_at hi]
      simp [va_up]
    · rw [if_neg e, qL_at hi]
      simp [va_up, show ¬ i = k from fun z => e z.symm]
  · rw [List.getElem?_eq_none (by rw [List.length_set, qL_len]; exact hi), List.getElem?_eq_none (by rw [qL_len]; exact hi)]
theorem qL_push {ad : Nat → Nat} {N : Nat} {w : Nat → va_E} {q : Nat} {x : va_E} : qL ad N w ++ [(q, x)] = qL (va_up ad N q) (N + 1) (va_up w N x) := by
  unfold qL
  rw [List.range_succ, List.map_append]
  congr 1
  · refine List.map_congr_left (fun k hk => ?_)
    have : k < N := List.mem_range.mp hk
    simp [va_up, Nat.ne_of_lt this]
  · simp [va_up]
theorem qL_congr {ad ad' : Nat → Nat} {N : Nat} {w w' : Nat → va_E} (h : ∀ k, k < N → ad k = ad' k ∧ w k = w' k) : qL ad N w = qL ad' N w' := by
  unfold qL
  refine List.map_congr_left (fun k hk => ?_)
  have := h k (List.mem_range.mp hk)
  rw [this.1, this.2]
/-- the array classes: int, long, boolean, int[] -/
def q_ts (τ : Nat → ClassId) : List (ClassId × FieldType) := [(τ 0, .int), (τ 1, .long), (τ 2, .boolean), (τ 3, .array .int)]
/-- the world, seen from a method that began at s -/
def qW (D : va_G) (τ : Nat → ClassId) (A : Nat → Prop) (s : State) (H : Heap) (locs : List Loc) (ad : Nat → Nat) (N : Nat) (w : Nat → va_E) : Prop :=
  va_P D qCl (qL ad N w) H ∧ va_D A (qL ad N w) ∧ va_K D qCl (q_ts τ) s ∧ va_S A s.heap H locs ∧ ∀ q, s.heap.size ≤ q → A q
/-- ints, longs, booleans -/
def q_I (τ : Nat → ClassId) (w : Nat → va_E) (k n : Nat) (G : Nat → Int) : Prop := ∃ g : Nat → Int32, w k = .inl (τ 0, n, .inl g) ∧ ∀ j, j < n → (g j).toInt = G j
def q_J (τ : Nat → ClassId) (w : Nat → va_E) (k n : Nat) (G : Nat → Nat) : Prop := ∃ g : Nat → Int64, w k = .inl (τ 1, n, .inr (.inl g)) ∧ ∀ j, j < n → g j = lN (G j)
def q_Z (τ : Nat → ClassId) (w : Nat → va_E) (k n : Nat) (B : Nat → Prop) : Prop := ∃ g : Nat → Int32, w k = .inl (τ 2, n, .inl g) ∧ ∀ j, j < n → (B j ∧ g j = 1) ∨ (¬ B j ∧ g j = 0)
/-- rows of ints: the outer array is k, its rows k + 1 and on -/
def q_G (τ : Nat → ClassId) (ad : Nat → Nat) (w : Nat → va_E) (k n r : Nat) (M : Nat → Nat → Int) : Prop := (∃ f : Nat → Option Nat, w k = .inl (τ 3, n, .inr (.inr (.inr (.inr f)))) ∧ ∀ i, i < n → f i = some (ad (k + 1 + i))) ∧ ∀ i, i < n → q_I τ w (k + 1 + i) r (M i)
def q_up (G : Nat → Int) (j : Nat) (z : Int) : Nat → Int := fun i => if i = j then z else G i
def q_up2 (M : Nat → Nat → Int) (i j : Nat) (z : Int) : Nat → Nat → Int := fun a b => if a = i ∧ b = j then z else M a b
def q_upN (G : Nat → Nat) (j : Nat) (z : Nat) : Nat → Nat := fun i => if i = j then z else G i
def q_upB (B : Nat → Prop) (j : Nat) (z : Prop) : Nat → Prop := fun i => if i = j then z else B i
theorem q_I.keep {τ : Nat → ClassId} {w w' : Nat → va_E} {k n : Nat} {G : Nat → Int} (h : q_I τ w k n G) (e : w' k = w k) : q_I τ w' k n G := by
  obtain ⟨g, h1, h2⟩ := h
  exact ⟨g, by rw [e]; exact h1, h2⟩
theorem q_J.keep {τ : Nat → ClassId} {w w' : Nat → va_E} {k n : Nat} {G : Nat → Nat} (h : q_J τ w k n G) (e : w' k = w k) : q_J τ w' k n G := by
  obtain ⟨g, h1, h2⟩ := h
  exact ⟨g, by rw [e]; exact h1, h2⟩
theorem q_Z.keep {τ : Nat → ClassId} {w w' : Nat → va_E} {k n : Nat} {B : Nat → Prop} (h : q_Z τ w k n B) (e : w' k = w k) : q_Z τ w' k n B := by
  obtain ⟨g, h1, h2⟩ := h
  exact ⟨g, by rw [e]; exact h1, h2⟩
theorem q_G.keep {τ : Nat → ClassId} {ad : Nat → Nat} {w w' : Nat → va_E} {k n r : Nat} {M : Nat → Nat → Int} (h : q_G τ ad w k n r M) (e : ∀ i, i ≤ n → w' (k + i) = w (k + i)) : q_G τ ad w' k n r M := by
  obtain ⟨⟨f, h1, h2⟩, h3⟩ := h
  refine ⟨⟨f, by rw [← h1]; exact e 0 (Nat.zero_le n), h2⟩, fun i hi => (h3 i hi).keep ?_⟩
  have := e (1 + i) (by omega)
  rw [← Nat.add_assoc] at this
  exact this
theorem q_I.congr {τ : Nat → ClassId} {w : Nat → va_E} {k n : Nat} {G G' : Nat → Int} (h : q_I τ w k n G) (e : ∀ j, j < n → G j = G' j) : q_I τ w k n G' := by
  obtain ⟨g, h1, h2⟩ := h
  exact ⟨g, h1, fun j hj => by rw [h2 j hj]; exact e j hj⟩
theorem q_G.congr {τ : Nat → ClassId} {ad : Nat → Nat} {w : Nat → va_E} {k n r : Nat} {M M' : Nat → Nat → Int} (h : q_G τ ad w k n r M) (e : ∀ i j, i < n → j < r → M i j = M' i j) : q_G τ ad w k n r M' := ⟨h.1, fun i hi => (h.2 i hi).congr (fun j hj => e i j hi hj)⟩
/-- a row of a grid is written -/
theorem q_G.put {τ : Nat → ClassId} {ad : Nat → Nat} {w w' : Nat → va_E} {k n r i : Nat} {M : Nat → Nat → Int} {G : Nat → Int} (h : q_G τ ad w k n r M) (hi : i < n) (hI : q_I τ w' (k + 1 + i) r G) (e : ∀ q, q ≠ k + 1 + i → w' q = w q) : q_G τ ad w' k n r (fun a b => if a = i then G b else M a b) := by
  obtain ⟨⟨f, h1, h2⟩, h3⟩ := h
  refine ⟨⟨f, by rw [e k (by omega)]; exact h1, h2⟩, fun a ha => ?_⟩
  by_cases q : a = i
  · subst q
    exact hI.congr (fun j _ => by simp)
  · exact ((h3 a ha).keep (e _ (by omega))).congr (fun j _ => by simp [q])
theorem q_tn {i : Int32} {j : Nat} (h : i.toInt = (j : Int)) : i.toNatClampNeg = j := by
  unfold Int32.toNatClampNeg
  rw [h]
  simp
theorem q_in {i : Int32} {j n : Nat} (h : i.toInt = (j : Int)) (hn : j < n) : vp_in i n := vp_in_iff.mpr ⟨by omega, by omega⟩
section QR
variable {p : Program} {l : Launch} {e : Env} {R : Room} {s : State} {m : MethodId} {args : Array Value} {below : List Frame} {meth : Method} {c : Code} {H : Heap} {locs : List Loc} {cells slots : Nat} {Q : State → Prop}
variable {cc : ByteArray} {nL : Nat} {Ts : List Cond} {own : String} {pc : Nat} {ls : Array Slot} {rest : List Value} {D : va_G} {A : Nat → Prop} {τ : Nat → ClassId} {ad : Nat → Nat} {N : Nat} {w : Nat → va_E}
theorem q_iald (F : CallFix p m c cc nL s args Ts own) (hW : qW D τ A s H locs ad N w) {k n : Nat} {G : Nat → Int} (hI : q_I τ w k n G) (hk : k < N) {i : Int32} (j : Nat) (hj : i.toInt = (j : Int)) (hn : j < n) (hdg : decode cc pc = .ok (.iaload, 1))
    (kk : ∀ v : Int32, v.toInt = G j → W p l e R s m args below meth c H locs cells slots Q (F0 m (pc + 1) ls (.int v :: rest))) : W p l e R s m args below meth c H locs cells slots Q (F0 m pc ls (.int i :: .ref (ad k) :: rest)) := by
  obtain ⟨g, h1, h2⟩ := hI
  refine va_iald F.1 F.2.1 hW.2.2.1 hW.1 k 0 (cA := τ 0) (n := n) (f := g) (by rw [qL_at hk, h1]) rfl (q_in hj hn) hdg ?_
  rw [q_tn hj]
  exact kk _ (h2 j hn)
theorem q_lald (F : CallFix p m c cc nL s args Ts own) (hW : qW D τ A s H locs ad N w) {k n : Nat} {G : Nat → Nat} (hI : q_J τ w k n G) (hk : k < N) {i : Int32} (j : Nat) (hj : i.toInt = (j : Int)) (hn : j < n) (hdg : decode cc pc = .ok (.laload, 1))
    (kk : W p l e R s m args below meth c H locs cells slots Q (F0 m (pc + 1) ls (.long (lN (G j)) :: rest))) : W p l e R s m args below meth c H locs cells slots Q (F0 m pc ls (.int i :: .ref (ad k) :: rest)) := by
  obtain ⟨g, h1, h2⟩ := hI
  refine va_lald F.1 F.2.1 hW.2.2.1 hW.1 k 1 (cA := τ 1) (n := n) (f := g) (by rw [qL_at hk, h1]) rfl (q_in hj hn) hdg ?_
  rw [q_tn hj, h2 j hn]
  exact kk
theorem q_zald (F : CallFix p m c cc nL s args Ts own) (hW : qW D τ A s H locs ad N w) {k n : Nat} {B : Nat → Prop} (hI : q_Z τ w k n B) (hk : k < N) {i : Int32} (j : Nat) (hj : i.toInt = (j : Int)) (hn : j < n) (hdg : decode cc pc = .ok (.baload, 1))
    (kk : ∀ v : Int32, (B j ∧ v = 1) ∨ (¬ B j ∧ v = 0) → W p l e R s m args below meth c H locs cells slots Q (F0 m (pc + 1) ls (.int v :: rest))) : W p l e R s m args below meth c H locs cells slots Q (F0 m pc ls (.int i :: .ref (ad k) :: rest)) := by
  obtain ⟨g, h1, h2⟩ := hI
  refine va_zald F.1 F.2.1 hW.2.2.1 hW.1 k 2 (cA := τ 2) (n := n) (f := g) (by rw [qL_at hk, h1]) rfl (q_in hj hn) hdg ?_
  rw [q_tn hj]
  exact kk _ (h2 j hn)
theorem q_aald (F : CallFix p m c cc nL s args Ts own) (hW : qW D τ A s H locs ad N w) {k n r : Nat} {M : Nat → Nat → Int} (hI : q_G τ ad w k n r M) (hk : k < N) {i : Int32} (j : Nat) (hj : i.toInt = (j : Int)) (hn : j < n) (hdg : decode cc pc = .ok (.aaload, 1))
    (kk : W p l e R s m args below meth c H locs cells slots Q (F0 m (pc + 1) ls (.ref (ad (k + 1 + j)) :: rest))) : W p l e R s m args below meth c H locs cells slots Q (F0 m pc ls (.int i :: .ref (ad k) :: rest)) := by
  obtain ⟨⟨f, h1, h2⟩, -⟩ := hI
  have ha : (qL ad N w)[k]? = some (ad k, .inl (τ 3, n, .inr (.inr (.inr (.inr f))))) := by rw [qL_at hk, h1]
  have hin : vp_in i n := q_in hj hn
  have hlt : i.toNatClampNeg < n := Nat.not_le.mp fun q => hin (Or.inr q)
  have e1 : va_rf (f i.toNatClampNeg) = .ref (ad (k + 1 + j)) := by rw [q_tn hj, h2 j hn]; rfl
  refine W.aald (v := va_rf (f i.toNatClampNeg)) (ty := .array .int) F.1 F.2.1 (hW.1 k _ ha) ((hW.2.2.1.2 3 _ rfl).1 n (fun j => va_rf (f j))) rfl (fun q => by cases q) (by show ¬ (i < 0 ∨ (arrV _ _ _).slots.size ≤ _); rw [arrV_size]; exact hin) (by show (arrV _ _ _).slots[_]? = _; rw [arrV_read _ _ hlt]) rfl rfl hdg ?_
  rw [e1]
  exact kk
/-- a write: the world behind it -/
theorem qW.put {H1 : Heap} {locs1 : List Loc} {k : Nat} {x : va_E} (hW : qW D τ A s H locs ad N w) (h1 : va_P D qCl ((qL ad N w).set k (ad k, x)) H1) (h2 : va_D A ((qL ad N w).set k (ad k, x))) (h3 : va_S A s.heap H1 locs1) : qW D τ A s H1 locs1 ad N (va_up w k x) := by
  rw [qL_set] at h1 h2
  exact ⟨h1, h2, hW.2.2.1, h3, hW.2.2.2.2⟩
theorem q_iast (F : CallFix p m c cc nL s args Ts own) (hW : qW D τ A s H locs ad N w) {k n : Nat} {G : Nat → Int} (hI : q_I τ w k n G) (hk : k < N) {i v : Int32} (j : Nat) (hj : i.toInt = (j : Int)) (hn : j < n) (hdg : decode cc pc = .ok (.iastore, 1))
    (kk : ∀ (H1 : Heap) (locs1 : List Loc) (w1 : Nat → va_E), qW D τ A s H1 locs1 ad N w1 → q_I τ w1 k n (q_up G j v.toInt) → (∀ q, q ≠ k → w1 q = w q) → W p l e R s m args below meth c H1 locs1 cells slots Q (F0 m (pc + 1) ls rest)) : W p l e R s m args below meth c H locs cells slots Q (F0 m pc ls (.int v :: .int i :: .ref (ad k) :: rest)) := by
  obtain ⟨g, h1, h2⟩ := hI
  refine va_iast F.1 F.2.1 hW.2.2.1 hW.1 hW.2.1 hW.2.2.2.1 k 0 (cA := τ 0) (n := n) (f := g) (by rw [qL_at hk, h1]) rfl (q_in hj hn) hdg (fun H1 locs1 a1 a2 a3 => ?_)
  refine kk H1 locs1 _ (hW.put a1 a2 a3) ⟨upd g i.toNatClampNeg v, va_up_self _ _ _, fun b hb => ?_⟩ (fun q hq => va_up_ne _ _ hq)
  rw [q_tn hj]
  unfold q_up
  by_cases z : b = j
  · subst z; rw [pk_us, if_pos rfl]
  · rw [pk_un z, if_neg z]; exact h2 b hb
theorem q_last (F : CallFix p m c cc nL s args Ts own) (hW : qW D τ A s H locs ad N w) {k n : Nat} {G : Nat → Nat} (hI : q_J τ w k n G) (hk : k < N) {i : Int32} {v : Nat} (j : Nat) (hj : i.toInt = (j : Int)) (hn : j < n) (hdg : decode cc pc = .ok (.lastore, 1))
    (kk : ∀ (H1 : Heap) (locs1 : List Loc) (w1 : Nat → va_E), qW D τ A s H1 locs1 ad N w1 → q_J τ w1 k n (q_upN G j v) → (∀ q, q ≠ k → w1 q = w q) → W p l e R s m args below meth c H1 locs1 cells slots Q (F0 m (pc + 1) ls rest)) : W p l e R s m args below meth c H locs cells slots Q (F0 m pc ls (.long (lN v) :: .int i :: .ref (ad k) :: rest)) := by
  obtain ⟨g, h1, h2⟩ := hI
  refine va_last F.1 F.2.1 hW.2.2.1 hW.1 hW.2.1 hW.2.2.2.1 k 1 (cA := τ 1) (n := n) (f := g) (by rw [qL_at hk, h1]) rfl (q_in hj hn) hdg (fun H1 locs1 a1 a2 a3 => ?_)
  refine kk H1 locs1 _ (hW.put a1 a2 a3) ⟨vp_updL g i.toNatClampNeg (lN v), va_up_self _ _ _, fun b hb => ?_⟩ (fun q hq => va_up_ne _ _ hq)
  rw [q_tn hj]
  unfold q_upN
  by_cases z : b = j
  · subst z; rw [pk_uLs, if_pos rfl]
  · rw [pk_uLn z, if_neg z]; exact h2 b hb
theorem q_zast (F : CallFix p m c cc nL s args Ts own) (hW : qW D τ A s H locs ad N w) {k n : Nat} {B : Nat → Prop} (hI : q_Z τ w k n B) (hk : k < N) {i v : Int32} {P : Prop} (hv : (P ∧ v = 1) ∨ (¬ P ∧ v = 0)) (j : Nat) (hj : i.toInt = (j : Int)) (hn : j < n) (hdg : decode cc pc = .ok (.bastore, 1))
    (kk : ∀ (H1 : Heap) (locs1 : List Loc) (w1 : Nat → va_E), qW D τ A s H1 locs1 ad N w1 → q_Z τ w1 k n (q_upB B j P) → (∀ q, q ≠ k → w1 q = w q) → W p l e R s m args below meth c H1 locs1 cells slots Q (F0 m (pc + 1) ls rest)) : W p l e R s m args below meth c H locs cells slots Q (F0 m pc ls (.int v :: .int i :: .ref (ad k) :: rest)) := by
  obtain ⟨g, h1, h2⟩ := hI
  refine va_zast F.1 F.2.1 hW.2.2.1 hW.1 hW.2.1 hW.2.2.2.1 k 2 (cA := τ 2) (n := n) (f := g) (by rw [qL_at hk, h1]) rfl (q_in hj hn) hdg (fun H1 locs1 a1 a2 a3 => ?_)
  have ev : vp_nar .boolean v = v := by
    rcases hv with ⟨-, e⟩ | ⟨-, e⟩ <;> subst e <;> decide
  rw [ev] at a1 a2
  refine kk H1 locs1 _ (hW.put a1 a2 a3) ⟨upd g i.toNatClampNeg v, va_up_self _ _ _, fun b hb => ?_⟩ (fun q hq => va_up_ne _ _ hq)
  rw [q_tn hj]
  unfold q_upB
  by_cases z : b = j
  · subst z; rw [pk_us, if_pos rfl]; exact hv
  · rw [pk_un z, if_neg z]; exact h2 b hb
end QR
