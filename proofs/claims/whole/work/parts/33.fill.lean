theorem q_upf {Z G : Nat → Int} {i : Nat} {v : Int} (h : v = Z i) (j : Nat) : q_up (fun j => if j < i then Z j else G j) i v j = if j < i + 1 then Z j else G j := by
  unfold q_up
  by_cases z : j = i
  · subst z
    rw [if_pos rfl, if_pos (by omega), h]
  · rw [if_neg z]
    show (if j < i then Z j else G j) = _
    by_cases z2 : j < i
    · rw [if_pos z2, if_pos (by omega)]
    · rw [if_neg z2, if_neg (by omega)]
section QAL
variable {p : Program} {l : Launch} {e : Env} {R : Room} {s : State} {m : MethodId} {args : Array Value} {below : List Frame} {meth : Method} {c : Code} {H : Heap} {locs : List Loc} {cells slots : Nat} {Q : State → Prop}
variable {cc : ByteArray} {nL : Nat} {own : String} {pc : Nat} {ls : Array Slot} {rest : List Value} {D : va_G} {A : Nat → Prop} {τ : Nat → ClassId} {ad : Nat → Nat} {N : Nat} {w : Nat → va_E} {Ts : List Cond}
theorem q_alen (F : CallFix p m c cc nL s args Ts own) (hW : qW D τ A s H locs ad N w) {k n : Nat} {G : Nat → Int} (hI : q_I τ w k n G) (hk : k < N) (hn : n < 2147483648) (hdg : decode cc pc = .ok (.arraylength, 1))
    (kk : ∀ v : Int32, v.toInt = (n : Int) → W p l e R s m args below meth c H locs cells slots Q (F0 m (pc + 1) ls (.int v :: rest))) : W p l e R s m args below meth c H locs cells slots Q (F0 m pc ls (.ref (ad k) :: rest)) := by
  obtain ⟨g, h1, h2⟩ := hI
  exact va_alen F.1 F.2.1 hW.2.2.1 hW.1 k 0 (cA := τ 0) (x := (n, .inl g)) (by rw [qL_at hk, h1]) rfl rfl hdg (kk _ (nI_toInt hn))
/-- the whole of one array into another -/
theorem q_copy (F : CallFix p m c cc nL s args lw_good own) (hW : qW D τ A s H locs ad N w) {k1 k2 n1 n2 : Nat} {G1 G2 : Nat → Int} (h1 : q_I τ w k1 n1 G1) (h2 : q_I τ w k2 n2 G2) (hk1 : k1 < N) (hk2 : k2 < N) {index : Nat} (hlink : Cond.methodLink own index arraycopyName ∈ lw_good) (hnat : Cond.native arraycopyName ∈ lw_good) (hstat : Cond.static arraycopyName ∈ lw_good) (hini : Cond.initialized "java/lang/System" ∈ lw_good) (hsize : ls.size = nL)
    {sp dp n : Int32} (j : Nat) (e1 : sp.toInt = 0) (e2 : dp.toInt = 0) (e3 : n.toInt = (j : Int)) (hj1 : j ≤ n1) (hj2 : j ≤ n2) (hfr : 1 ≤ R.frames) (hlo : (rest.map fun v => v.category).sum + (nativeFrameWords "java/lang/System" "arraycopy" 5 + 11) ≤ R.locals) (hdg : decode cc pc = .ok (.invokestatic index, 3))
    (kk : ∀ (H1 : Heap) (locs1 : List Loc) (w1 : Nat → va_E), qW D τ A s H1 locs1 ad N w1 → q_I τ w1 k2 n2 (fun i => if i < j then G1 i else G2 i) → (∀ q, q ≠ k2 → w1 q = w q) → W p l e R s m args below meth c H1 locs1 cells slots Q (F0 m (pc + 3) ls rest)) :
    W p l e R s m args below meth c H locs cells slots Q (F0 m pc ls (.int n :: .int dp :: .ref (ad k2) :: .int sp :: .ref (ad k1) :: rest)) := by
  obtain ⟨g1, a1, a2⟩ := h1
  obtain ⟨g2, b1, b2⟩ := h2
  have t1 : sp.toNatClampNeg = 0 := q_tn (j := 0) e1
  have t2 : dp.toNatClampNeg = 0 := q_tn (j := 0) e2
  have t3 : n.toNatClampNeg = j := q_tn e3
  have z0 : (0 : Int32).toInt = 0 := rfl
  refine va_copyi F.1 F.2.1 (F.2.2.1.trans hsize.symm) F.2.2.2.1 (F.2.2.2.2 _ hlink) (F.2.2.2.2 _ hnat) (F.2.2.2.2 _ hstat) (F.2.2.2.2 _ hini) hW.2.2.1 hW.1 hW.2.1 hW.2.2.2.1 k1 k2 0 0 (c0 := τ 0) (c1 := τ 0) (n0 := n1) (n1 := n2) (f := g1) (g := g2) (ty := .int) (by rw [qL_at hk1, a1]) (by rw [qL_at hk2, b1]) rfl rfl rfl (by rw [q_ltI, z0]; omega) (by rw [q_ltI, z0]; omega) (by rw [q_ltI, z0]; omega) (by rw [t1, t3]; omega) (by rw [t2, t3]; omega) (fun _ _ => rfl) hfr hlo hdg (fun H1 locs1 c1 c2 c3 => ?_)
  refine kk H1 locs1 _ (hW.put c1 c2 c3) ⟨_, va_up_self _ _ _, fun i hi => ?_⟩ (fun q hq => va_up_ne _ _ hq)
  rw [t1, t2, t3]
  show (va_cpy g1 g2 0 0 j i).toInt = if i < j then G1 i else G2 i
  by_cases z : i < j
  · rw [if_pos z, pk_cpy_in (by omega) (by omega)]
    have : 0 + (i - 0) = i := by omega
    rw [this]
    exact a2 i (by omega)
  · rw [if_neg z, pk_cpy_out (by omega)]
    exact b2 i hi
end QAL
set_option maxHeartbeats 4000000 in
set_option maxRecDepth 100000 in
/-- all places get x -/
theorem k_Ar_fill (l : Launch) (D : va_G) (τ : Nat → ClassId) (A : Nat → Prop) (ad : Nat → Nat) (N : Nat) (w : Nat → va_E) (k n : Nat) (G : Nat → Int) (hk : k < N) (hn : n < 2147483648) (hI : q_I τ w k n G) (x : Int32) : Met l y_Ar_fill (qws y_Ar_fill c_Ar_fill 4 none) ({ frames := 0, cells := 0, slots := 0, locals := 0 }) (qPc D τ A ad N w [.ref (ad k), .int x]) (va_Qv (fun w1 => q_I τ w1 k n (fun _ => x.toInt) ∧ ∀ q, q ≠ k → w1 q = w q) (qB D τ A ad N) A) 0 0 A := by
  refine q_of (by decide) (Nat.le_of_ble_eq_true rfl) rfl ?_
  intro PP EE s MM below meth CC ls F hr hlk hnm hex hl hW
  have hl : lv_has ls 4 [(0, .ref (ad k)), (1, .int x)] := hl
  refine q_iconst F d_Ar_fill_0 (by decide) (fun v1 hv1 => ?_)
  refine lv_istore_n (lv' := [(2, .int v1), (0, .ref (ad k)), (1, .int x)]) F.1 F.2.1 d_Ar_fill_1 rfl hl (by decide) rfl (fun ls2 hl2 => ?_)
  clear hl
  refine lv_aload_n F.1 F.2.1 d_Ar_fill_2 rfl (lv_at hl2 1 rfl) ?_
  refine q_alen F hW hI hk (by omega) d_Ar_fill_3 (fun v3 hv3 => ?_)
  refine lv_istore_n (lv' := [(3, .int v3), (2, .int v1), (0, .ref (ad k)), (1, .int x)]) F.1 F.2.1 d_Ar_fill_4 rfl hl2 (by decide) rfl (fun ls4 hl4 => ?_)
  clear hl2
  have hl5 : lv_has ls4 4 [(2, .int v1), (3, .int v3), (0, .ref (ad k)), (1, .int x)] := (lv_sub hl4 [1, 0, 2, 3] rfl)
  clear hl4
  obtain ⟨i, hi0⟩ : ∃ i : Nat, i = 0 := ⟨_, rfl⟩
  have hiv : v1.toInt = (i : Int) := by omega
  have hib : i ≤ n := by omega
  obtain ⟨wl, hwl⟩ : ∃ x : Nat → va_E, x = w := ⟨_, rfl⟩
  have hWl : qW D τ A s s.heap ([] : List Loc) ad N wl := by rw [hwl]; exact hW
  have hJ : q_I τ wl k n (fun j => if j < i then x.toInt else G j) := by rw [hwl]; exact hI.congr (fun j _ => by rw [if_neg (by omega)])
  have hfr : ∀ q, q ≠ k → wl q = w q := fun q _ => by rw [hwl]
  clear hi0 hv1 hwl
  generalize s.heap = Hl at hWl ⊢
  generalize ([] : List Loc) = locsl at hWl ⊢
  obtain ⟨f, hf⟩ : ∃ f : Nat, n + 1 ≤ i + f := ⟨n + 1, by omega⟩
  induction f generalizing i v1 ls4 wl Hl locsl with
  | zero => exact absurd hf (by omega)
  | succ f ihi =>
    refine lv_iload_n F.1 F.2.1 d_Ar_fill_5 rfl (lv_at hl5 0 rfl) ?_
    refine lv_iload_n F.1 F.2.1 d_Ar_fill_6 rfl (lv_at hl5 1 rfl) ?_
    refine q_icmp_ge (tgt := 20) F d_Ar_fill_7 (by decide) (fun c7 => ?_) (fun c7 => ?_)
    · exact q_vret F hr hlk hWl ⟨hJ.congr (fun j hj => by rw [if_pos (by omega)]), hfr⟩ d_Ar_fill_20
    · refine lv_aload_n F.1 F.2.1 d_Ar_fill_10 rfl (lv_at hl5 2 rfl) ?_
      refine lv_iload_n F.1 F.2.1 d_Ar_fill_11 rfl (lv_at hl5 0 rfl) ?_
      refine lv_iload_n F.1 F.2.1 d_Ar_fill_12 rfl (lv_at hl5 3 rfl) ?_
      refine q_iast F hWl hJ hk i (by omega) (by omega) d_Ar_fill_13 (fun H6 locs6 w6 hW6 hI6 hfr6 => ?_)
      replace hJ := hI6
      refine q_iinc (lv' := fun v7 => [(2, .int v7), (3, .int v3), (0, .ref (ad k)), (1, .int x)]) F d_Ar_fill_14 hl5 (k := 0) rfl (by decide) (by omega) (by decide) (fun _ => rfl) (fun v7 lsv7 hv7 hlv7 => ?_)
      clear hl5
      refine lv_goto (tgt := 5) F.1 F.2.1 d_Ar_fill_17 (by decide) ?_
      exact ihi (i := i + 1) (v1 := v7) (ls4 := lsv7) (wl := w6) (Hl := H6) (locsl := locs6) (hiv := by omega) (hib := by omega) (hWl := hW6) (hJ := hJ.congr (fun j _ => q_upf (Z := fun _ => x.toInt) rfl j)) (hfr := fun q hq => by rw [hfr6 q hq]; exact hfr q hq) (hf := by omega) (hl5 := (lv_sub hlv7 [0, 1, 2, 3] rfl))
