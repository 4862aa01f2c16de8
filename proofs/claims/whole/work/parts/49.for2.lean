noncomputable def zl1 (m : Nat) (par : Nat → Int) (v : Nat) : Int := if zz_dec (zlt m par v) = true then 1 else 0
theorem zl1_t {m : Nat} {par : Nat → Int} {v : Nat} (h : zlt m par v) : zl1 m par v = 1 := by unfold zl1; rw [zz_dec_t h]; simp
theorem zl1_f {m : Nat} {par : Nat → Int} {v : Nat} (h : ¬ zlt m par v) : zl1 m par v = 0 := by unfold zl1; rw [zz_dec_f h]; simp
theorem zli_up {n m : Nat} {par : Nat → Int} {rk : Nat → Nat} (h : zt_ok n m par rk) (hn : n ≤ 40) {a q : Nat} (ha : a < n) (hq : q < n) (hp : par a = (q : Int)) : zli n par a = zli n par q + zl1 n par a := by
  by_cases e : zlt n par a
  · rw [zli_t h hn ha hq hp e, zl1_t e]
  · rw [zli_f h hn ha hq hp e, zl1_f e]; omega
theorem zhv_all {m q i : Nat} {par : Nat → Int} {S : Nat → Nat} {G : Nat → Int} (h : ∀ v, v < m → zhv par S v i (G v)) (hp : par i = (q : Int)) (hq : zhv par S q (i + 1) (i : Int)) : ∀ v, v < m → zhv par S v (i + 1) (q_up G q (i : Int) v) := by
  intro v hv
  unfold q_up
  by_cases e : v = q
  · subst e; rw [if_pos rfl]; exact hq
  · rw [if_neg e]; exact zhv_skip (h v hv) (by omega)
/-- what is placed: the children of x up to number i -/
def zpl_at (m : Nat) (par : Nat → Int) (x i : Nat) (P L Pr Lr : Nat → Int) : Prop := ∀ c, c < m → ((par c = (x : Int) ∧ zbf m par x i c) → Pr c = P x + (zbh m par x c : Int) ∧ Lr c = L x + zl1 m par c) ∧ (¬ (par c = (x : Int) ∧ zbf m par x i c) → Pr c = P c ∧ Lr c = L c)
theorem zpl_at_self {m x i : Nat} {par : Nat → Int} {P L Pr Lr : Nat → Int} (h : zpl_at m par x i P L Pr Lr) (hx : x < m) (hp : par x ≠ (x : Int)) : Pr x = P x ∧ Lr x = L x := (h x hx).2 (fun q => hp q.1)
theorem zpl_at_0 {n m : Nat} {par : Nat → Int} {rk : Nat → Nat} (h : zt_ok n m par rk) {x b : Nat} {P L : Nat → Int} (hz : zh n par x = (b : Int)) (hpb : par b = (x : Int)) : zpl_at n par x 0 P L (q_up P b (P x + 1)) (q_up L b (L x)) := by
  intro c hc
  unfold q_up
  constructor
  · rintro ⟨h1, h2 | h2⟩
    · have e : c = b := by omega
      subst e
      rw [if_pos rfl, if_pos rfl, zbh_h h2]
      refine ⟨by simp, ?_⟩
      rw [zl1_f (fun q => q.2 (by rw [h1]; simpa using h2.symm))]
      omega
    · omega
  · intro h1
    have e : c ≠ b := fun z => h1 ⟨by rw [z]; exact hpb, Or.inl (by rw [z]; exact hz.symm)⟩
    rw [if_neg e, if_neg e]
    exact ⟨rfl, rfl⟩
theorem zpl_at_s {n : Nat} {par : Nat → Int} {x i b : Nat} {P L Pr Lr : Nat → Int} {y z : Int} (h : zpl_at n par x i P L Pr Lr) (hz : zh n par x = (b : Int)) (hib : i ≠ b) (hp : par i = (x : Int)) (hy : y = P x + (zbh n par x i : Int)) (hl : z = L x + 1) : zpl_at n par x (i + 1) P L (q_up Pr i y) (q_up Lr i z) := by
  intro c hc
  unfold q_up
  by_cases e : c = i
  · subst e
    rw [if_pos rfl, if_pos rfl]
    constructor
    · rintro -
      refine ⟨hy, ?_⟩
      rw [hl, zl1_t ⟨by omega, by rw [hp]; simp only [Int.toNat_natCast]; omega⟩]
    · intro h1; exact absurd ⟨hp, Or.inr (by omega)⟩ h1
  · rw [if_neg e, if_neg e]
    have hi : zbf n par x (i + 1) c ↔ zbf n par x i c := by unfold zbf; constructor <;> rintro (q | q) <;> first | exact Or.inl q | exact Or.inr (by omega)
    rw [hi]
    exact h c hc
theorem zpl_at_n {n : Nat} {par : Nat → Int} {x i : Nat} {P L Pr Lr : Nat → Int} (h : zpl_at n par x i P L Pr Lr) (hn : par i ≠ (x : Int) ∨ (i : Int) = zh n par x) : zpl_at n par x (i + 1) P L Pr Lr := by
  intro c hc
  have hi : (par c = (x : Int) ∧ zbf n par x (i + 1) c) ↔ (par c = (x : Int) ∧ zbf n par x i c) := by
    unfold zbf
    constructor
    · rintro ⟨h1, q | q⟩
      · exact ⟨h1, Or.inl q⟩
      · by_cases e : c = i
        · subst e
          rcases hn with z | z
          · exact absurd h1 z
          · exact ⟨h1, Or.inl z⟩
        · exact ⟨h1, Or.inr (by omega)⟩
    · rintro ⟨h1, q | q⟩
      · exact ⟨h1, Or.inl q⟩
      · exact ⟨h1, Or.inr (by omega)⟩
  rw [hi]
  exact h c hc
/-- all children of x are placed, nothing else -/
def zpl_of (m : Nat) (par : Nat → Int) (x : Nat) (P L Pr Lr : Nat → Int) : Prop := ∀ c, c < m → (par c = (x : Int) → Pr c = P x + (zbh m par x c : Int) ∧ Lr c = L x + zl1 m par c) ∧ (par c ≠ (x : Int) → Pr c = P c ∧ Lr c = L c)
theorem zpl_at_end {n : Nat} {par : Nat → Int} {x : Nat} {P L Pr Lr : Nat → Int} (h : zpl_at n par x n P L Pr Lr) : zpl_of n par x P L Pr Lr := fun c hc => ⟨fun q => (h c hc).1 ⟨q, Or.inr hc⟩, fun q => (h c hc).2 (fun z => q z.1)⟩
theorem zpl_go {m r i : Nat} {Wt : Nat → Nat → Int} {O : Nat → Nat} {P L Pr Lr : Nat → Int} (hg : zg_ok m Wt) (hall : zall m Wt) (hr : r < m) (hm : m ≤ 40) (ho : zo_ok m (zd m Wt r) m O) (hi : i < m) (h : ∀ v, v < m → (v = r ∨ ∃ j, j < i ∧ zpa m Wt r v = (O j : Int)) → P v = zpl m (zpa m Wt r) v ∧ L v = zli m (zpa m Wt r) v) (hx : P (O i) = zpl m (zpa m Wt r) (O i) ∧ L (O i) = zli m (zpa m Wt r) (O i)) (hs : zpl_of m (zpa m Wt r) (O i) P L Pr Lr) : ∀ v, v < m → (v = r ∨ ∃ j, j < i + 1 ∧ zpa m Wt r v = (O j : Int)) → Pr v = zpl m (zpa m Wt r) v ∧ Lr v = zli m (zpa m Wt r) v := by
  have T := zpa_ok hg hall hr
  have inj := zo_inj ho
  intro v hv hc
  by_cases e : zpa m Wt r v = (O i : Int)
  · obtain ⟨h1, h2⟩ := (hs v hv).1 e
    rw [h1, h2, hx.1, hx.2, zpl_up T hm hv (ho.1 i hi).1 e, zli_up T hm hv (ho.1 i hi).1 e]
    exact ⟨rfl, rfl⟩
  · obtain ⟨h1, h2⟩ := (hs v hv).2 e
    rw [h1, h2]
    refine h v hv ?_
    rcases hc with z | ⟨j, j1, j2⟩
    · exact Or.inl z
    · refine Or.inr ⟨j, ?_, j2⟩
      rcases Nat.lt_or_ge j i with q | q
      · exact q
      · have : j = i := by omega
        rw [this] at j2
        exact absurd j2 e
/-- a node whose turn comes has its place -/
theorem zpl_turn {m r i : Nat} {Wt : Nat → Nat → Int} {O : Nat → Nat} (hg : zg_ok m Wt) (hall : zall m Wt) (hr : r < m) (ho : zo_ok m (zd m Wt r) m O) (hi : i < m) : O i = r ∨ ∃ j, j < i ∧ zpa m Wt r (O i) = (O j : Int) := by
  have T := zpa_ok hg hall hr
  by_cases e : O i = r
  · exact Or.inl e
  · right
    obtain ⟨q, q1, q2, -⟩ := T.2.2.1 (O i) (ho.1 i hi).1 e
    obtain ⟨j, j1, j2⟩ := ho.2.1 q q2 (by have := zd_bd hg hr q2; omega)
    obtain ⟨k, k1, k2, k3⟩ := zo_par hg hall hr ho j1 (ho.1 i hi).1 (by rw [j2]; exact q1)
    have := zo_inj ho k i k2 hi k3
    exact ⟨j, by omega, by rw [j2]; exact q1⟩
set_option maxHeartbeats 4000000 in
set_option maxRecDepth 100000 in
/-- the heavy children -/
theorem k_Fo_findHeavies (l : Launch) (D : va_G) (τ : Nat → ClassId) (A : Nat → Prop) (ad : Nat → Nat) (N : Nat) (w : Nat → va_E) (hb : 469 ≤ N) (Pl Sz Hv Lt : Nat → Nat → Int) (Pa : Nat → Int) (hF : qFor τ ad w Pl Sz Hv Lt Pa) (m : Nat) (hm40 : m ≤ 40) (n : Int) (bh wt : Nat → Nat → Int) (hN : qNet τ ad w 85 n bh wt) (hn : n = m) (Wt : Nat → Nat → Int) (od : Nat → Nat → Nat) (hY : qWay τ ad w m Wt od) (hZ : zn_ok m bh wt Wt) (x : Int32) (r : Nat) (hx : x.toInt = r) (hr9 : r < m) (hm1 : 1 ≤ m) (hall : zall m Wt) (hPa : ∀ a, a < m → Pa a = zpa m Wt r a) (hSz : ∀ a, a < m → Sz r a = (zS m (zpa m Wt r) a : Int)) : Met l y_Fo_findHeavies (qws y_Fo_findHeavies c_Fo_findHeavies 6 none) ({ frames := 1, cells := 0, slots := 0, locals := 23 }) (qPc D τ A ad N w [.ref (ad 256), .int x]) (va_Qv (fun w1 => (∃ Hr, qFor τ ad w1 Pl Sz (q_row Hv r Hr) Lt Pa ∧ ∀ a, a < m → Hr a = zh m (zpa m Wt r) a) ∧ (∀ q, (q < 256 ∨ 422 ≤ q) → w1 q = w q)) (qB D τ A ad N) A) 0 0 A := by
  refine q_of (by decide) (Nat.le_of_ble_eq_true rfl) rfl ?_
  intro PP EE s MM below meth CC ls F hr hlk hnm hex hl hW
  have hl : lv_has ls 6 [(0, .ref (ad 256)), (1, .int x)] := hl
  obtain ⟨fo, fP, fS, fH, fL, fA⟩ := id hF
  obtain ⟨⟨l32, lho, hl32⟩, lhB, lhT⟩ := id hN
  obtain ⟨hyo, ⟨FF, hyF, hyd⟩, OO, hyO, hyo2⟩ := id hY
  have T := zpa_ok hZ.1 hall hr9
  replace fH := fH.row0 (i := r)
  refine lv_aload_n F.1 F.2.1 d_Fo_findHeavies_0 rfl (lv_at hl 0 rfl) ?_
  refine gf_Fo_16 F hW (by omega) fo d_Fo_findHeavies_1 ?_
  refine lv_iload_n F.1 F.2.1 d_Fo_findHeavies_4 rfl (lv_at hl 1 rfl) ?_
  refine q_aald F hW fS (by omega) r (by omega) (by omega) d_Fo_findHeavies_5 ?_
  refine lv_astore_n (lv' := [(2, .ref (ad (298 + 1 + r))), (0, .ref (ad 256)), (1, .int x)]) F.1 F.2.1 d_Fo_findHeavies_6 rfl hl (by decide) rfl (fun ls1 hl1 => ?_)
  clear hl
  refine lv_aload_n F.1 F.2.1 d_Fo_findHeavies_7 rfl (lv_at hl1 1 rfl) ?_
  refine gf_Fo_19 F hW (by omega) fo d_Fo_findHeavies_8 ?_
  refine lv_iload_n F.1 F.2.1 d_Fo_findHeavies_11 rfl (lv_at hl1 2 rfl) ?_
  refine q_aald F hW fH (by omega) r (by omega) (by omega) d_Fo_findHeavies_12 ?_
  refine lv_astore_n (lv' := [(3, .ref (ad (339 + 1 + r))), (2, .ref (ad (298 + 1 + r))), (0, .ref (ad 256)), (1, .int x)]) F.1 F.2.1 d_Fo_findHeavies_13 rfl hl1 (by decide) rfl (fun ls2 hl2 => ?_)
  clear hl1
  refine lv_aload_n F.1 F.2.1 d_Fo_findHeavies_14 rfl (lv_at hl2 0 rfl) ?_
  refine q_iconst F d_Fo_findHeavies_15 (by decide) (fun v3 hv3 => ?_)
  refine q_callv hW (q_cS (As := [.ref (ad (339 + 1 + r)), .int v3]) (rest := []) F hW cs_Fo_65 hs_Ar_fill (k_Ar_fill l D τ A ad N w (339 + 1 + r) 40 _ (by omega) (by decide) (fH.rowI (by omega)) v3) rfl rfl ⟨by decide, by decide⟩ rfl hl2.1 rfl (Nat.le_of_ble_eq_true rfl) d_Fo_findHeavies_16 ⟨Nat.le_refl _, Nat.le_refl _⟩) (fun w4 H4 locs4 hp4 hW4 => ?_)
  obtain ⟨hI4, hfr4⟩ := hp4
  replace fo := (hfr4 _ (by omega)).trans fo
  replace lho := (hfr4 _ (by omega)).trans lho
  replace hyo := (hfr4 _ (by omega)).trans hyo
  replace hN := hN.keep (fun q h1 h2 => hfr4 _ (by omega))
  replace hY := hY.keep (fun q h1 h2 => hfr4 _ (by omega))
  replace fP := fP.keep (fun i hi => hfr4 _ (by omega))
  replace fS := fS.keep (fun i hi => hfr4 _ (by omega))
  replace fH := fH.row (by omega) hI4 hfr4
  replace fL := fL.keep (fun i hi => hfr4 _ (by omega))
  replace fA := fA.keep (hfr4 _ (by omega))
  have hfr0 : (∀ q, (q < 256 ∨ 422 ≤ q) → w4 q = w q) := fun q hq => hfr4 q (by omega)
  refine q_iconst F d_Fo_findHeavies_19 (by decide) (fun v5 hv5 => ?_)
  refine lv_istore (lv' := [(4, .int v5), (3, .ref (ad (339 + 1 + r))), (2, .ref (ad (298 + 1 + r))), (0, .ref (ad 256)), (1, .int x)]) F.1 F.2.1 d_Fo_findHeavies_20 hl2 (by decide) rfl (fun ls6 hl6 => ?_)
  clear hl2
  obtain ⟨i, hi0⟩ : ∃ i : Nat, i = 0 := ⟨_, rfl⟩
  have hiv : v5.toInt = (i : Int) := by omega
  have hib : i ≤ m := by omega
  obtain ⟨wl, hwl⟩ : ∃ x : Nat → va_E, x = w4 := ⟨_, rfl⟩
  have hWl : qW D τ A s H4 locs4 ad N wl := by rw [hwl]; exact hW4
  have fo : wl 256 = .inr (0, [.ref (ad 85), .ref (ad 168), .ref (ad 257), .ref (ad 298), .ref (ad 339), .ref (ad 380), .ref (ad 421)]) := by rw [hwl]; exact fo
  have fP : q_G τ ad wl 257 40 40 Pl := by rw [hwl]; exact fP
  have fS : q_G τ ad wl 298 40 40 Sz := by rw [hwl]; exact fS
  have fL : q_G τ ad wl 380 40 40 Lt := by rw [hwl]; exact fL
  have fA : q_I τ wl 421 40 Pa := by rw [hwl]; exact fA
  have hN : qNet τ ad wl 85 n bh wt := by rw [hwl]; exact hN
  have hY : qWay τ ad wl m Wt od := by rw [hwl]; exact hY
  have hfl : (∀ q, (q < 256 ∨ 422 ≤ q) → wl q = w q) := by rw [hwl]; exact hfr0
  have hH : ∃ Hr, q_G τ ad wl 339 40 40 (q_row Hv r Hr) ∧ ∀ v, v < m → zhv (zpa m Wt r) (zS m (zpa m Wt r)) v i (Hr v) := ⟨_, by rw [hwl]; exact fH, fun a _ => by rw [hi0, hv3]; exact zhv_0⟩
  clear hi0 hv5 hwl
  generalize H4 = Hl at hWl ⊢
  generalize locs4 = locsl at hWl ⊢
  obtain ⟨f, hf⟩ : ∃ f : Nat, m + 1 ≤ i + f := ⟨m + 1, by omega⟩
  induction f generalizing i v5 ls6 wl Hl locsl with
  | zero => exact absurd hf (by omega)
  | succ f ihi =>
    obtain ⟨Hr, fH, hH1⟩ := hH
    obtain ⟨⟨l32, lho, hl32⟩, lhB, lhT⟩ := id hN
    obtain ⟨hyo, ⟨FF, hyF, hyd⟩, OO, hyO, hyo2⟩ := id hY
    refine lv_iload F.1 F.2.1 d_Fo_findHeavies_22 (lv_at hl6 0 rfl) ?_
    refine lv_aload_n F.1 F.2.1 d_Fo_findHeavies_24 rfl (lv_at hl6 3 rfl) ?_
    refine gf_Fo_29 F hWl (by omega) fo d_Fo_findHeavies_25 ?_
    refine q_calli hWl (q_cV (As := []) (rest := [.int v5]) F hWl cs_Fo_56 hd_Ne_size rfl (by omega) lho (k_Ne_size l D τ A ad N wl 85 (by omega) n bh wt hN) rfl rfl ⟨by decide, by decide⟩ rfl hl6.1 rfl (Nat.le_of_ble_eq_true rfl) d_Fo_findHeavies_28 ⟨Nat.le_refl _, Nat.le_refl _⟩) (fun v7 w7 H7 locs7 hp7 hW7 => ?_)
    obtain ⟨hq7, hp7⟩ := hp7
    replace hq7 := hq7.symm
    subst hq7
    refine q_icmp_ge (tgt := 82) F d_Fo_findHeavies_31 (by decide) (fun c31 => ?_) (fun c31 => ?_)
    · exact q_vret F hr hlk hW7 ⟨⟨Hr, ⟨fo, fP, fS, fH, fL, fA⟩, fun a ha => zhv_end ((show i = m by omega) ▸ hH1 a ha)⟩, hfl⟩ d_Fo_findHeavies_82
    · have hPi := hPa i (by omega)
      have hSi := hSz i (by omega)
      refine lv_aload_n F.1 F.2.1 d_Fo_findHeavies_34 rfl (lv_at hl6 3 rfl) ?_
      refine gf_Fo_25 F hW7 (by omega) fo d_Fo_findHeavies_35 ?_
      refine lv_iload F.1 F.2.1 d_Fo_findHeavies_38 (lv_at hl6 0 rfl) ?_
      refine q_iald F hW7 fA (by omega) i (by omega) (by omega) d_Fo_findHeavies_40 (fun v8 hv8 => ?_)
      refine lv_istore (lv' := [(5, .int v8), (4, .int v5), (3, .ref (ad (339 + 1 + r))), (2, .ref (ad (298 + 1 + r))), (0, .ref (ad 256)), (1, .int x)]) F.1 F.2.1 d_Fo_findHeavies_41 hl6 (by decide) rfl (fun ls9 hl9 => ?_)
      clear hl6
      refine lv_iload F.1 F.2.1 d_Fo_findHeavies_43 (lv_at hl9 0 rfl) ?_
      refine q_iconst F d_Fo_findHeavies_45 (by decide) (fun v10 hv10 => ?_)
      refine q_icmp_eq (tgt := 76) F d_Fo_findHeavies_46 (by decide) (fun c46 => ?_) (fun c46 => ?_)
      · refine q_iinc (lv' := fun v11 => [(4, .int v11), (5, .int v8), (3, .ref (ad (339 + 1 + r))), (2, .ref (ad (298 + 1 + r))), (0, .ref (ad 256)), (1, .int x)]) F d_Fo_findHeavies_76 hl9 (k := 1) rfl (by decide) (by omega) (by decide) (fun _ => rfl) (fun v11 lsv11 hv11 hlv11 => ?_)
        clear hl9
        refine lv_goto (tgt := 22) F.1 F.2.1 d_Fo_findHeavies_79 (by decide) ?_
        exact ihi (i := i + 1) (v5 := v11) (ls6 := lsv11) (wl := wl) (Hl := H7) (locsl := locs7) (hiv := by omega) (hib := by omega) (hWl := hW7) (fo := fo) (fP := fP) (fS := fS) (fL := fL) (fA := fA) (hN := hN) (hY := hY) (hfl := hfl) (hH := ⟨Hr, fH, fun v hv => zhv_skip (hH1 v hv) (by omega)⟩) (hf := by omega) (hl6 := (lv_sub hlv11 [0, 2, 3, 4, 5] rfl))
      · have hir : i ≠ r := fun z => by
          have h9 : zpa m Wt r i = -1 := by rw [z]; exact T.2.1
          omega
        obtain ⟨q1, q1e, q1m, -⟩ := T.2.2.1 i (by omega) hir
        have hHq := hH1 q1 q1m
        have hrg := zhv_rng hHq
        refine lv_aload_n F.1 F.2.1 d_Fo_findHeavies_49 rfl (lv_at hl9 2 rfl) ?_
        refine lv_iload F.1 F.2.1 d_Fo_findHeavies_50 (lv_at hl9 0 rfl) ?_
        refine q_iald F hW7 (fH.rowI (i := r) (by omega)) (by omega) q1 (by omega) (by omega) d_Fo_findHeavies_52 (fun v12 hv12 => ?_)
        refine q_iconst F d_Fo_findHeavies_53 (by decide) (fun v13 hv13 => ?_)
        refine q_icmp_eq (tgt := 70) F d_Fo_findHeavies_54 (by decide) (fun c54 => ?_) (fun c54 => ?_)
        · refine lv_aload_n F.1 F.2.1 d_Fo_findHeavies_70 rfl (lv_at hl9 2 rfl) ?_
          refine lv_iload F.1 F.2.1 d_Fo_findHeavies_71 (lv_at hl9 0 rfl) ?_
          refine lv_iload F.1 F.2.1 d_Fo_findHeavies_73 (lv_at hl9 1 rfl) ?_
          refine q_iast F hW7 (fH.rowI (i := r) (by omega)) (by omega) q1 (by omega) (by omega) d_Fo_findHeavies_75 (fun H14 locs14 w14 hW14 hI14 hfr14 => ?_)
          replace fo := (hfr14 _ (by omega)).trans fo
          replace lho := (hfr14 _ (by omega)).trans lho
          replace hyo := (hfr14 _ (by omega)).trans hyo
          replace hN := hN.keep (fun q h1 h2 => hfr14 _ (by omega))
          replace hY := hY.keep (fun q h1 h2 => hfr14 _ (by omega))
          replace fP := fP.keep (fun i hi => hfr14 _ (by omega))
          replace fS := fS.keep (fun i hi => hfr14 _ (by omega))
          replace fH := fH.row (by omega) hI14 hfr14
          replace fL := fL.keep (fun i hi => hfr14 _ (by omega))
          replace fA := fA.keep (hfr14 _ (by omega))
          rw [hiv] at fH
          replace hfl : (∀ q, (q < 256 ∨ 422 ≤ q) → w14 q = w q) := fun q hq => by rw [hfr14 q (by omega)]; exact hfl q hq
          refine q_iinc (lv' := fun v15 => [(4, .int v15), (5, .int v8), (3, .ref (ad (339 + 1 + r))), (2, .ref (ad (298 + 1 + r))), (0, .ref (ad 256)), (1, .int x)]) F d_Fo_findHeavies_76 hl9 (k := 1) rfl (by decide) (by omega) (by decide) (fun _ => rfl) (fun v15 lsv15 hv15 hlv15 => ?_)
          clear hl9
          refine lv_goto (tgt := 22) F.1 F.2.1 d_Fo_findHeavies_79 (by decide) ?_
          exact ihi (i := i + 1) (v5 := v15) (ls6 := lsv15) (wl := w14) (Hl := H14) (locsl := locs14) (hiv := by omega) (hib := by omega) (hWl := hW14) (fo := fo) (fP := fP) (fS := fS) (fL := fL) (fA := fA) (hN := hN) (hY := hY) (hfl := hfl) (hH := ⟨_, fH, zhv_all hH1 q1e (zhv_take hHq q1e (Or.inl (by omega)))⟩) (hf := by omega) (hl6 := (lv_sub hlv15 [0, 2, 3, 4, 5] rfl))
        · obtain ⟨h9, hh9⟩ : ∃ h9 : Nat, Hr q1 = (h9 : Int) := ⟨(Hr q1).toNat, by omega⟩
          have hS9 := hSz h9 (by omega)
          refine lv_aload_n F.1 F.2.1 d_Fo_findHeavies_57 rfl (lv_at hl9 3 rfl) ?_
          refine lv_iload F.1 F.2.1 d_Fo_findHeavies_58 (lv_at hl9 1 rfl) ?_
          refine q_iald F hW7 (fS.2 r (by omega)) (by omega) i (by omega) (by omega) d_Fo_findHeavies_60 (fun v16 hv16 => ?_)
          refine lv_aload_n F.1 F.2.1 d_Fo_findHeavies_61 rfl (lv_at hl9 3 rfl) ?_
          refine lv_aload_n F.1 F.2.1 d_Fo_findHeavies_62 rfl (lv_at hl9 2 rfl) ?_
          refine lv_iload F.1 F.2.1 d_Fo_findHeavies_63 (lv_at hl9 0 rfl) ?_
          refine q_iald F hW7 (fH.rowI (i := r) (by omega)) (by omega) q1 (by omega) (by omega) d_Fo_findHeavies_65 (fun v17 hv17 => ?_)
          refine q_iald F hW7 (fS.2 r (by omega)) (by omega) h9 (by omega) (by omega) d_Fo_findHeavies_66 (fun v18 hv18 => ?_)
          refine q_icmp_le (tgt := 76) F d_Fo_findHeavies_67 (by decide) (fun c67 => ?_) (fun c67 => ?_)
          · refine q_iinc (lv' := fun v19 => [(4, .int v19), (5, .int v8), (3, .ref (ad (339 + 1 + r))), (2, .ref (ad (298 + 1 + r))), (0, .ref (ad 256)), (1, .int x)]) F d_Fo_findHeavies_76 hl9 (k := 1) rfl (by decide) (by omega) (by decide) (fun _ => rfl) (fun v19 lsv19 hv19 hlv19 => ?_)
            clear hl9
            refine lv_goto (tgt := 22) F.1 F.2.1 d_Fo_findHeavies_79 (by decide) ?_
            exact ihi (i := i + 1) (v5 := v19) (ls6 := lsv19) (wl := wl) (Hl := H7) (locsl := locs7) (hiv := by omega) (hib := by omega) (hWl := hW7) (fo := fo) (fP := fP) (fS := fS) (fL := fL) (fA := fA) (hN := hN) (hY := hY) (hfl := hfl) (hH := ⟨Hr, fH, fun v hv => (Classical.em (v = q1)).elim (fun z => z ▸ zhv_keep hHq (by omega) (by rw [hh9]; simp only [Int.toNat_natCast]; omega)) (fun z => zhv_skip (hH1 v hv) (by omega))⟩) (hf := by omega) (hl6 := (lv_sub hlv19 [0, 2, 3, 4, 5] rfl))
          · refine lv_aload_n F.1 F.2.1 d_Fo_findHeavies_70 rfl (lv_at hl9 2 rfl) ?_
            refine lv_iload F.1 F.2.1 d_Fo_findHeavies_71 (lv_at hl9 0 rfl) ?_
            refine lv_iload F.1 F.2.1 d_Fo_findHeavies_73 (lv_at hl9 1 rfl) ?_
            refine q_iast F hW7 (fH.rowI (i := r) (by omega)) (by omega) q1 (by omega) (by omega) d_Fo_findHeavies_75 (fun H20 locs20 w20 hW20 hI20 hfr20 => ?_)
            replace fo := (hfr20 _ (by omega)).trans fo
            replace lho := (hfr20 _ (by omega)).trans lho
            replace hyo := (hfr20 _ (by omega)).trans hyo
            replace hN := hN.keep (fun q h1 h2 => hfr20 _ (by omega))
            replace hY := hY.keep (fun q h1 h2 => hfr20 _ (by omega))
            replace fP := fP.keep (fun i hi => hfr20 _ (by omega))
            replace fS := fS.keep (fun i hi => hfr20 _ (by omega))
            replace fH := fH.row (by omega) hI20 hfr20
            replace fL := fL.keep (fun i hi => hfr20 _ (by omega))
            replace fA := fA.keep (hfr20 _ (by omega))
            rw [hiv] at fH
            replace hfl : (∀ q, (q < 256 ∨ 422 ≤ q) → w20 q = w q) := fun q hq => by rw [hfr20 q (by omega)]; exact hfl q hq
            refine q_iinc (lv' := fun v21 => [(4, .int v21), (5, .int v8), (3, .ref (ad (339 + 1 + r))), (2, .ref (ad (298 + 1 + r))), (0, .ref (ad 256)), (1, .int x)]) F d_Fo_findHeavies_76 hl9 (k := 1) rfl (by decide) (by omega) (by decide) (fun _ => rfl) (fun v21 lsv21 hv21 hlv21 => ?_)
            clear hl9
            refine lv_goto (tgt := 22) F.1 F.2.1 d_Fo_findHeavies_79 (by decide) ?_
            exact ihi (i := i + 1) (v5 := v21) (ls6 := lsv21) (wl := w20) (Hl := H20) (locsl := locs20) (hiv := by omega) (hib := by omega) (hWl := hW20) (fo := fo) (fP := fP) (fS := fS) (fL := fL) (fA := fA) (hN := hN) (hY := hY) (hfl := hfl) (hH := ⟨_, fH, zhv_all hH1 q1e (zhv_take hHq q1e (Or.inr (by rw [hh9]; simp only [Int.toNat_natCast]; omega)))⟩) (hf := by omega) (hl6 := (lv_sub hlv21 [0, 2, 3, 4, 5] rfl))
