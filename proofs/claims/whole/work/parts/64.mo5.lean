def zwo (d : Nat → Nat → Int) (mk : Nat → Prop) (a i : Nat) (r : Int) : Prop := (r = -1 ∧ ∀ c, c < i → ¬ mk c) ∨ ∃ b : Nat, b < i ∧ r = (b : Int) ∧ mk b ∧ (∀ c, c < i → mk c → d a b ≤ d a c) ∧ ∀ c, c < b → mk c → d a b < d a c
theorem zwo_0 {d : Nat → Nat → Int} {mk : Nat → Prop} {a : Nat} : zwo d mk a 0 (-1) := Or.inl ⟨rfl, fun c h => absurd h (Nat.not_lt_zero c)⟩
theorem zwo_skip {d : Nat → Nat → Int} {mk : Nat → Prop} {a i : Nat} {r : Int} (h : zwo d mk a i r) (hm : ¬ mk i) : zwo d mk a (i + 1) r := by
  rcases h with ⟨h1, h2⟩ | ⟨b, h1, h2, h3, h4, h5⟩
  · refine Or.inl ⟨h1, fun c hc => ?_⟩
    by_cases e : c = i
    · subst e; exact hm
    · exact h2 c (by omega)
  · refine Or.inr ⟨b, by omega, h2, h3, fun c hc hk => ?_, h5⟩
    by_cases e : c = i
    · subst e; exact absurd hk hm
    · exact h4 c (by omega) hk
theorem zwo_take {d : Nat → Nat → Int} {mk : Nat → Prop} {a i : Nat} {r : Int} (h : zwo d mk a i r) (hm : mk i) (ht : r = -1 ∨ d a i < d a r.toNat) : zwo d mk a (i + 1) (i : Int) := by
  have hlt : ∀ c, c < i → mk c → d a i < d a c := by
    intro c hc hk
    rcases h with ⟨h1, h2⟩ | ⟨b, h1, h2, h3, h4, h5⟩
    · exact absurd hk (h2 c hc)
    · have := h4 c hc hk
      rw [h2] at ht
      simp only [Int.toNat_natCast] at ht
      omega
  refine Or.inr ⟨i, by omega, rfl, hm, fun c hc hk => ?_, hlt⟩
  by_cases e : c = i
  · subst e; exact Int.le_refl _
  · have := hlt c (by omega) hk
    omega
theorem zwo_keep {d : Nat → Nat → Int} {mk : Nat → Prop} {a i : Nat} {r : Int} (h : zwo d mk a i r) (hr : r ≠ -1) (ht : d a r.toNat ≤ d a i) : zwo d mk a (i + 1) r := by
  rcases h with ⟨h1, h2⟩ | ⟨b, h1, h2, h3, h4, h5⟩
  · exact absurd h1 hr
  · refine Or.inr ⟨b, by omega, h2, h3, fun c hc hk => ?_, h5⟩
    by_cases e : c = i
    · subst e; rw [h2] at ht; simpa using ht
    · exact h4 c (by omega) hk
theorem zwo_rng {d : Nat → Nat → Int} {mk : Nat → Prop} {a i : Nat} {r : Int} (h : zwo d mk a i r) : r = -1 ∨ (0 ≤ r ∧ r < i) := by
  rcases h with ⟨h1, -⟩ | ⟨b, h1, h2, -⟩
  · exact Or.inl h1
  · right; omega
theorem zwo_end {m : Nat} {d : Nat → Nat → Int} {mk : Nat → Prop} {a : Nat} {r : Int} (h : zwo d mk a m r) : r = zow m d mk a := by
  unfold zow
  rcases h with ⟨h1, h2⟩ | ⟨b, h1, h2, h3, h4, h5⟩
  · rw [h1]; exact (zf_none (fun j hj q => h2 j hj q.1)).symm
  · rw [h2]
    refine (zf_found h1 ⟨h3, h4⟩ (fun j hj q => ?_)).symm
    have e1 := h5 j hj q.1
    have e2 := q.2 b h1 h3
    omega
/-- the best of the balls, so far -/
def zbb (f : Nat → Nat) (i b : Nat) : Prop := b < i ∧ (∀ u, u < i → f u ≤ f b) ∧ ∀ u, u < b → f u < f b
theorem zbb_1 {f : Nat → Nat} : zbb f 1 0 := ⟨by omega, fun u hu => by rw [show u = 0 by omega]; exact Nat.le_refl _, fun u hu => absurd hu (Nat.not_lt_zero u)⟩
theorem zbb_t {f : Nat → Nat} {i b : Nat} (h : zbb f i b) (ht : f b < f i) : zbb f (i + 1) i := by
  obtain ⟨h1, h2, h3⟩ := h
  refine ⟨by omega, fun u hu => ?_, fun u hu => ?_⟩
  · by_cases e : u = i
    · rw [e]; exact Nat.le_refl _
    · have := h2 u (by omega); omega
  · have := h2 u hu; omega
theorem zbb_k {f : Nat → Nat} {i b : Nat} (h : zbb f i b) (ht : f i ≤ f b) : zbb f (i + 1) b := by
  obtain ⟨h1, h2, h3⟩ := h
  refine ⟨by omega, fun u hu => ?_, h3⟩
  by_cases e : u = i
  · rw [e]; exact ht
  · exact h2 u (by omega)
theorem zM_sv {n : Nat} {ball : Nat → Nat → Prop} {k b a : Nat} (hb : b < n) (hz : zbest n ball (zM n ball k) = (b : Int)) : zsv n ball (zM n ball (k + 1)) a ↔ (zsv n ball (zM n ball k) a ∨ ball a b) := by
  constructor
  · rintro ⟨v, h1, h2, h3⟩
    rcases (zM_s k v).mp h2 with q | q
    · exact Or.inl ⟨v, h1, q, h3⟩
    · have : v = b := by omega
      subst this
      exact Or.inr h3
  · rintro (⟨v, h1, h2, h3⟩ | h)
    · exact ⟨v, h1, (zM_s k v).mpr (Or.inl h2), h3⟩
    · exact ⟨b, hb, (zM_s k b).mpr (Or.inr hz.symm), h⟩
theorem zM_all {n : Nat} {ball : Nat → Nat → Prop} {k : Nat} (hk : k ≤ n) (h : zbest n ball (zM n ball k) = -1) (v : Nat) : zM n ball n v ↔ zM n ball k v := by
  have := zM_stop h (n - k) v
  rw [show k + (n - k) = n by omega] at this
  exact this
set_option maxHeartbeats 4000000 in
set_option maxRecDepth 100000 in
/-- all own landmarks -/
theorem k_Mo_findOwn (l : Launch) (D : va_G) (τ : Nat → ClassId) (A : Nat → Prop) (ad : Nat → Nat) (N : Nat) (w : Nat → va_E) (hb : 484 ≤ N) (th n32 b32 s32 p32 : Int32) (mo : w 469 = .inr (7, [.int th, .int n32, .ref (ad 470), .ref (ad 471), .ref (ad 472), .ref (ad 473), .ref (ad 474), .ref (ad 475), .int b32, .ref (ad 476), .ref (ad 477), .ref (ad 478), .ref (ad 479), .ref (ad 480), .int s32, .int p32, .ref (ad 481), .ref (ad 482), .ref (ad 483)])) (m : Nat) (hn : n32.toInt = m) (hm40 : m ≤ 40) (T : Nat → Int) (hT : q_I τ w 475 1600 T) (d : Nat → Nat → Int) (hTf : ∀ a b, a < m → b < m → T (40 * a + b) = d a b) (mk : Nat → Prop) (hM : q_Z τ w 476 40 mk) (O0 : Nat → Int) (hO0 : q_I τ w 479 40 O0) : Met l y_Mo_findOwn (qws y_Mo_findOwn c_Mo_findOwn 3 none) ({ frames := 1, cells := 0, slots := 0, locals := 22 }) (qPc D τ A ad N w [.ref (ad 469)]) (va_Qv (fun w1 => (∃ O, q_I τ w1 479 40 O ∧ ∀ a, a < m → O a = zow m d mk a) ∧ (∀ q, q ≠ 479 → w1 q = w q)) (qB D τ A ad N) A) 0 0 A := by
  refine q_of (by decide) (Nat.le_of_ble_eq_true rfl) rfl ?_
  intro PP EE s MM below meth CC ls F hr hlk hnm hex hl hW
  have hl : lv_has ls 3 [(0, .ref (ad 469))] := hl
  refine q_iconst F d_Mo_findOwn_0 (by decide) (fun v1 hv1 => ?_)
  refine lv_istore_n (lv' := [(1, .int v1), (0, .ref (ad 469))]) F.1 F.2.1 d_Mo_findOwn_1 rfl hl (by decide) rfl (fun ls2 hl2 => ?_)
  clear hl
  obtain ⟨i, hi0⟩ : ∃ i : Nat, i = 0 := ⟨_, rfl⟩
  have hiv : v1.toInt = (i : Int) := by omega
  have hib : i ≤ m := by omega
  obtain ⟨wl, hwl⟩ : ∃ x : Nat → va_E, x = w := ⟨_, rfl⟩
  have hWl : qW D τ A s s.heap ([] : List Loc) ad N wl := by rw [hwl]; exact hW
  have hfl : (∀ q, q ≠ 479 → wl q = w q) := fun q _ => by rw [hwl]
  have hO : ∃ O, q_I τ wl 479 40 O ∧ ∀ a, a < i → O a = zow m d mk a := ⟨O0, by rw [hwl]; exact hO0, fun a h => absurd h (by omega)⟩
  clear hi0 hv1 hwl
  generalize s.heap = Hl at hWl ⊢
  generalize ([] : List Loc) = locsl at hWl ⊢
  obtain ⟨f, hf⟩ : ∃ f : Nat, m + 1 ≤ i + f := ⟨m + 1, by omega⟩
  induction f generalizing i v1 ls2 wl Hl locsl with
  | zero => exact absurd hf (by omega)
  | succ f ihi =>
    obtain ⟨O, hO1, hO2⟩ := hO
    have mo9 := (hfl 469 (by omega)).trans mo
    refine lv_iload_n F.1 F.2.1 d_Mo_findOwn_2 rfl (lv_at hl2 0 rfl) ?_
    refine lv_aload_n F.1 F.2.1 d_Mo_findOwn_3 rfl (lv_at hl2 1 rfl) ?_
    refine gf_Mo_7 F hWl (by omega) mo9 d_Mo_findOwn_4 ?_
    refine q_icmp_ge (tgt := 84) F d_Mo_findOwn_7 (by decide) (fun c7 => ?_) (fun c7 => ?_)
    · exact q_vret F hr hlk hWl ⟨⟨O, hO1, fun a ha => hO2 a (by omega)⟩, hfl⟩ d_Mo_findOwn_84
    · refine lv_aload_n F.1 F.2.1 d_Mo_findOwn_10 rfl (lv_at hl2 1 rfl) ?_
      refine gf_Mo_42 F hWl (by omega) mo9 d_Mo_findOwn_11 ?_
      refine lv_iload_n F.1 F.2.1 d_Mo_findOwn_14 rfl (lv_at hl2 0 rfl) ?_
      refine q_iconst F d_Mo_findOwn_15 (by decide) (fun v3 hv3 => ?_)
      refine q_iast F hWl hO1 (by omega) i (by omega) (by omega) d_Mo_findOwn_16 (fun H4 locs4 w4 hW4 hI4 hfr4 => ?_)
      have mo8 := (hfr4 _ (by omega)).trans mo9
      refine q_iconst F d_Mo_findOwn_17 (by decide) (fun v5 hv5 => ?_)
      refine lv_istore_n (lv' := [(2, .int v5), (1, .int v1), (0, .ref (ad 469))]) F.1 F.2.1 d_Mo_findOwn_18 rfl hl2 (by decide) rfl (fun ls6 hl6 => ?_)
      clear hl2
      obtain ⟨j, hj0⟩ : ∃ j : Nat, j = 0 := ⟨_, rfl⟩
      have hjv : v5.toInt = (j : Int) := by omega
      have hjb : j ≤ m := by omega
      obtain ⟨wj, hwj⟩ : ∃ x : Nat → va_E, x = w4 := ⟨_, rfl⟩
      have hWj : qW D τ A s H4 locs4 ad N wj := by rw [hwj]; exact hW4
      have hfj : (∀ q, q ≠ 479 → wj q = w q) := fun q hq => by rw [hwj, hfr4 q hq]; exact hfl q hq
      have hO : ∃ O, q_I τ wj 479 40 O ∧ (∀ a, a < i → O a = zow m d mk a) ∧ zwo d mk i j (O i) := ⟨_, by rw [hwj]; exact hI4, fun a h => by unfold q_up; rw [if_neg (by omega)]; exact hO2 a h, by unfold q_up; rw [if_pos rfl, hj0, hv3]; exact zwo_0⟩
      clear hj0 hv5 hwj mo8 mo9
      generalize H4 = Hj at hWj ⊢
      generalize locs4 = locsj at hWj ⊢
      obtain ⟨f9, hf9⟩ : ∃ f9 : Nat, m + 1 ≤ j + f9 := ⟨m + 1, by omega⟩
      induction f9 generalizing j v5 ls6 wj Hj locsj with
      | zero => exact absurd hf9 (by omega)
      | succ f9 ihj =>
        clear hO2
        obtain ⟨O, hO1, hO2, hO3⟩ := hO
        have mo9 := (hfj 469 (by omega)).trans mo
        have hM9 := hM.keep (hfj 476 (by omega))
        have hT9 := hT.keep (hfj 475 (by omega))
        have hrg := zwo_rng hO3
        refine lv_iload_n F.1 F.2.1 d_Mo_findOwn_19 rfl (lv_at hl6 0 rfl) ?_
        refine lv_aload_n F.1 F.2.1 d_Mo_findOwn_20 rfl (lv_at hl6 2 rfl) ?_
        refine gf_Mo_7 F hWj (by omega) mo9 d_Mo_findOwn_21 ?_
        refine q_icmp_ge (tgt := 78) F d_Mo_findOwn_24 (by decide) (fun c24 => ?_) (fun c24 => ?_)
        · refine q_iinc (lv' := fun v7 => [(1, .int v7), (2, .int v5), (0, .ref (ad 469))]) F d_Mo_findOwn_78 hl6 (k := 1) rfl (by decide) (by omega) (by decide) (fun _ => rfl) (fun v7 lsv7 hv7 hlv7 => ?_)
          clear hl6
          refine lv_goto (tgt := 2) F.1 F.2.1 d_Mo_findOwn_81 (by decide) ?_
          exact ihi (i := i + 1) (v1 := v7) (ls2 := lsv7) (wl := wj) (Hl := Hj) (locsl := locsj) (hiv := by omega) (hib := by omega) (hWl := hWj) (hfl := hfj) (hO := ⟨O, hO1, fun a ha => (Nat.lt_or_ge a i).elim (hO2 a) (fun z => by rw [show a = i by omega]; exact zwo_end ((show j = m by omega) ▸ hO3))⟩) (hf := by omega) (hl2 := (lv_sub hlv7 [0, 2] rfl))
        · refine lv_aload_n F.1 F.2.1 d_Mo_findOwn_27 rfl (lv_at hl6 2 rfl) ?_
          refine gf_Mo_32 F hWj (by omega) mo9 d_Mo_findOwn_28 ?_
          refine lv_iload_n F.1 F.2.1 d_Mo_findOwn_31 rfl (lv_at hl6 0 rfl) ?_
          refine q_zald F hWj hM9 (by omega) j (by omega) (by omega) d_Mo_findOwn_32 (fun v8 hv8 => ?_)
          refine q_if_eq (tgt := 72) F d_Mo_findOwn_33 (by decide) (fun c33 => ?_) (fun c33 => ?_)
          · refine q_iinc (lv' := fun v9 => [(2, .int v9), (1, .int v1), (0, .ref (ad 469))]) F d_Mo_findOwn_72 hl6 (k := 0) rfl (by decide) (by omega) (by decide) (fun _ => rfl) (fun v9 lsv9 hv9 hlv9 => ?_)
            clear hl6
            refine lv_goto (tgt := 19) F.1 F.2.1 d_Mo_findOwn_75 (by decide) ?_
            exact ihj (j := j + 1) (v5 := v9) (ls6 := lsv9) (wj := wj) (Hj := Hj) (locsj := locsj) (hjv := by omega) (hjb := by omega) (hWj := hWj) (hfj := hfj) (hO := ⟨O, hO1, hO2, zwo_skip hO3 (qb_f hv8 (by omega))⟩) (hf9 := by omega) (hl6 := (lv_sub hlv9 [0, 1, 2] rfl))
          · refine lv_aload_n F.1 F.2.1 d_Mo_findOwn_36 rfl (lv_at hl6 2 rfl) ?_
            refine gf_Mo_42 F hWj (by omega) mo9 d_Mo_findOwn_37 ?_
            refine lv_iload_n F.1 F.2.1 d_Mo_findOwn_40 rfl (lv_at hl6 1 rfl) ?_
            refine q_iald F hWj hO1 (by omega) i (by omega) (by omega) d_Mo_findOwn_41 (fun v10 hv10 => ?_)
            refine q_if_lt (tgt := 65) F d_Mo_findOwn_42 (by decide) (fun c42 => ?_) (fun c42 => ?_)
            · refine lv_aload_n F.1 F.2.1 d_Mo_findOwn_65 rfl (lv_at hl6 2 rfl) ?_
              refine gf_Mo_42 F hWj (by omega) mo9 d_Mo_findOwn_66 ?_
              refine lv_iload_n F.1 F.2.1 d_Mo_findOwn_69 rfl (lv_at hl6 1 rfl) ?_
              refine lv_iload_n F.1 F.2.1 d_Mo_findOwn_70 rfl (lv_at hl6 0 rfl) ?_
              refine q_iast F hWj hO1 (by omega) i (by omega) (by omega) d_Mo_findOwn_71 (fun H11 locs11 w11 hW11 hI11 hfr11 => ?_)
              rw [hjv] at hI11
              refine q_iinc (lv' := fun v12 => [(2, .int v12), (1, .int v1), (0, .ref (ad 469))]) F d_Mo_findOwn_72 hl6 (k := 0) rfl (by decide) (by omega) (by decide) (fun _ => rfl) (fun v12 lsv12 hv12 hlv12 => ?_)
              clear hl6
              refine lv_goto (tgt := 19) F.1 F.2.1 d_Mo_findOwn_75 (by decide) ?_
              exact ihj (j := j + 1) (v5 := v12) (ls6 := lsv12) (wj := w11) (Hj := H11) (locsj := locs11) (hjv := by omega) (hjb := by omega) (hWj := hW11) (hfj := fun q hq => (hfr11 q hq).trans (hfj q hq)) (hO := ⟨_, hI11, fun a h => by unfold q_up; rw [if_neg (by omega)]; exact hO2 a h, by unfold q_up; rw [if_pos rfl]; exact zwo_take hO3 (qb_t hv8 (by omega)) (Or.inl (by omega))⟩) (hf9 := by omega) (hl6 := (lv_sub hlv12 [0, 1, 2] rfl))
            · obtain ⟨o9, ho9⟩ : ∃ o9 : Nat, O i = (o9 : Int) := ⟨(O i).toNat, by omega⟩
              refine lv_aload_n F.1 F.2.1 d_Mo_findOwn_45 rfl (lv_at hl6 2 rfl) ?_
              refine lv_iload_n F.1 F.2.1 d_Mo_findOwn_46 rfl (lv_at hl6 1 rfl) ?_
              refine lv_iload_n F.1 F.2.1 d_Mo_findOwn_47 rfl (lv_at hl6 0 rfl) ?_
              refine q_calli hWj (q_cV (As := [.int v1, .int v5]) (rest := []) F hWj cs_Mo_82 hd_Mo_d rfl (by omega) mo9 (k_Mo_d l D τ A ad N wj hb th n32 b32 s32 p32 mo9 m hn hm40 T hT9 d hTf v1 v5 i j hiv hjv (by omega) (by omega)) rfl rfl ⟨by decide, by decide⟩ rfl hl6.1 rfl (Nat.le_of_ble_eq_true rfl) d_Mo_findOwn_48 ⟨Nat.le_refl _, Nat.le_refl _⟩) (fun v13 w13 H13 locs13 hp13 hW13 => ?_)
              obtain ⟨hq13, hp13⟩ := hp13
              replace hq13 := hq13.symm
              subst hq13
              refine lv_aload_n F.1 F.2.1 d_Mo_findOwn_51 rfl (lv_at hl6 2 rfl) ?_
              refine lv_iload_n F.1 F.2.1 d_Mo_findOwn_52 rfl (lv_at hl6 1 rfl) ?_
              refine lv_aload_n F.1 F.2.1 d_Mo_findOwn_53 rfl (lv_at hl6 2 rfl) ?_
              refine gf_Mo_42 F hW13 (by omega) mo9 d_Mo_findOwn_54 ?_
              refine lv_iload_n F.1 F.2.1 d_Mo_findOwn_57 rfl (lv_at hl6 1 rfl) ?_
              refine q_iald F hW13 hO1 (by omega) i (by omega) (by omega) d_Mo_findOwn_58 (fun v14 hv14 => ?_)
              refine q_calli hW13 (q_cV (As := [.int v1, .int v14]) (rest := [.int v13]) F hW13 cs_Mo_82 hd_Mo_d rfl (by omega) mo9 (k_Mo_d l D τ A ad N wj hb th n32 b32 s32 p32 mo9 m hn hm40 T hT9 d hTf v1 v14 i o9 hiv (by omega) (by omega) (by omega)) rfl rfl ⟨by decide, by decide⟩ rfl hl6.1 rfl (Nat.le_of_ble_eq_true rfl) d_Mo_findOwn_59 ⟨Nat.le_refl _, Nat.le_refl _⟩) (fun v15 w15 H15 locs15 hp15 hW15 => ?_)
              obtain ⟨hq15, hp15⟩ := hp15
              replace hq15 := hq15.symm
              subst hq15
              refine q_icmp_ge (tgt := 72) F d_Mo_findOwn_62 (by decide) (fun c62 => ?_) (fun c62 => ?_)
              · refine q_iinc (lv' := fun v16 => [(2, .int v16), (1, .int v1), (0, .ref (ad 469))]) F d_Mo_findOwn_72 hl6 (k := 0) rfl (by decide) (by omega) (by decide) (fun _ => rfl) (fun v16 lsv16 hv16 hlv16 => ?_)
                clear hl6
                refine lv_goto (tgt := 19) F.1 F.2.1 d_Mo_findOwn_75 (by decide) ?_
                exact ihj (j := j + 1) (v5 := v16) (ls6 := lsv16) (wj := wj) (Hj := H15) (locsj := locs15) (hjv := by omega) (hjb := by omega) (hWj := hW15) (hfj := hfj) (hO := ⟨O, hO1, hO2, zwo_keep hO3 (by omega) (by rw [ho9]; simp only [Int.toNat_natCast]; omega)⟩) (hf9 := by omega) (hl6 := (lv_sub hlv16 [0, 1, 2] rfl))
              · refine lv_aload_n F.1 F.2.1 d_Mo_findOwn_65 rfl (lv_at hl6 2 rfl) ?_
                refine gf_Mo_42 F hW15 (by omega) mo9 d_Mo_findOwn_66 ?_
                refine lv_iload_n F.1 F.2.1 d_Mo_findOwn_69 rfl (lv_at hl6 1 rfl) ?_
                refine lv_iload_n F.1 F.2.1 d_Mo_findOwn_70 rfl (lv_at hl6 0 rfl) ?_
                refine q_iast F hW15 hO1 (by omega) i (by omega) (by omega) d_Mo_findOwn_71 (fun H17 locs17 w17 hW17 hI17 hfr17 => ?_)
                rw [hjv] at hI17
                refine q_iinc (lv' := fun v18 => [(2, .int v18), (1, .int v1), (0, .ref (ad 469))]) F d_Mo_findOwn_72 hl6 (k := 0) rfl (by decide) (by omega) (by decide) (fun _ => rfl) (fun v18 lsv18 hv18 hlv18 => ?_)
                clear hl6
                refine lv_goto (tgt := 19) F.1 F.2.1 d_Mo_findOwn_75 (by decide) ?_
                exact ihj (j := j + 1) (v5 := v18) (ls6 := lsv18) (wj := w17) (Hj := H17) (locsj := locs17) (hjv := by omega) (hjb := by omega) (hWj := hW17) (hfj := fun q hq => (hfr17 q hq).trans (hfj q hq)) (hO := ⟨_, hI17, fun a h => by unfold q_up; rw [if_neg (by omega)]; exact hO2 a h, by unfold q_up; rw [if_pos rfl]; exact zwo_take hO3 (qb_t hv8 (by omega)) (Or.inr (by rw [ho9]; simp only [Int.toNat_natCast]; omega))⟩) (hf9 := by omega) (hl6 := (lv_sub hlv18 [0, 1, 2] rfl))
