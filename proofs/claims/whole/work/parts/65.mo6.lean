set_option maxHeartbeats 4000000 in
set_option maxRecDepth 100000 in
/-- first landmarks -/
theorem k_Mo_firstMarks (l : Launch) (D : va_G) (τ : Nat → ClassId) (A : Nat → Prop) (ad : Nat → Nat) (N : Nat) (w : Nat → va_E) (hb : 484 ≤ N) (th n32 b32 s32 p32 : Int32) (mo : w 469 = .inr (7, [.int th, .int n32, .ref (ad 470), .ref (ad 471), .ref (ad 472), .ref (ad 473), .ref (ad 474), .ref (ad 475), .int b32, .ref (ad 476), .ref (ad 477), .ref (ad 478), .ref (ad 479), .ref (ad 480), .int s32, .int p32, .ref (ad 481), .ref (ad 482), .ref (ad 483)])) (m : Nat) (hn : n32.toInt = m) (hm40 : m ≤ 40) (T : Nat → Int) (hT : q_I τ w 475 1600 T) (Wt : Nat → Nat → Int) (hTf : ∀ a b, a < m → b < m → T (40 * a + b) = zd m Wt a b) (hm1 : 1 ≤ m) (hg : zg_ok m Wt) (M0 B0 S0 : Nat → Prop) (hM0 : q_Z τ w 476 40 M0) (hB0 : q_Z τ w 477 1600 B0) (hS0 : q_Z τ w 478 40 S0) (x : Int32) (bk : Nat) (hx : x.toInt = bk) : Met l y_Mo_firstMarks (qws y_Mo_firstMarks c_Mo_firstMarks 6 (some .int)) ({ frames := 2, cells := 0, slots := 0, locals := 47 }) (qPc D τ A ad N w [.ref (ad 469), .int x]) (va_Qi (fun r1 w1 => (∃ mk, q_Z τ w1 476 40 mk ∧ (∀ v, v < m → (mk v ↔ zM m (zbl m Wt bk) m v)) ∧ r1.toInt = (zc (zM m (zbl m Wt bk) m) m : Int)) ∧ (∃ B, q_Z τ w1 477 1600 B) ∧ (∃ B, q_Z τ w1 478 40 B) ∧ (∀ q, (q ≠ 476 ∧ q ≠ 477 ∧ q ≠ 478) → w1 q = w q)) (qB D τ A ad N) A) 0 0 A := by
  refine q_of (by decide) (Nat.le_of_ble_eq_true rfl) rfl ?_
  intro PP EE s MM below meth CC ls F hr hlk hnm hex hl hW
  have hl : lv_has ls 6 [(0, .ref (ad 469)), (1, .int x)] := hl
  refine q_iconst F d_Mo_firstMarks_0 (by decide) (fun v1 hv1 => ?_)
  refine lv_istore_n (lv' := [(2, .int v1), (0, .ref (ad 469)), (1, .int x)]) F.1 F.2.1 d_Mo_firstMarks_1 rfl hl (by decide) rfl (fun ls2 hl2 => ?_)
  clear hl
  obtain ⟨i, hi0⟩ : ∃ i : Nat, i = 0 := ⟨_, rfl⟩
  have hiv : v1.toInt = (i : Int) := by omega
  have hib : i ≤ m := by omega
  obtain ⟨wl, hwl⟩ : ∃ x : Nat → va_E, x = w := ⟨_, rfl⟩
  have hWl : qW D τ A s s.heap ([] : List Loc) ad N wl := by rw [hwl]; exact hW
  have hfl : (∀ q, (q ≠ 476 ∧ q ≠ 477 ∧ q ≠ 478) → wl q = w q) := fun q _ => by rw [hwl]
  have hA : ∃ M1 B1 S1, q_Z τ wl 476 40 M1 ∧ q_Z τ wl 477 1600 B1 ∧ q_Z τ wl 478 40 S1 ∧ (∀ v, v < i → ¬ M1 v ∧ ¬ S1 v) ∧ ∀ a b, a < m → b < m → a < i → (B1 (40 * a + b) ↔ zbl m Wt bk a b) := ⟨M0, B0, S0, by rw [hwl]; exact hM0, by rw [hwl]; exact hB0, by rw [hwl]; exact hS0, fun v h => absurd h (by omega), fun a b _ _ h => absurd h (by omega)⟩
  clear hi0 hv1 hwl
  generalize s.heap = Hl at hWl ⊢
  generalize ([] : List Loc) = locsl at hWl ⊢
  obtain ⟨f, hf⟩ : ∃ f : Nat, m + 1 ≤ i + f := ⟨m + 1, by omega⟩
  induction f generalizing i v1 ls2 wl Hl locsl with
  | zero => exact absurd hf (by omega)
  | succ f ihi =>
    obtain ⟨M1, B1, S1, hM1, hB1, hS1, hA1, hA2⟩ := hA
    have mo9 := (hfl 469 (by omega)).trans mo
    refine lv_iload_n F.1 F.2.1 d_Mo_firstMarks_2 rfl (lv_at hl2 0 rfl) ?_
    refine lv_aload_n F.1 F.2.1 d_Mo_firstMarks_3 rfl (lv_at hl2 1 rfl) ?_
    refine gf_Mo_7 F hWl (by omega) mo9 d_Mo_firstMarks_4 ?_
    refine q_icmp_ge (tgt := 72) F d_Mo_firstMarks_7 (by decide) (fun c7 => ?_) (fun c7 => ?_)
    · have hA1m : ∀ v, v < m → ¬ M1 v ∧ ¬ S1 v := fun v hv => hA1 v (by omega)
      have hA2m : ∀ a b, a < m → b < m → (B1 (40 * a + b) ↔ zbl m Wt bk a b) := fun a b ha hb9 => hA2 a b ha hb9 (by omega)
      clear mo9 ihi hf hib hiv hA1 hA2
      refine q_iconst F d_Mo_firstMarks_72 (by decide) (fun v3 hv3 => ?_)
      refine lv_istore_n (lv' := [(2, .int v3), (0, .ref (ad 469)), (1, .int x)]) F.1 F.2.1 d_Mo_firstMarks_73 rfl hl2 (by decide) rfl (fun ls4 hl4 => ?_)
      clear hl2
      refine q_iconst F d_Mo_firstMarks_74 (by decide) (fun v5 hv5 => ?_)
      refine lv_istore_n (lv' := [(3, .int v5), (2, .int v3), (0, .ref (ad 469)), (1, .int x)]) F.1 F.2.1 d_Mo_firstMarks_75 rfl hl4 (by decide) rfl (fun ls6 hl6 => ?_)
      clear hl4
      obtain ⟨k, hk0⟩ : ∃ k : Nat, k = 0 := ⟨_, rfl⟩
      obtain ⟨wk, hwk⟩ : ∃ x : Nat → va_E, x = wl := ⟨_, rfl⟩
      have hWk : qW D τ A s Hl locsl ad N wk := by rw [hwk]; exact hWl
      obtain ⟨f, hf0⟩ : ∃ f : Nat, f = m + 2 := ⟨_, rfl⟩
      have hfu : 0 < f ∧ ((v5.toInt = 1 ∧ m + 2 ≤ k + f) ∨ (v5.toInt = 0 ∧ zbest m (zbl m Wt bk) (zM m (zbl m Wt bk) k) = -1)) := by refine ⟨by omega, Or.inl ⟨hv5, by omega⟩⟩
      have hkv : v3.toInt = (k : Int) := by rw [hv3, hk0]; rfl
      have hgo : ∀ j, j < k → zbest m (zbl m Wt bk) (zM m (zbl m Wt bk) j) ≠ -1 := fun j hj => absurd hj (by omega)
      have hfk : (∀ q, (q ≠ 476 ∧ q ≠ 477 ∧ q ≠ 478) → wk q = w q) := by rw [hwk]; exact hfl
      have hB1k : q_Z τ wk 477 1600 B1 := by rw [hwk]; exact hB1
      have hA : ∃ M2 S2, q_Z τ wk 476 40 M2 ∧ q_Z τ wk 478 40 S2 ∧ (∀ v, v < m → (M2 v ↔ zM m (zbl m Wt bk) k v)) ∧ ∀ a, a < m → (S2 a ↔ zsv m (zbl m Wt bk) (zM m (zbl m Wt bk) k) a) := ⟨M1, S1, by rw [hwk]; exact hM1, by rw [hwk]; exact hS1, fun v hv => by rw [hk0]; exact ⟨fun q => absurd q (hA1m v hv).1, fun q => absurd q id⟩, fun a ha => by rw [hk0]; exact ⟨fun q => absurd q (hA1m a ha).2, fun q => by obtain ⟨v, -, h2, -⟩ := q; exact absurd h2 id⟩⟩
      clear hf0 hwk hk0 hv3 hv5
      generalize Hl = Hk at hWk ⊢
      generalize locsl = locsk at hWk ⊢
      induction f generalizing v3 v5 k ls6 wk Hk locsk with
      | zero => exact absurd hfu.1 (by omega)
      | succ f ihf =>
        clear hM1 hS1 hA1m
        obtain ⟨M2, S2, hM2, hS2, hMi, hSi⟩ := hA
        obtain ⟨hzc, hku, -⟩ := zM_go hgo
        have mo9 := (hfk 469 (by omega)).trans mo
        refine lv_iload_n F.1 F.2.1 d_Mo_firstMarks_76 rfl (lv_at hl6 0 rfl) ?_
        refine q_if_eq (tgt := 217) F d_Mo_firstMarks_77 (by decide) (fun c77 => ?_) (fun c77 => ?_)
        · refine lv_iload_n F.1 F.2.1 d_Mo_firstMarks_217 rfl (lv_at hl6 1 rfl) ?_
          have hzb : zbest m (zbl m Wt bk) (zM m (zbl m Wt bk) k) = -1 := by rcases hfu.2 with q | q; omega; exact q.2
          have hall9 := fun v => zM_all (n := m) (ball := (zbl m Wt bk)) (show k ≤ m by omega) hzb v
          exact q_iret F hr hlk hWk ⟨⟨M2, hM2, fun v hv => (hMi v hv).trans (hall9 v).symm, by rw [hkv, zc_congr (fun v _ => hall9 v), hzc]⟩, ⟨_, hB1k⟩, ⟨_, hS2⟩, hfk⟩ d_Mo_firstMarks_218
        · have hfu2 : m + 2 ≤ k + (f + 1) := by rcases hfu.2 with q | q; exact q.2; omega
          have hib9 : ∀ v, zc (fun u => ¬ S2 u ∧ zbl m Wt bk u v) m = zib m (zbl m Wt bk) (zM m (zbl m Wt bk) k) v := fun v => zc_congr (fun u hu => by rw [hSi u hu])
          refine q_iconst F d_Mo_firstMarks_80 (by decide) (fun v7 hv7 => ?_)
          refine lv_istore (lv' := [(4, .int v7), (3, .int v5), (2, .int v3), (0, .ref (ad 469)), (1, .int x)]) F.1 F.2.1 d_Mo_firstMarks_81 hl6 (by decide) rfl (fun ls8 hl8 => ?_)
          clear hl6
          refine q_iconst F d_Mo_firstMarks_83 (by decide) (fun v9 hv9 => ?_)
          refine lv_istore (lv' := [(5, .int v9), (4, .int v7), (3, .int v5), (2, .int v3), (0, .ref (ad 469)), (1, .int x)]) F.1 F.2.1 d_Mo_firstMarks_84 hl8 (by decide) rfl (fun ls10 hl10 => ?_)
          clear hl8
          obtain ⟨b, hb0⟩ : ∃ b : Nat, b = 0 := ⟨_, rfl⟩
          obtain ⟨j, hj0⟩ : ∃ j : Nat, j = 1 := ⟨_, rfl⟩
          have hjv : v9.toInt = (j : Int) := by omega
          have hjb : j ≤ m := by omega
          have hWb := hWk
          have hbv : v7.toInt = (b : Int) := by rw [hv7, hb0]; rfl
          have hbb : zbb (zib m (zbl m Wt bk) (zM m (zbl m Wt bk) k)) j b := by rw [hj0, hb0]; exact zbb_1
          clear hj0 hv9 hb0 hv7
          generalize Hk = Hb at hWb ⊢
          generalize locsk = locsb at hWb ⊢
          obtain ⟨f2, hf2⟩ : ∃ f2 : Nat, m + 1 ≤ j + f2 := ⟨m + 1, by omega⟩
          induction f2 generalizing j v9 ls10 Hb locsb v7 b with
          | zero => exact absurd hf2 (by omega)
          | succ f2 ihj =>
            refine lv_iload F.1 F.2.1 d_Mo_firstMarks_86 (lv_at hl10 0 rfl) ?_
            refine lv_aload_n F.1 F.2.1 d_Mo_firstMarks_88 rfl (lv_at hl10 4 rfl) ?_
            refine gf_Mo_7 F hWb (by omega) mo9 d_Mo_firstMarks_89 ?_
            refine q_icmp_ge (tgt := 125) F d_Mo_firstMarks_92 (by decide) (fun c92 => ?_) (fun c92 => ?_)
            · have hjm : j = m := by omega
              rw [hjm] at hbb
              obtain ⟨hbm, hb1, hb2⟩ := hbb
              refine lv_aload_n F.1 F.2.1 d_Mo_firstMarks_125 rfl (lv_at hl10 4 rfl) ?_
              refine lv_iload F.1 F.2.1 d_Mo_firstMarks_126 (lv_at hl10 1 rfl) ?_
              refine q_calli hWb (q_cV (As := [.int v7]) (rest := []) F hWb cs_Mo_89 hd_Mo_inBalls rfl (by omega) mo9 (k_Mo_inBalls l D τ A ad N wk hb th n32 b32 s32 p32 mo9 m hn hm40 S2 hS2 B1 hB1k (zbl m Wt bk) hA2m v7 b hbv hbm) rfl rfl ⟨by decide, by decide⟩ rfl hl10.1 rfl (Nat.le_of_ble_eq_true rfl) d_Mo_firstMarks_128 ⟨Nat.le_refl _, Nat.le_refl _⟩) (fun v11 w11 H11 locs11 hp11 hW11 => ?_)
              obtain ⟨hq11, hp11⟩ := hp11
              replace hq11 := hq11.symm
              subst hq11
              rw [hib9] at hp11
              refine q_if_le (tgt := 138) F d_Mo_firstMarks_131 (by decide) (fun c131 => ?_) (fun c131 => ?_)
              · have hz0 : zbest m (zbl m Wt bk) (zM m (zbl m Wt bk) k) = -1 := zbest_zero (fun v hv => by have := hb1 v hv; omega)
                refine q_iconst F d_Mo_firstMarks_138 (by decide) (fun v12 hv12 => ?_)
                refine lv_istore_n (lv' := [(3, .int v12), (5, .int v9), (4, .int v7), (2, .int v3), (0, .ref (ad 469)), (1, .int x)]) F.1 F.2.1 d_Mo_firstMarks_139 rfl hl10 (by decide) rfl (fun ls13 hl13 => ?_)
                clear hl10
                refine lv_iload_n F.1 F.2.1 d_Mo_firstMarks_140 rfl (lv_at hl13 0 rfl) ?_
                refine q_if_ne (tgt := 147) F d_Mo_firstMarks_141 (by decide) (fun c141 => ?_) (fun c141 => ?_)
                · exact absurd c141 (by omega)
                · refine lv_goto (tgt := 76) F.1 F.2.1 d_Mo_firstMarks_144 (by decide) ?_
                  exact ihf (v3 := v3) (v5 := v12) (k := k) (ls6 := ls13) (wk := wk) (Hk := H11) (locsk := locs11) (hWk := hW11) (hfu := ⟨by omega, Or.inr ⟨hv12, hz0⟩⟩) (hkv := hkv) (hgo := hgo) (hfk := hfk) (hB1k := hB1k) (hA := ⟨M2, S2, hM2, hS2, hMi, hSi⟩) (hl6 := (lv_sub hl13 [0, 3, 4, 5] rfl))
              · have hz0 : zbest m (zbl m Wt bk) (zM m (zbl m Wt bk) k) = (b : Int) := zbest_is hbm (by omega) hb1 hb2
                refine q_iconst F d_Mo_firstMarks_134 (by decide) (fun v14 hv14 => ?_)
                refine lv_goto (tgt := 139) F.1 F.2.1 d_Mo_firstMarks_135 (by decide) ?_
                refine lv_istore_n (lv' := [(3, .int v14), (5, .int v9), (4, .int v7), (2, .int v3), (0, .ref (ad 469)), (1, .int x)]) F.1 F.2.1 d_Mo_firstMarks_139 rfl hl10 (by decide) rfl (fun ls15 hl15 => ?_)
                clear hl10
                refine lv_iload_n F.1 F.2.1 d_Mo_firstMarks_140 rfl (lv_at hl15 0 rfl) ?_
                refine q_if_ne (tgt := 147) F d_Mo_firstMarks_141 (by decide) (fun c141 => ?_) (fun c141 => ?_)
                · refine lv_aload_n F.1 F.2.1 d_Mo_firstMarks_147 rfl (lv_at hl15 4 rfl) ?_
                  refine gf_Mo_32 F hW11 (by omega) mo9 d_Mo_firstMarks_148 ?_
                  refine lv_iload F.1 F.2.1 d_Mo_firstMarks_151 (lv_at hl15 2 rfl) ?_
                  refine q_iconst F d_Mo_firstMarks_153 (by decide) (fun v16 hv16 => ?_)
                  refine q_zast F hW11 hM2 (by omega) (P := True) (Or.inl ⟨trivial, q_eqI.mpr hv16⟩) b (by omega) (by omega) d_Mo_firstMarks_154 (fun H17 locs17 w17 hW17 hI17 hfr17 => ?_)
                  have mo8 := (hfr17 _ (by omega)).trans mo9
                  have hS3 := hS2.keep (hfr17 478 (by omega))
                  have hB3 := hB1k.keep (hfr17 477 (by omega))
                  have hfs : (∀ q, (q ≠ 476 ∧ q ≠ 477 ∧ q ≠ 478) → w17 q = w q) := fun q hq => (hfr17 q hq.1).trans (hfk q hq)
                  refine q_iinc (lv' := fun v18 => [(2, .int v18), (3, .int v14), (5, .int v9), (4, .int v7), (0, .ref (ad 469)), (1, .int x)]) F d_Mo_firstMarks_155 hl15 (k := 3) rfl (by decide) (by omega) (by decide) (fun _ => rfl) (fun v18 lsv18 hv18 hlv18 => ?_)
                  clear hl15
                  refine q_iconst F d_Mo_firstMarks_158 (by decide) (fun v19 hv19 => ?_)
                  refine lv_istore (lv' := [(5, .int v19), (2, .int v18), (3, .int v14), (4, .int v7), (0, .ref (ad 469)), (1, .int x)]) F.1 F.2.1 d_Mo_firstMarks_159 hlv18 (by decide) rfl (fun ls20 hl20 => ?_)
                  clear hlv18
                  obtain ⟨i, hi0⟩ : ∃ i : Nat, i = 0 := ⟨_, rfl⟩
                  have hiv : v19.toInt = (i : Int) := by omega
                  have hib : i ≤ m := by omega
                  obtain ⟨wo, hwo⟩ : ∃ x : Nat → va_E, x = w17 := ⟨_, rfl⟩
                  have hWo : qW D τ A s H17 locs17 ad N wo := by rw [hwo]; exact hW17
                  have hfo : (∀ q, (q ≠ 476 ∧ q ≠ 477 ∧ q ≠ 478) → wo q = w q) := by rw [hwo]; exact hfs
                  have hBo : q_Z τ wo 477 1600 B1 := by rw [hwo]; exact hB3
                  have hMo : q_Z τ wo 476 40 (q_upB M2 b True) := by rw [hwo]; exact hI17
                  have hA : ∃ S3, q_Z τ wo 478 40 S3 ∧ ∀ a, a < m → (S3 a ↔ (zsv m (zbl m Wt bk) (zM m (zbl m Wt bk) k) a ∨ (a < i ∧ zbl m Wt bk a b))) := ⟨S2, by rw [hwo]; exact hS3, fun a ha => by rw [hi0, hSi a ha]; exact ⟨Or.inl, fun q => q.elim id (fun z => absurd z.1 (by omega))⟩⟩
                  clear hi0 hv19 hwo mo8 mo9
                  generalize H17 = Ho at hWo ⊢
                  generalize locs17 = locso at hWo ⊢
                  obtain ⟨f3, hf3⟩ : ∃ f3 : Nat, m + 1 ≤ i + f3 := ⟨m + 1, by omega⟩
                  induction f3 generalizing i v19 ls20 wo Ho locso with
                  | zero => exact absurd hf3 (by omega)
                  | succ f3 ihi =>
                    clear hS3
                    obtain ⟨S3, hS3, hS3i⟩ := hA
                    have mo9 := (hfo 469 (by omega)).trans mo
                    refine lv_iload F.1 F.2.1 d_Mo_firstMarks_161 (lv_at hl20 0 rfl) ?_
                    refine lv_aload_n F.1 F.2.1 d_Mo_firstMarks_163 rfl (lv_at hl20 4 rfl) ?_
                    refine gf_Mo_7 F hWo (by omega) mo9 d_Mo_firstMarks_164 ?_
                    refine q_icmp_ge (tgt := 214) F d_Mo_firstMarks_167 (by decide) (fun c167 => ?_) (fun c167 => ?_)
                    · refine lv_goto (tgt := 76) F.1 F.2.1 d_Mo_firstMarks_214 (by decide) ?_
                      exact ihf (v3 := v18) (v5 := v14) (k := k + 1) (ls6 := ls20) (wk := wo) (Hk := Ho) (locsk := locso) (hWk := hWo) (hfu := ⟨by omega, Or.inl ⟨hv14, by omega⟩⟩) (hkv := by omega) (hgo := fun j9 hj9 => (Nat.lt_or_ge j9 k).elim (hgo j9) (fun z => by rw [show j9 = k by omega, hz0]; omega)) (hfk := hfo) (hB1k := hBo) (hA := ⟨_, S3, hMo, hS3, fun v hv => by unfold q_upB; rw [zM_s, hz0]; by_cases e : v = b; rw [if_pos e]; exact ⟨fun _ => Or.inr (by omega), fun _ => trivial⟩; rw [if_neg e, hMi v hv]; exact ⟨Or.inl, fun q => q.elim id (fun z => absurd z (by omega))⟩, fun a ha => by rw [zM_sv hbm hz0, hS3i a ha]; exact ⟨fun q => q.elim Or.inl (fun z => Or.inr z.2), fun q => q.elim Or.inl (fun z => Or.inr ⟨by omega, z⟩)⟩⟩) (hl6 := (lv_sub hl20 [2, 1, 4, 5] rfl))
                    · refine lv_aload_n F.1 F.2.1 d_Mo_firstMarks_170 rfl (lv_at hl20 4 rfl) ?_
                      refine gf_Mo_39 F hWo (by omega) mo9 d_Mo_firstMarks_171 ?_
                      refine lv_iload F.1 F.2.1 d_Mo_firstMarks_174 (lv_at hl20 0 rfl) ?_
                      refine lv_aload_n F.1 F.2.1 d_Mo_firstMarks_176 rfl (lv_at hl20 4 rfl) ?_
                      refine gf_Mo_39 F hWo (by omega) mo9 d_Mo_firstMarks_177 ?_
                      refine lv_iload F.1 F.2.1 d_Mo_firstMarks_180 (lv_at hl20 0 rfl) ?_
                      refine q_zald F hWo hS3 (by omega) i (by omega) (by omega) d_Mo_firstMarks_182 (fun v21 hv21 => ?_)
                      refine q_if_ne (tgt := 202) F d_Mo_firstMarks_183 (by decide) (fun c183 => ?_) (fun c183 => ?_)
                      · have hsi : S3 i := qb_t hv21 (by omega)
                        have hsj := (hS3i i (by omega)).mp hsi
                        refine q_iconst F d_Mo_firstMarks_202 (by decide) (fun v22 hv22 => ?_)
                        refine lv_goto (tgt := 207) F.1 F.2.1 d_Mo_firstMarks_203 (by decide) ?_
                        refine q_zast F hWo hS3 (by omega) (P := True) (Or.inl ⟨trivial, q_eqI.mpr hv22⟩) i (by omega) (by omega) d_Mo_firstMarks_207 (fun H23 locs23 w23 hW23 hI23 hfr23 => ?_)
                        refine q_iinc (lv' := fun v24 => [(5, .int v24), (2, .int v18), (3, .int v14), (4, .int v7), (0, .ref (ad 469)), (1, .int x)]) F d_Mo_firstMarks_208 hl20 (k := 0) rfl (by decide) (by omega) (by decide) (fun _ => rfl) (fun v24 lsv24 hv24 hlv24 => ?_)
                        clear hl20
                        refine lv_goto (tgt := 161) F.1 F.2.1 d_Mo_firstMarks_211 (by decide) ?_
                        exact ihi (i := i + 1) (v19 := v24) (ls20 := lsv24) (wo := w23) (Ho := H23) (locso := locs23) (hiv := by omega) (hib := by omega) (hWo := hW23) (hfo := fun q hq => (hfr23 q hq.2.2).trans (hfo q hq)) (hBo := hBo.keep (hfr23 _ (by omega))) (hMo := hMo.keep (hfr23 _ (by omega))) (hA := ⟨_, hI23, fun a ha => by unfold q_upB; by_cases e : a = i; rw [if_pos e, e]; exact ⟨fun _ => hsj.elim Or.inl (fun z => absurd z.1 (by omega)), fun _ => trivial⟩; rw [if_neg e, hS3i a ha]; exact ⟨fun q => q.elim Or.inl (fun z => Or.inr ⟨by omega, z.2⟩), fun q => q.elim Or.inl (fun z => Or.inr ⟨by omega, z.2⟩)⟩⟩) (hf3 := by omega) (hl20 := (lv_sub hlv24 [0, 1, 2, 3, 4, 5] rfl))
                      · have hsi : ¬ zsv m (zbl m Wt bk) (zM m (zbl m Wt bk) k) i := fun q => qb_f hv21 (by omega) ((hS3i i (by omega)).mpr (Or.inl q))
                        refine lv_aload_n F.1 F.2.1 d_Mo_firstMarks_186 rfl (lv_at hl20 4 rfl) ?_
                        refine gf_Mo_36 F hWo (by omega) mo9 d_Mo_firstMarks_187 ?_
                        refine q_bipush F d_Mo_firstMarks_190 (by decide) (fun v25 hv25 => ?_)
                        refine lv_iload F.1 F.2.1 d_Mo_firstMarks_192 (lv_at hl20 0 rfl) ?_
                        refine q_imul F d_Mo_firstMarks_194 (by rw [hv25]; omega) (fun v26 hv26 => ?_)
                        rw [hv25] at hv26
                        refine lv_iload F.1 F.2.1 d_Mo_firstMarks_195 (lv_at hl20 3 rfl) ?_
                        refine q_iadd F d_Mo_firstMarks_197 (by omega) (fun v27 hv27 => ?_)
                        refine q_zald F hWo hBo (by omega) ((40 * i) + b) (by omega) (by omega) d_Mo_firstMarks_198 (fun v28 hv28 => ?_)
                        rw [hA2m i b (by omega) (by omega)] at hv28
                        refine q_if_eq (tgt := 206) F d_Mo_firstMarks_199 (by decide) (fun c199 => ?_) (fun c199 => ?_)
                        · refine q_iconst F d_Mo_firstMarks_206 (by decide) (fun v29 hv29 => ?_)
                          refine q_zast F hWo hS3 (by omega) (P := False) (Or.inr ⟨id, q_eqI.mpr hv29⟩) i (by omega) (by omega) d_Mo_firstMarks_207 (fun H30 locs30 w30 hW30 hI30 hfr30 => ?_)
                          refine q_iinc (lv' := fun v31 => [(5, .int v31), (2, .int v18), (3, .int v14), (4, .int v7), (0, .ref (ad 469)), (1, .int x)]) F d_Mo_firstMarks_208 hl20 (k := 0) rfl (by decide) (by omega) (by decide) (fun _ => rfl) (fun v31 lsv31 hv31 hlv31 => ?_)
                          clear hl20
                          refine lv_goto (tgt := 161) F.1 F.2.1 d_Mo_firstMarks_211 (by decide) ?_
                          exact ihi (i := i + 1) (v19 := v31) (ls20 := lsv31) (wo := w30) (Ho := H30) (locso := locs30) (hiv := by omega) (hib := by omega) (hWo := hW30) (hfo := fun q hq => (hfr30 q hq.2.2).trans (hfo q hq)) (hBo := hBo.keep (hfr30 _ (by omega))) (hMo := hMo.keep (hfr30 _ (by omega))) (hA := ⟨_, hI30, fun a ha => by unfold q_upB; by_cases e : a = i; rw [if_pos e, e]; exact ⟨fun q => absurd q id, fun q => q.elim (fun z => absurd z hsi) (fun z => qb_f hv28 (by omega) z.2)⟩; rw [if_neg e, hS3i a ha]; exact ⟨fun q => q.elim Or.inl (fun z => Or.inr ⟨by omega, z.2⟩), fun q => q.elim Or.inl (fun z => Or.inr ⟨by omega, z.2⟩)⟩⟩) (hf3 := by omega) (hl20 := (lv_sub hlv31 [0, 1, 2, 3, 4, 5] rfl))
                        · refine q_iconst F d_Mo_firstMarks_202 (by decide) (fun v32 hv32 => ?_)
                          refine lv_goto (tgt := 207) F.1 F.2.1 d_Mo_firstMarks_203 (by decide) ?_
                          refine q_zast F hWo hS3 (by omega) (P := True) (Or.inl ⟨trivial, q_eqI.mpr hv32⟩) i (by omega) (by omega) d_Mo_firstMarks_207 (fun H33 locs33 w33 hW33 hI33 hfr33 => ?_)
                          refine q_iinc (lv' := fun v34 => [(5, .int v34), (2, .int v18), (3, .int v14), (4, .int v7), (0, .ref (ad 469)), (1, .int x)]) F d_Mo_firstMarks_208 hl20 (k := 0) rfl (by decide) (by omega) (by decide) (fun _ => rfl) (fun v34 lsv34 hv34 hlv34 => ?_)
                          clear hl20
                          refine lv_goto (tgt := 161) F.1 F.2.1 d_Mo_firstMarks_211 (by decide) ?_
                          exact ihi (i := i + 1) (v19 := v34) (ls20 := lsv34) (wo := w33) (Ho := H33) (locso := locs33) (hiv := by omega) (hib := by omega) (hWo := hW33) (hfo := fun q hq => (hfr33 q hq.2.2).trans (hfo q hq)) (hBo := hBo.keep (hfr33 _ (by omega))) (hMo := hMo.keep (hfr33 _ (by omega))) (hA := ⟨_, hI33, fun a ha => by unfold q_upB; by_cases e : a = i; rw [if_pos e, e]; exact ⟨fun _ => Or.inr ⟨by omega, qb_t hv28 (by omega)⟩, fun _ => trivial⟩; rw [if_neg e, hS3i a ha]; exact ⟨fun q => q.elim Or.inl (fun z => Or.inr ⟨by omega, z.2⟩), fun q => q.elim Or.inl (fun z => Or.inr ⟨by omega, z.2⟩)⟩⟩) (hf3 := by omega) (hl20 := (lv_sub hlv34 [0, 1, 2, 3, 4, 5] rfl))
                · exact absurd c141 (by omega)
            · have hbm := hbb.1
              refine lv_aload_n F.1 F.2.1 d_Mo_firstMarks_95 rfl (lv_at hl10 4 rfl) ?_
              refine lv_iload F.1 F.2.1 d_Mo_firstMarks_96 (lv_at hl10 0 rfl) ?_
              refine q_calli hWb (q_cV (As := [.int v9]) (rest := []) F hWb cs_Mo_89 hd_Mo_inBalls rfl (by omega) mo9 (k_Mo_inBalls l D τ A ad N wk hb th n32 b32 s32 p32 mo9 m hn hm40 S2 hS2 B1 hB1k (zbl m Wt bk) hA2m v9 j hjv (by omega)) rfl rfl ⟨by decide, by decide⟩ rfl hl10.1 rfl (Nat.le_of_ble_eq_true rfl) d_Mo_firstMarks_98 ⟨Nat.le_refl _, Nat.le_refl _⟩) (fun v35 w35 H35 locs35 hp35 hW35 => ?_)
              obtain ⟨hq35, hp35⟩ := hp35
              replace hq35 := hq35.symm
              subst hq35
              rw [hib9] at hp35
              refine lv_aload_n F.1 F.2.1 d_Mo_firstMarks_101 rfl (lv_at hl10 4 rfl) ?_
              refine lv_iload F.1 F.2.1 d_Mo_firstMarks_102 (lv_at hl10 1 rfl) ?_
              refine q_calli hW35 (q_cV (As := [.int v7]) (rest := [.int v35]) F hW35 cs_Mo_89 hd_Mo_inBalls rfl (by omega) mo9 (k_Mo_inBalls l D τ A ad N wk hb th n32 b32 s32 p32 mo9 m hn hm40 S2 hS2 B1 hB1k (zbl m Wt bk) hA2m v7 b hbv (by omega)) rfl rfl ⟨by decide, by decide⟩ rfl hl10.1 rfl (Nat.le_of_ble_eq_true rfl) d_Mo_firstMarks_104 ⟨Nat.le_refl _, Nat.le_refl _⟩) (fun v36 w36 H36 locs36 hp36 hW36 => ?_)
              obtain ⟨hq36, hp36⟩ := hp36
              replace hq36 := hq36.symm
              subst hq36
              rw [hib9] at hp36
              refine q_icmp_le (tgt := 115) F d_Mo_firstMarks_107 (by decide) (fun c107 => ?_) (fun c107 => ?_)
              · refine lv_iload F.1 F.2.1 d_Mo_firstMarks_115 (lv_at hl10 1 rfl) ?_
                refine lv_istore (lv' := [(4, .int v7), (5, .int v9), (3, .int v5), (2, .int v3), (0, .ref (ad 469)), (1, .int x)]) F.1 F.2.1 d_Mo_firstMarks_117 hl10 (by decide) rfl (fun ls37 hl37 => ?_)
                clear hl10
                refine q_iinc (lv' := fun v38 => [(5, .int v38), (4, .int v7), (3, .int v5), (2, .int v3), (0, .ref (ad 469)), (1, .int x)]) F d_Mo_firstMarks_119 hl37 (k := 1) rfl (by decide) (by omega) (by decide) (fun _ => rfl) (fun v38 lsv38 hv38 hlv38 => ?_)
                clear hl37
                refine lv_goto (tgt := 86) F.1 F.2.1 d_Mo_firstMarks_122 (by decide) ?_
                exact ihj (j := j + 1) (v9 := v38) (ls10 := lsv38) (Hb := H36) (locsb := locs36) (v7 := v7) (b := b) (hjv := by omega) (hjb := by omega) (hWb := hW36) (hbv := hbv) (hbb := zbb_k hbb (by omega)) (hf2 := by omega) (hl10 := (lv_sub hlv38 [0, 1, 2, 3, 4, 5] rfl))
              · refine lv_iload F.1 F.2.1 d_Mo_firstMarks_110 (lv_at hl10 0 rfl) ?_
                refine lv_goto (tgt := 117) F.1 F.2.1 d_Mo_firstMarks_112 (by decide) ?_
                refine lv_istore (lv' := [(4, .int v9), (5, .int v9), (3, .int v5), (2, .int v3), (0, .ref (ad 469)), (1, .int x)]) F.1 F.2.1 d_Mo_firstMarks_117 hl10 (by decide) rfl (fun ls39 hl39 => ?_)
                clear hl10
                refine q_iinc (lv' := fun v40 => [(5, .int v40), (4, .int v9), (3, .int v5), (2, .int v3), (0, .ref (ad 469)), (1, .int x)]) F d_Mo_firstMarks_119 hl39 (k := 1) rfl (by decide) (by omega) (by decide) (fun _ => rfl) (fun v40 lsv40 hv40 hlv40 => ?_)
                clear hl39
                refine lv_goto (tgt := 86) F.1 F.2.1 d_Mo_firstMarks_122 (by decide) ?_
                exact ihj (j := j + 1) (v9 := v40) (ls10 := lsv40) (Hb := H36) (locsb := locs36) (v7 := v9) (b := j) (hjv := by omega) (hjb := by omega) (hWb := hW36) (hbv := hjv) (hbb := zbb_t hbb (by omega)) (hf2 := by omega) (hl10 := (lv_sub hlv40 [0, 1, 2, 3, 4, 5] rfl))
    · refine lv_aload_n F.1 F.2.1 d_Mo_firstMarks_10 rfl (lv_at hl2 1 rfl) ?_
      refine gf_Mo_39 F hWl (by omega) mo9 d_Mo_firstMarks_11 ?_
      refine lv_iload_n F.1 F.2.1 d_Mo_firstMarks_14 rfl (lv_at hl2 0 rfl) ?_
      refine q_iconst F d_Mo_firstMarks_15 (by decide) (fun v41 hv41 => ?_)
      refine q_zast F hWl hS1 (by omega) (P := False) (Or.inr ⟨id, q_eqI.mpr hv41⟩) i (by omega) (by omega) d_Mo_firstMarks_16 (fun H42 locs42 w42 hW42 hI42 hfr42 => ?_)
      have mo8 := (hfr42 _ (by omega)).trans mo9
      have hM2 := hM1.keep (hfr42 476 (by omega))
      refine lv_aload_n F.1 F.2.1 d_Mo_firstMarks_17 rfl (lv_at hl2 1 rfl) ?_
      refine gf_Mo_32 F hW42 (by omega) mo8 d_Mo_firstMarks_18 ?_
      refine lv_iload_n F.1 F.2.1 d_Mo_firstMarks_21 rfl (lv_at hl2 0 rfl) ?_
      refine q_iconst F d_Mo_firstMarks_22 (by decide) (fun v43 hv43 => ?_)
      refine q_zast F hW42 hM2 (by omega) (P := False) (Or.inr ⟨id, q_eqI.mpr hv43⟩) i (by omega) (by omega) d_Mo_firstMarks_23 (fun H44 locs44 w44 hW44 hI44 hfr44 => ?_)
      have mo7 := (hfr44 _ (by omega)).trans mo8
      have hS2 := hI42.keep (hfr44 478 (by omega))
      have hB2 := (hB1.keep (hfr42 477 (by omega))).keep (hfr44 477 (by omega))
      have hfs : (∀ q, (q ≠ 476 ∧ q ≠ 477 ∧ q ≠ 478) → w44 q = w q) := fun q hq => by rw [hfr44 q hq.1, hfr42 q hq.2.2]; exact hfl q hq
      refine q_iconst F d_Mo_firstMarks_24 (by decide) (fun v45 hv45 => ?_)
      refine lv_istore_n (lv' := [(3, .int v45), (2, .int v1), (0, .ref (ad 469)), (1, .int x)]) F.1 F.2.1 d_Mo_firstMarks_25 rfl hl2 (by decide) rfl (fun ls46 hl46 => ?_)
      clear hl2
      obtain ⟨j, hj0⟩ : ∃ j : Nat, j = 0 := ⟨_, rfl⟩
      have hjv : v45.toInt = (j : Int) := by omega
      have hjb : j ≤ m := by omega
      obtain ⟨wj, hwj⟩ : ∃ x : Nat → va_E, x = w44 := ⟨_, rfl⟩
      have hWj : qW D τ A s H44 locs44 ad N wj := by rw [hwj]; exact hW44
      have hfj : (∀ q, (q ≠ 476 ∧ q ≠ 477 ∧ q ≠ 478) → wj q = w q) := by rw [hwj]; exact hfs
      have hMj : q_Z τ wj 476 40 (q_upB M1 i False) := by rw [hwj]; exact hI44
      have hSj : q_Z τ wj 478 40 (q_upB S1 i False) := by rw [hwj]; exact hS2
      have hA : ∃ B2, q_Z τ wj 477 1600 B2 ∧ ∀ a b, a < m → b < m → (a < i ∨ (a = i ∧ b < j)) → (B2 (40 * a + b) ↔ zbl m Wt bk a b) := ⟨B1, by rw [hwj]; exact hB2, fun a b ha hb9 h => hA2 a b ha hb9 (by omega)⟩
      clear hj0 hv45 hwj mo7 mo8 mo9
      generalize H44 = Hj at hWj ⊢
      generalize locs44 = locsj at hWj ⊢
      obtain ⟨f9, hf9⟩ : ∃ f9 : Nat, m + 1 ≤ j + f9 := ⟨m + 1, by omega⟩
      induction f9 generalizing j v45 ls46 wj Hj locsj with
      | zero => exact absurd hf9 (by omega)
      | succ f9 ihj =>
        clear hB2
        obtain ⟨B2, hB2, hBi⟩ := hA
        have mo9 := (hfj 469 (by omega)).trans mo
        have hT9 := hT.keep (hfj 475 (by omega))
        refine lv_iload_n F.1 F.2.1 d_Mo_firstMarks_26 rfl (lv_at hl46 0 rfl) ?_
        refine lv_aload_n F.1 F.2.1 d_Mo_firstMarks_27 rfl (lv_at hl46 2 rfl) ?_
        refine gf_Mo_7 F hWj (by omega) mo9 d_Mo_firstMarks_28 ?_
        refine q_icmp_ge (tgt := 66) F d_Mo_firstMarks_31 (by decide) (fun c31 => ?_) (fun c31 => ?_)
        · refine q_iinc (lv' := fun v47 => [(2, .int v47), (3, .int v45), (0, .ref (ad 469)), (1, .int x)]) F d_Mo_firstMarks_66 hl46 (k := 1) rfl (by decide) (by omega) (by decide) (fun _ => rfl) (fun v47 lsv47 hv47 hlv47 => ?_)
          clear hl46
          refine lv_goto (tgt := 2) F.1 F.2.1 d_Mo_firstMarks_69 (by decide) ?_
          exact ihi (i := i + 1) (v1 := v47) (ls2 := lsv47) (wl := wj) (Hl := Hj) (locsl := locsj) (hiv := by omega) (hib := by omega) (hWl := hWj) (hfl := hfj) (hA := ⟨_, B2, _, hMj, hB2, hSj, fun v hv => by unfold q_upB; by_cases e : v = i; rw [if_pos e, if_pos e]; exact ⟨id, id⟩; rw [if_neg e, if_neg e]; exact hA1 v (by omega), fun a b ha hb9 h => hBi a b ha hb9 (by omega)⟩) (hf := by omega) (hl2 := (lv_sub hlv47 [0, 2, 3] rfl))
        · refine lv_aload_n F.1 F.2.1 d_Mo_firstMarks_34 rfl (lv_at hl46 2 rfl) ?_
          refine gf_Mo_36 F hWj (by omega) mo9 d_Mo_firstMarks_35 ?_
          refine q_bipush F d_Mo_firstMarks_38 (by decide) (fun v48 hv48 => ?_)
          refine lv_iload_n F.1 F.2.1 d_Mo_firstMarks_40 rfl (lv_at hl46 1 rfl) ?_
          refine q_imul F d_Mo_firstMarks_41 (by rw [hv48]; omega) (fun v49 hv49 => ?_)
          rw [hv48] at hv49
          refine lv_iload_n F.1 F.2.1 d_Mo_firstMarks_42 rfl (lv_at hl46 0 rfl) ?_
          refine q_iadd F d_Mo_firstMarks_43 (by omega) (fun v50 hv50 => ?_)
          refine lv_aload_n F.1 F.2.1 d_Mo_firstMarks_44 rfl (lv_at hl46 2 rfl) ?_
          refine lv_iload_n F.1 F.2.1 d_Mo_firstMarks_45 rfl (lv_at hl46 1 rfl) ?_
          refine lv_iload_n F.1 F.2.1 d_Mo_firstMarks_46 rfl (lv_at hl46 0 rfl) ?_
          refine q_calli hWj (q_cV (As := [.int v1, .int v45]) (rest := [.int v50, .ref (ad 477)]) F hWj cs_Mo_86 hd_Mo_ahead rfl (by omega) mo9 (k_Mo_ahead l D τ A ad N wj hb th n32 b32 s32 p32 mo9 m hn hm40 T hT9 (zd m Wt) hTf v1 v45 i j hiv hjv (by omega) (by omega)) rfl rfl ⟨by decide, by decide⟩ rfl hl46.1 rfl (Nat.le_of_ble_eq_true rfl) d_Mo_firstMarks_47 ⟨Nat.le_refl _, Nat.le_refl _⟩) (fun v51 w51 H51 locs51 hp51 hW51 => ?_)
          obtain ⟨hq51, hp51⟩ := hp51
          replace hq51 := hq51.symm
          subst hq51
          refine lv_iload_n F.1 F.2.1 d_Mo_firstMarks_50 rfl (lv_at hl46 3 rfl) ?_
          refine q_icmp_ge (tgt := 58) F d_Mo_firstMarks_51 (by decide) (fun c51 => ?_) (fun c51 => ?_)
          · refine q_iconst F d_Mo_firstMarks_58 (by decide) (fun v52 hv52 => ?_)
            refine q_zast F hW51 hB2 (by omega) (P := False) (Or.inr ⟨id, q_eqI.mpr hv52⟩) (40 * i + j) (by omega) (by omega) d_Mo_firstMarks_59 (fun H53 locs53 w53 hW53 hI53 hfr53 => ?_)
            refine q_iinc (lv' := fun v54 => [(3, .int v54), (2, .int v1), (0, .ref (ad 469)), (1, .int x)]) F d_Mo_firstMarks_60 hl46 (k := 0) rfl (by decide) (by omega) (by decide) (fun _ => rfl) (fun v54 lsv54 hv54 hlv54 => ?_)
            clear hl46
            refine lv_goto (tgt := 26) F.1 F.2.1 d_Mo_firstMarks_63 (by decide) ?_
            exact ihj (j := j + 1) (v45 := v54) (ls46 := lsv54) (wj := w53) (Hj := H53) (locsj := locs53) (hjv := by omega) (hjb := by omega) (hWj := hW53) (hfj := fun q hq => (hfr53 q hq.2.1).trans (hfj q hq)) (hMj := hMj.keep (hfr53 _ (by omega))) (hSj := hSj.keep (hfr53 _ (by omega))) (hA := ⟨_, hI53, fun a b ha hb9 h => by unfold q_upB; by_cases e : 40 * a + b = 40 * i + j; rw [if_pos e, show a = i by omega, show b = j by omega]; exact ⟨fun q => absurd q id, fun q => by have := q.2; omega⟩; rw [if_neg e]; exact hBi a b ha hb9 (by omega)⟩) (hf9 := by omega) (hl46 := (lv_sub hlv54 [0, 1, 2, 3] rfl))
          · refine q_iconst F d_Mo_firstMarks_54 (by decide) (fun v55 hv55 => ?_)
            refine lv_goto (tgt := 59) F.1 F.2.1 d_Mo_firstMarks_55 (by decide) ?_
            refine q_zast F hW51 hB2 (by omega) (P := True) (Or.inl ⟨trivial, q_eqI.mpr hv55⟩) (40 * i + j) (by omega) (by omega) d_Mo_firstMarks_59 (fun H56 locs56 w56 hW56 hI56 hfr56 => ?_)
            refine q_iinc (lv' := fun v57 => [(3, .int v57), (2, .int v1), (0, .ref (ad 469)), (1, .int x)]) F d_Mo_firstMarks_60 hl46 (k := 0) rfl (by decide) (by omega) (by decide) (fun _ => rfl) (fun v57 lsv57 hv57 hlv57 => ?_)
            clear hl46
            refine lv_goto (tgt := 26) F.1 F.2.1 d_Mo_firstMarks_63 (by decide) ?_
            exact ihj (j := j + 1) (v45 := v57) (ls46 := lsv57) (wj := w56) (Hj := H56) (locsj := locs56) (hjv := by omega) (hjb := by omega) (hWj := hW56) (hfj := fun q hq => (hfr56 q hq.2.1).trans (hfj q hq)) (hMj := hMj.keep (hfr56 _ (by omega))) (hSj := hSj.keep (hfr56 _ (by omega))) (hA := ⟨_, hI56, fun a b ha hb9 h => by unfold q_upB; by_cases e : 40 * a + b = 40 * i + j; rw [if_pos e, show a = i by omega, show b = j by omega]; exact ⟨fun _ => ⟨by omega, by omega⟩, fun _ => trivial⟩; rw [if_neg e]; exact hBi a b ha hb9 (by omega)⟩) (hf9 := by omega) (hl46 := (lv_sub hlv57 [0, 1, 2, 3] rfl))
