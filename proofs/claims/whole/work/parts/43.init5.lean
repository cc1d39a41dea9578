-- ===== the class's constructor =====
theorem ShB.frn {σ σ' : Sg} {lo : Nat} (h : ShB σ) (hf : FrN lo σ σ') (hl : 156 ≤ lo) : ShB σ' := by
  obtain ⟨q1, q2, q3, q4, q5, q6, q7, q8, q9, q10, q11, q12⟩ := h
  refine ⟨?_, ?_, ?_, ?_, fun l hl => ?_, ?_, fun l hl => ?_, ?_, ?_, ?_, ?_, fun l hl => ⟨?_, ?_, ?_, (q12 l hl).2.2.2.frn hf (by omega)⟩⟩
  iterate 4 (rw [(hf _ (by omega)).1]; assumption)
  · rw [(hf _ (by omega)).1]; exact q5 l hl
  · rw [(hf _ (by omega)).1]; assumption
  · rw [(hf _ (by omega)).1]; exact q7 l hl
  iterate 4 (rw [(hf _ (by omega)).2.2]; assumption)
  · rw [(hf _ (by omega)).2.2]; exact (q12 l hl).1
  · rw [(hf _ (by omega)).2.2]; exact (q12 l hl).2.1
  · rw [(hf _ (by omega)).2.2]; exact (q12 l hl).2.2.1
theorem ShR.frn {σ σ' : Sg} {lo : Nat} (h : ShR σ) (hf : FrN lo σ σ') (hl : 161 ≤ lo) : ShR σ' := by
  obtain ⟨q1, q2, q3, q4, q5, q6, q7, q8, q9⟩ := h
  refine ⟨?_, ?_, ?_, ?_, ?_, ?_, ?_, ?_, ?_⟩
  iterate 5 (rw [(hf _ (by omega)).1]; assumption)
  iterate 4 (rw [(hf _ (by omega)).2.2]; assumption)
/-- a fresh state's cells hold no recipe, so nothing behind them matters -/
theorem RSt.fr0 {σ σ' : Sg} {s : Nat} (h : RSt σ s S00) (h1 : ∀ b, s ≤ b → b < s + 58 → sk σ' b = sk σ b ∧ hI σ' b = hI σ b ∧ hR σ' b = hR σ b) : RSt σ' s S00 := by
  obtain ⟨q, f, r, m⟩ := h
  obtain ⟨q1, q2, q3, q4, q5, q6, q7, q8, q9, q10, q11, q12, q13, q14⟩ := q
  refine ⟨⟨?_, ?_, ?_, ?_, ?_, ?_, ?_, ?_, ?_, ?_, ?_, ?_, ?_, fun p hp => ?_⟩, f.fr (fun j _ => by rw [(h1 s (by omega) (by omega)).2.1]) (fun b hb => (h1 b (by omega) (by omega)).2.1), fun l hl => Or.inl ⟨rfl, ?_⟩, m.frm0 (fun b hb => (h1 b (by omega) (by omega)).2.1) (h1 _ (by omega) (by omega)).2.2⟩
  iterate 7 (rw [(h1 _ (by omega) (by omega)).1]; assumption)
  iterate 6 (rw [(h1 _ (by omega) (by omega)).2.2]; assumption)
  · have h3 := q14 p hp
    unfold ShM at h3 ⊢
    rw [(h1 _ (by omega) (by omega)).1, (h1 _ (by omega) (by omega)).1, (h1 _ (by omega) (by omega)).1, (h1 _ (by omega) (by omega)).2.2]
    exact h3
  · rw [(h1 _ (by omega) (by omega)).2.2]
    rcases r l hl with e | e
    · exact e.2
    · exact absurd rfl e.1
def XI (σ : Sg) (i j : Nat) : Prop := ((sk σ 0).1 = 6 ∧ sk σ 1 = (10, 60) ∧ sk σ 60 = (13, 6) ∧ sk σ 61 = (13, 2) ∧ sk σ 62 = (11, 2) ∧ hR σ 0 0 = some 1 ∧ hR σ 0 3 = some 60 ∧ hR σ 0 5 = some 61 ∧ hR σ 0 6 = some 62 ∧ hR σ 0 7 = some 63 ∧ hR σ 0 8 = some 121 ∧ hR σ 0 9 = some 156 ∧ hR σ 0 2 = some 2) ∧ ShB σ ∧ ShR σ ∧ RSt σ 2 S00 ∧ RSt σ 63 S00 ∧ (hI σ 0 1 = 0 ∧ hI σ 0 4 = 0 ∧ ∀ p, hI σ 62 p = 0) ∧ (∀ p, p < i → hR σ 60 p = some (161 + 58 * p) ∧ RSt σ (161 + 58 * p) S00) ∧ (∀ p, p < j → hR σ 61 p = some (509 + 58 * p) ∧ RSt σ (509 + 58 * p) S00) ∧ sn σ = 161 + 58 * (i + j)
theorem XI.fr {σ σ' : Sg} {i j a m : Nat} (h : XI σ i j) (hij : j = 0 ∨ i = 6) (hf : ∀ b, b < sn σ → b ≠ a → sk σ' b = sk σ b ∧ hI σ' b = hI σ b ∧ hR σ' b = hR σ b) (ha : (a = 60 ∧ m = i) ∨ (a = 61 ∧ m = j)) (hs : sk σ' a = sk σ a) (hr : ∀ b, b ≠ m → hR σ' a b = hR σ a b) :
    ((sk σ' 0).1 = 6 ∧ sk σ' 1 = (10, 60) ∧ sk σ' 60 = (13, 6) ∧ sk σ' 61 = (13, 2) ∧ sk σ' 62 = (11, 2) ∧ hR σ' 0 0 = some 1 ∧ hR σ' 0 3 = some 60 ∧ hR σ' 0 5 = some 61 ∧ hR σ' 0 6 = some 62 ∧ hR σ' 0 7 = some 63 ∧ hR σ' 0 8 = some 121 ∧ hR σ' 0 9 = some 156 ∧ hR σ' 0 2 = some 2) ∧ ShB σ' ∧ ShR σ' ∧ RSt σ' 2 S00 ∧ RSt σ' 63 S00 ∧ (hI σ' 0 1 = 0 ∧ hI σ' 0 4 = 0 ∧ ∀ p, hI σ' 62 p = 0) ∧ (∀ p, p < i → hR σ' 60 p = some (161 + 58 * p) ∧ RSt σ' (161 + 58 * p) S00) ∧ (∀ p, p < j → hR σ' 61 p = some (509 + 58 * p) ∧ RSt σ' (509 + 58 * p) S00) := by
  obtain ⟨⟨u1, u2, u3, u4, u5, u6, u7, u8, u9, u10, u11, u12, u13⟩, v1, v2, v3, v4, ⟨w1, w2, w3⟩, x1, x2, x3⟩ := h
  have h60 : sk σ' 60 = sk σ 60 ∧ sk σ' 61 = sk σ 61 := by
    rcases ha with ⟨e, -⟩ | ⟨e, -⟩
    · subst e
      exact ⟨hs, (hf 61 (by omega) (by omega)).1⟩
    · subst e
      exact ⟨(hf 60 (by omega) (by omega)).1, hs⟩
  have hB : ShB σ' := by
    obtain ⟨q1, q2, q3, q4, q5, q6, q7, q8, q9, q10, q11, q12⟩ := v1
    refine ⟨?_, ?_, ?_, ?_, fun l hl => ?_, ?_, fun l hl => ?_, ?_, ?_, ?_, ?_, fun l hl => ⟨?_, ?_, ?_, ?_⟩⟩
    iterate 4 (rw [(hf _ (by omega) (by omega)).1]; assumption)
    · rw [(hf _ (by omega) (by omega)).1]; exact q5 l hl
    · rw [(hf _ (by omega) (by omega)).1]; assumption
    · rw [(hf _ (by omega) (by omega)).1]; exact q7 l hl
    iterate 4 (rw [(hf _ (by omega) (by omega)).2.2]; assumption)
    · rw [(hf _ (by omega) (by omega)).2.2]; exact (q12 l hl).1
    · rw [(hf _ (by omega) (by omega)).2.2]; exact (q12 l hl).2.1
    · rw [(hf _ (by omega) (by omega)).2.2]; exact (q12 l hl).2.2.1
    · have h3 := (q12 l hl).2.2.2
      unfold ShM at h3 ⊢
      rw [(hf _ (by omega) (by omega)).1, (hf _ (by omega) (by omega)).1, (hf _ (by omega) (by omega)).1, (hf _ (by omega) (by omega)).2.2]
      exact h3
  have hR' : ShR σ' := by
    obtain ⟨q1, q2, q3, q4, q5, q6, q7, q8, q9⟩ := v2
    refine ⟨?_, ?_, ?_, ?_, ?_, ?_, ?_, ?_, ?_⟩
    iterate 5 (rw [(hf _ (by omega) (by omega)).1]; assumption)
    iterate 4 (rw [(hf _ (by omega) (by omega)).2.2]; assumption)
  refine ⟨⟨?_, ?_, by rw [h60.1]; exact u3, by rw [h60.2]; exact u4, ?_, ?_, ?_, ?_, ?_, ?_, ?_, ?_, ?_⟩, hB, hR', v3.fr0 (fun b h1 h2 => hf b (by omega) (by omega)), v4.fr0 (fun b h1 h2 => hf b (by omega) (by omega)), ⟨?_, ?_, fun p => ?_⟩, fun p hp => ⟨?_, (x1 p hp).2.fr0 (fun b h1 h2 => hf b (by omega) (by omega))⟩, fun p hp => ⟨?_, (x2 p hp).2.fr0 (fun b h1 h2 => hf b (by omega) (by omega))⟩⟩
  · rw [(hf 0 (by omega) (by omega)).1]; exact u1
  · rw [(hf 1 (by omega) (by omega)).1]; exact u2
  · rw [(hf 62 (by omega) (by omega)).1]; exact u5
  iterate 8 (rw [(hf 0 (by omega) (by omega)).2.2]; assumption)
  iterate 2 (rw [(hf 0 (by omega) (by omega)).2.1]; assumption)
  · rw [(hf 62 (by omega) (by omega)).2.1]; exact w3 p
  · rcases ha with ⟨e, e2⟩ | ⟨e, e2⟩
    · subst e
      rw [hr p (by omega)]; exact (x1 p hp).1
    · subst e
      rw [(hf 60 (by omega) (by omega)).2.2]; exact (x1 p hp).1
  · rcases ha with ⟨e, e2⟩ | ⟨e, e2⟩
    · subst e
      rw [(hf 61 (by omega) (by omega)).2.2]; exact (x2 p hp).1
    · subst e
      rw [hr p (by omega)]; exact (x2 p hp).1
def E00 (i : Nat) : Nat := if i = 6 then 0 else i + 1
def C00 : CS := (S00, [], fun _ => none, [])
theorem wfs00 : WFS S00 := by
  refine ⟨by decide, by decide, fun i hi => ?_, fun i hi => ?_, by decide, by decide, (fun M hM => by cases hM), List.nodup_nil, fun l hl => ⟨(by show 0 < 60; decide), (fun x hx => by cases hx)⟩⟩
  · show 0 ≤ f00 (2 + i) ∧ f00 (2 + i) < 100
    unfold f00
    rw [if_neg (by omega), if_neg (by omega)]
    exact ⟨by decide, by decide⟩
  · show f00 (14 + i) = 0 ∨ f00 (14 + i) = 1
    unfold f00
    rw [if_neg (by omega), if_neg (by omega)]
    exact Or.inl rfl
section INIX
variable {G : GT} {d k n : Nat} {σ : Sg} {Q : Option AV → Sg → Prop}
set_option maxHeartbeats 16000000 in
theorem sp_X5_init (hk : (sk σ 0).1 = 6) (hz0 : ∀ j, hI σ 0 j = 0) (hn : sn σ = 1) (hk2 : 640 ≤ k) (hn2 : 9200 ≤ n) (hdp : 4 ≤ d) (hQ : ∀ σ', XI σ' 6 2 → Q none σ') : WA G d k n mX5_init 0 [Va 0, Vu] [] σ Q := by
  have loop2 : ∀ r j : Nat, ∀ (σi : Sg) (k' n' : Nat), 2 - j = r → j ≤ 2 → XI σi 6 j → 58 * (2 - j) ≤ k' → 808 * (2 - j) ≤ n' → WA G d k' n' mX5_init 109 [Va 0, Vi (j : Int)] [] σi Q := by
    intro r
    induction r using Nat.strongRecOn with
    | ind r ih =>
    intro j σi k' n' hr hj hX hk' hn'
    have hk0 := hX.1.1
    have hk61 : sk σi 61 = (13, 2) := hX.1.2.2.2.1
    have hr5 : hR σi 0 5 = some 61 := hX.1.2.2.2.2.2.2.2.1
    have hsn := hX.2.2.2.2.2.2.2.2
    refine ar_iload_n 110 rfl d_X5_init_109 rfl ?_
    refine ar_iconst 111 rfl d_X5_init_110 ?_
    refine ar_icmp_ge 133 114 rfl rfl d_X5_init_111 (by omega) (by omega) (fun g111 => ?_) (fun g111 => ?_)
    · refine WA.ret none ⟨d_X5_init_133, rfl, rfl⟩ ?_
      have hj2 : j = 2 := by omega
      subst hj2
      exact hQ σi hX
    · refine ar_aload_n 115 rfl d_X5_init_114 rfl ?_
      refine ar_getA 118 rfl d_X5_init_115 fl_X5_24 rfl (by assumption) (by assumption) ?_
      refine ar_iload_n 119 rfl d_X5_init_118 rfl ?_
      refine ar_newA 4 (509 + 58 * j) (k' - 1) (n' - 11) (by omega) 122 rfl d_X5_init_119 (by decide) kl_X5_13 in_4 ii_4 (by omega) (by show n' - 11 + 11 ≤ n'; omega) ?_
      refine ar_dup 123 rfl d_X5_init_122 (fun _ => rfl) ?_
      refine ar_callI (M' := mX4_init) (As := []) (ls' := [Va _, Vu]) 57 797 (58 * (2 - (j + 1))) (808 * (2 - (j + 1))) 126 rfl d_X5_init_123 ml_X5_15 mt_X4_init rfl (Nat.le_of_ble_eq_true rfl) rfl (Nat.le_of_ble_eq_true rfl) (by omega) (by omega) (by omega) ?_
      refine sp_X4_init (by rw [sk_aA, if_pos rfl]) (sn_aA _ _ _ _) (fun j' => by rw [hI_aA, if_pos rfl]) (by omega) (by omega) (by omega) (fun σ1 hm1 hn1 hf1 => ?_)
      have hg : ∀ b, b < 509 + 58 * j → sk σ1 b = sk σi b ∧ hI σ1 b = hI σi b ∧ hR σ1 b = hR σi b := ((FrN.a (Nat.le_refl _)).tr hf1)
      have hk61' : sk σ1 61 = (13, 2) := by rw [(hg 61 (by omega)).1]; exact hk61
      have hkm := hm1.1.1
      refine ar_aasN (kd := 13) j 127 rfl d_X5_init_126 (by assumption) (by omega) (by omega) (by omega) hkm ?_
      refine ar_inc_1 (y := ((j + 1 : Nat) : Int)) 130 rfl d_X5_init_127 rfl (by intro _ h; cases h) (by omega) ?_
      refine ar_goto 109 rfl d_X5_init_130 ?_
      refine ih (2 - (j + 1)) (by omega) (j + 1) _ _ _ rfl (by omega) ?_ (Nat.le_refl _) (Nat.le_refl _)
      have hst9 : RSt (wR σ1 61 j (some (509 + 58 * j))) (509 + 58 * j) S00 := hm1.fr0 (fun b h1 h2 => ⟨rfl, rfl, by funext i; rw [hR_w, if_neg (by omega)]⟩)
      obtain ⟨y1, y2, y3, y4, y5, y6, y7, y8⟩ := hX.fr (σ' := wR σ1 61 j (some (509 + 58 * j))) (a := 61) (m := j) (Or.inr rfl) (fun b h1 h2 => ⟨by rw [sk_wR]; exact (hg b (by omega)).1, by rw [hI_wR]; exact (hg b (by omega)).2.1, by rw [← (hg b (by omega)).2.2]; funext i; rw [hR_w, if_neg (by omega)]⟩) (Or.inr ⟨rfl, rfl⟩) (by rw [sk_wR]; exact (hg 61 (by omega)).1) (fun b hb => by rw [hR_w, if_neg (by omega), (hg 61 (by omega)).2.2])
      refine ⟨y1, y2, y3, y4, y5, y6, y7, fun p hp => ?_, by rw [sn_wR, hn1]; omega⟩
      by_cases e : p = j
      · rw [e]
        exact ⟨by rw [hR_w, if_pos ⟨rfl, rfl⟩], hst9⟩
      · exact y8 p (by omega)
  have loop1 : ∀ r i : Nat, ∀ (σi : Sg) (k' n' : Nat), 6 - i = r → i ≤ 6 → XI σi i 0 → 58 * (8 - i) ≤ k' → 808 * (8 - i) ≤ n' → WA G d k' n' mX5_init 82 [Va 0, Vi (i : Int)] [] σi Q := by
    intro r
    induction r using Nat.strongRecOn with
    | ind r ih =>
    intro i σi k' n' hr hi hX hk' hn'
    have hk0 := hX.1.1
    have hk60 : sk σi 60 = (13, 6) := hX.1.2.2.1
    have hr3 : hR σi 0 3 = some 60 := hX.1.2.2.2.2.2.2.1
    have hsn := hX.2.2.2.2.2.2.2.2
    refine ar_iload_n 83 rfl d_X5_init_82 rfl ?_
    refine ar_bipush 85 rfl d_X5_init_83 rfl ?_
    refine ar_icmp_ge 107 88 rfl rfl d_X5_init_85 (by omega) (by omega) (fun g85 => ?_) (fun g85 => ?_)
    · refine ar_iconst 108 rfl d_X5_init_107 ?_
      refine ar_ist_1 109 rfl d_X5_init_108 rfl (by intro _ h; cases h) ?_
      have hi6 : i = 6 := by omega
      subst hi6
      exact loop2 2 0 σi k' n' rfl (by omega) hX (by omega) (by omega)
    · refine ar_aload_n 89 rfl d_X5_init_88 rfl ?_
      refine ar_getA 92 rfl d_X5_init_89 fl_X5_20 rfl (by assumption) (by assumption) ?_
      refine ar_iload_n 93 rfl d_X5_init_92 rfl ?_
      refine ar_newA 4 (161 + 58 * i) (k' - 1) (n' - 11) (by omega) 96 rfl d_X5_init_93 (by decide) kl_X5_13 in_4 ii_4 (by omega) (by show n' - 11 + 11 ≤ n'; omega) ?_
      refine ar_dup 97 rfl d_X5_init_96 (fun _ => rfl) ?_
      refine ar_callI (M' := mX4_init) (As := []) (ls' := [Va _, Vu]) 57 797 (58 * (8 - (i + 1))) (808 * (8 - (i + 1))) 100 rfl d_X5_init_97 ml_X5_15 mt_X4_init rfl (Nat.le_of_ble_eq_true rfl) rfl (Nat.le_of_ble_eq_true rfl) (by omega) (by omega) (by omega) ?_
      refine sp_X4_init (by rw [sk_aA, if_pos rfl]) (sn_aA _ _ _ _) (fun j' => by rw [hI_aA, if_pos rfl]) (by omega) (by omega) (by omega) (fun σ1 hm1 hn1 hf1 => ?_)
      have hg : ∀ b, b < 161 + 58 * i → sk σ1 b = sk σi b ∧ hI σ1 b = hI σi b ∧ hR σ1 b = hR σi b := ((FrN.a (Nat.le_refl _)).tr hf1)
      have hk60' : sk σ1 60 = (13, 6) := by rw [(hg 60 (by omega)).1]; exact hk60
      have hkm := hm1.1.1
      refine ar_aasN (kd := 13) i 101 rfl d_X5_init_100 (by assumption) (by omega) (by omega) (by omega) hkm ?_
      refine ar_inc_1 (y := ((i + 1 : Nat) : Int)) 104 rfl d_X5_init_101 rfl (by intro _ h; cases h) (by omega) ?_
      refine ar_goto 82 rfl d_X5_init_104 ?_
      refine ih (6 - (i + 1)) (by omega) (i + 1) _ _ _ rfl (by omega) ?_ (Nat.le_refl _) (Nat.le_refl _)
      have hst9 : RSt (wR σ1 60 i (some (161 + 58 * i))) (161 + 58 * i) S00 := hm1.fr0 (fun b h1 h2 => ⟨rfl, rfl, by funext i; rw [hR_w, if_neg (by omega)]⟩)
      obtain ⟨y1, y2, y3, y4, y5, y6, y7, y8⟩ := hX.fr (σ' := wR σ1 60 i (some (161 + 58 * i))) (a := 60) (m := i) (Or.inl rfl) (fun b h1 h2 => ⟨by rw [sk_wR]; exact (hg b (by omega)).1, by rw [hI_wR]; exact (hg b (by omega)).2.1, by rw [← (hg b (by omega)).2.2]; funext i; rw [hR_w, if_neg (by omega)]⟩) (Or.inl ⟨rfl, rfl⟩) (by rw [sk_wR]; exact (hg 60 (by omega)).1) (fun b hb => by rw [hR_w, if_neg (by omega), (hg 60 (by omega)).2.2])
      refine ⟨y1, y2, y3, y4, y5, y6, fun p hp => ?_, (fun p hp => absurd hp (by omega)), by rw [sn_wR, hn1]; omega⟩
      by_cases e : p = i
      · rw [e]
        exact ⟨by rw [hR_w, if_pos ⟨rfl, rfl⟩], hst9⟩
      · exact y7 p (by omega)
  refine ar_aload_n 1 rfl d_X5_init_0 rfl ?_
  refine ar_oinit 4 rfl d_X5_init_1 ml_X5_3 oi_i oi_c (Nat.le_of_ble_eq_true rfl) (by omega) ?_
  refine ar_aload_n 5 rfl d_X5_init_4 rfl ?_
  refine ar_bipush 7 rfl d_X5_init_5 rfl ?_
  refine ar_newIA 60 1 (k - 1) (n - 60) hn 9 rfl d_X5_init_7 rfl (by omega) (by omega) (by omega) ?_
  refine ar_putRF 12 rfl d_X5_init_9 fl_X5_9 (Or.inr ⟨_, rfl⟩) rfl rfl rfl (by rw [sk_aA, if_neg (by omega)]; exact hk) ?_
  refine ar_aload_n 13 rfl d_X5_init_12 rfl ?_
  refine ar_newA 4 2 (k - 2) (n - 71) rfl 16 rfl d_X5_init_13 (by decide) kl_X5_13 in_4 ii_4 (by omega) (by show n - 71 + 11 ≤ n - 60; omega) ?_
  refine ar_dup 17 rfl d_X5_init_16 (fun _ => rfl) ?_
  refine ar_callI (M' := mX4_init) (As := []) (ls' := [Va _, Vu]) 57 797 (k - 59) (n - 868) 20 rfl d_X5_init_17 ml_X5_15 mt_X4_init rfl (Nat.le_of_ble_eq_true rfl) rfl (Nat.le_of_ble_eq_true rfl) (by omega) (by omega) (by omega) ?_
  refine sp_X4_init (s := 2) (by rw [sk_aA, if_pos rfl]) (sn_aA _ _ _ _) (fun j' => by rw [hI_aA, if_pos rfl]) (by omega) (by omega) (by omega) (fun σ1 hm1 hn1 hf1 => ?_)
  have a0 : (sk σ1 0).1 = 6 := by
    rw [(hf1 0 (by omega)).1]
    simp [sk_aA, hI_aA, hR_aA, sn_aA, sk_wI, sk_wR, sn_wI, sn_wR, hIwR, hRwI, hI_w, hR_w, hk]
  have a1 : sk σ1 1 = (10, 60) := by
    rw [(hf1 1 (by omega)).1]
    simp [sk_aA, hI_aA, hR_aA, sn_aA, sk_wI, sk_wR, sn_wI, sn_wR, hIwR, hRwI, hI_w, hR_w]
  have a2 : hR σ1 0 0 = some 1 := by
    rw [(hf1 0 (by omega)).2.2]
    simp [sk_aA, hI_aA, hR_aA, sn_aA, sk_wI, sk_wR, sn_wI, sn_wR, hIwR, hRwI, hI_w, hR_w]
  have a3 : ∀ j, hI σ1 0 j = 0 := by
    intro j
    rw [(hf1 0 (by omega)).2.1]
    simp [sk_aA, hI_aA, hR_aA, sn_aA, sk_wI, sk_wR, sn_wI, sn_wR, hIwR, hRwI, hI_w, hR_w, hz0]
  clear hf1
  refine ar_putR 23 rfl d_X5_init_20 fl_X5_16 (Or.inl ⟨_, rfl⟩) rfl a0 ?_
  refine ar_aload_n 24 rfl d_X5_init_23 rfl ?_
  refine ar_bipush 26 rfl d_X5_init_24 rfl ?_
  refine ar_anewA 13 6 60 (k - 60) (n - 874) hn1 29 rfl d_X5_init_26 (by omega) kl_X5_13 rfl (by omega) (by omega) (by omega) ?_
  refine ar_putRF 32 rfl d_X5_init_29 fl_X5_20 (Or.inr ⟨_, rfl⟩) rfl rfl rfl (by rw [sk_aA, if_neg (by omega)]; exact a0) ?_
  refine ar_aload_n 33 rfl d_X5_init_32 rfl ?_
  refine ar_iconst 34 rfl d_X5_init_33 ?_
  refine ar_anewA 13 2 61 (k - 61) (n - 876) rfl 37 rfl d_X5_init_34 (by omega) kl_X5_13 rfl (by omega) (by omega) (by omega) ?_
  refine ar_putRF 40 rfl d_X5_init_37 fl_X5_24 (Or.inr ⟨_, rfl⟩) rfl rfl rfl (by simp [sk_aA, hI_aA, hR_aA, sn_aA, sk_wI, sk_wR, sn_wI, sn_wR, hIwR, hRwI, hI_w, hR_w, a0]) ?_
  refine ar_aload_n 41 rfl d_X5_init_40 rfl ?_
  refine ar_iconst 42 rfl d_X5_init_41 ?_
  refine ar_newZA 2 62 (k - 62) (n - 878) rfl 44 rfl d_X5_init_42 rfl (by omega) (by omega) (by omega) ?_
  refine ar_putRF 47 rfl d_X5_init_44 fl_X5_27 (Or.inr ⟨_, rfl⟩) rfl rfl rfl (by simp [sk_aA, hI_aA, hR_aA, sn_aA, sk_wI, sk_wR, sn_wI, sn_wR, hIwR, hRwI, hI_w, hR_w, a0]) ?_
  refine ar_aload_n 48 rfl d_X5_init_47 rfl ?_
  refine ar_newA 4 63 (k - 63) (n - 889) rfl 51 rfl d_X5_init_48 (by decide) kl_X5_13 in_4 ii_4 (by omega) (by show n - 889 + 11 ≤ n - 878; omega) ?_
  refine ar_dup 52 rfl d_X5_init_51 (fun _ => rfl) ?_
  refine ar_callI (M' := mX4_init) (As := []) (ls' := [Va _, Vu]) 57 797 (k - 120) (n - 1686) 55 rfl d_X5_init_52 ml_X5_15 mt_X4_init rfl (Nat.le_of_ble_eq_true rfl) rfl (Nat.le_of_ble_eq_true rfl) (by omega) (by omega) (by omega) ?_
  refine sp_X4_init (s := 63) (by rw [sk_aA, if_pos rfl]) (sn_aA _ _ _ _) (fun j' => by rw [hI_aA, if_pos rfl]) (by omega) (by omega) (by omega) (fun σ2 hm2 hn2' hf2 => ?_)
  have b0 : (sk σ2 0).1 = 6 ∧ sk σ2 1 = (10, 60) ∧ sk σ2 60 = (13, 6) ∧ sk σ2 61 = (13, 2) ∧ sk σ2 62 = (11, 2) := by
    rw [(hf2 0 (by omega)).1, (hf2 1 (by omega)).1, (hf2 60 (by omega)).1, (hf2 61 (by omega)).1, (hf2 62 (by omega)).1]
    simp [sk_aA, hI_aA, hR_aA, sn_aA, sk_wI, sk_wR, sn_wI, sn_wR, hIwR, hRwI, hI_w, hR_w, a0, a1]
  have b1 : hR σ2 0 0 = some 1 ∧ hR σ2 0 2 = some 2 ∧ hR σ2 0 3 = some 60 ∧ hR σ2 0 5 = some 61 ∧ hR σ2 0 6 = some 62 := by
    rw [(hf2 0 (by omega)).2.2]
    simp [sk_aA, hI_aA, hR_aA, sn_aA, sk_wI, sk_wR, sn_wI, sn_wR, hIwR, hRwI, hI_w, hR_w, a2]
  have b2 : (∀ j, hI σ2 0 j = 0) ∧ ∀ j, hI σ2 62 j = 0 := by
    rw [(hf2 0 (by omega)).2.1, (hf2 62 (by omega)).2.1]
    simp [sk_aA, hI_aA, hR_aA, sn_aA, sk_wI, sk_wR, sn_wI, sn_wR, hIwR, hRwI, hI_w, hR_w, a3]
  have b3 : RSt σ2 2 S00 := hm1.fr0 (fun b h1 h2 => by
    rw [(hf2 b (by omega)).1, (hf2 b (by omega)).2.1, (hf2 b (by omega)).2.2]
    refine ⟨?_, ?_, ?_⟩
    · simp only [sk_aA, hI_aA, hR_aA, sn_aA, sk_wI, sk_wR, sn_wI, sn_wR, hIwR, hRwI, hI_w, hR_w]
      rw [if_neg (by omega), if_neg (by omega), if_neg (by omega), if_neg (by omega)]
    · funext i
      simp only [sk_aA, hI_aA, hR_aA, sn_aA, sk_wI, sk_wR, sn_wI, sn_wR, hIwR, hRwI, hI_w, hR_w]
      rw [if_neg (by omega), if_neg (by omega), if_neg (by omega), if_neg (by omega)]
    · funext i
      simp only [sk_aA, hI_aA, hR_aA, sn_aA, sk_wI, sk_wR, sn_wI, sn_wR, hIwR, hRwI, hI_w, hR_w]
      rw [if_neg (by omega), if_neg (by omega), if_neg (by omega), if_neg (by omega), if_neg (by omega), if_neg (by omega), if_neg (by omega), if_neg (by omega)])
  clear hf2
  refine ar_putRF 58 rfl d_X5_init_55 fl_X5_31 (Or.inl ⟨_, rfl⟩) rfl rfl rfl b0.1 ?_
  refine ar_aload_n 59 rfl d_X5_init_58 rfl ?_
  refine ar_newA 0 121 (k - 121) (n - 1693) hn2' 62 rfl d_X5_init_59 (by decide) kl_X5_34 in_0 ii_0 (by omega) (by show n - 1693 + 7 ≤ n - 1686; omega) ?_
  refine ar_dup 63 rfl d_X5_init_62 (fun _ => rfl) ?_
  refine ar_callI (M' := mX0_init) (As := []) (ls' := [Va _, Vu]) 34 750 (k - 155) (n - 2443) 66 rfl d_X5_init_63 ml_X5_36 mt_X0_init rfl (Nat.le_of_ble_eq_true rfl) rfl (Nat.le_of_ble_eq_true rfl) (by omega) (by omega) (by omega) ?_
  refine sp_X0_init (by rw [sk_aA, if_pos rfl]) (sn_aA _ _ _ _) (by omega) (by omega) (by omega) (fun σ3 hB3 hn3 hf3 => ?_)
  have hg3 : ∀ b, b < 121 → b ≠ 0 → sk σ3 b = sk σ2 b ∧ hI σ3 b = hI σ2 b ∧ hR σ3 b = hR σ2 b := by
    intro b hb hb0
    rw [(hf3 b hb).1, (hf3 b hb).2.1, (hf3 b hb).2.2]
    refine ⟨?_, ?_, ?_⟩
    · simp only [sk_aA, hI_aA, hR_aA, sn_aA, sk_wI, sk_wR, sn_wI, sn_wR, hIwR, hRwI, hI_w, hR_w]
      rw [if_neg (by omega)]
    · funext i
      simp only [sk_aA, hI_aA, hR_aA, sn_aA, sk_wI, sk_wR, sn_wI, sn_wR, hIwR, hRwI, hI_w, hR_w]
      rw [if_neg (by omega)]
    · funext i
      simp only [sk_aA, hI_aA, hR_aA, sn_aA, sk_wI, sk_wR, sn_wI, sn_wR, hIwR, hRwI, hI_w, hR_w]
      rw [if_neg (by omega), if_neg (by omega)]
  have c0 : (sk σ3 0).1 = 6 ∧ (∀ j, hI σ3 0 j = 0) ∧ hR σ3 0 0 = some 1 ∧ hR σ3 0 2 = some 2 ∧ hR σ3 0 3 = some 60 ∧ hR σ3 0 5 = some 61 ∧ hR σ3 0 6 = some 62 ∧ hR σ3 0 7 = some 63 := by
    rw [(hf3 0 (by omega)).1, (hf3 0 (by omega)).2.1, (hf3 0 (by omega)).2.2]
    simp [sk_aA, hI_aA, hR_aA, sn_aA, sk_wI, sk_wR, sn_wI, sn_wR, hIwR, hRwI, hI_w, hR_w, b0, b1, b2]
  clear hf3
  refine ar_putRF 69 rfl d_X5_init_66 fl_X5_37 (Or.inl ⟨_, rfl⟩) rfl rfl rfl c0.1 ?_
  refine ar_aload_n 70 rfl d_X5_init_69 rfl ?_
  refine ar_newA 2 156 (k - 156) (n - 2453) hn3 73 rfl d_X5_init_70 (by decide) kl_X5_41 in_2 ii_2 (by omega) (by show n - 2453 + 10 ≤ n - 2443; omega) ?_
  refine ar_dup 74 rfl d_X5_init_73 (fun _ => rfl) ?_
  refine ar_callIN (M' := mX2_init) (As := []) (ls' := [Va _]) 4 240 (k - 160) (n - 2693) 77 rfl d_X5_init_74 ml_X5_43 mt_X2_init rfl (Nat.le_of_ble_eq_true rfl) rfl (Nat.le_of_ble_eq_true rfl) (by omega) (by omega) (by omega) ?_
  refine sp_X2_init (by rw [sk_aA, if_pos rfl]) (sn_aA _ _ _ _) (by omega) (by omega) (by omega) (fun σ4 hR4 hn4 hf4 => ?_)
  have hg4 : ∀ b, b < 156 → b ≠ 0 → sk σ4 b = sk σ3 b ∧ hI σ4 b = hI σ3 b ∧ hR σ4 b = hR σ3 b := by
    intro b hb hb0
    rw [(hf4 b hb).1, (hf4 b hb).2.1, (hf4 b hb).2.2]
    refine ⟨?_, ?_, ?_⟩
    · simp only [sk_aA, hI_aA, hR_aA, sn_aA, sk_wI, sk_wR, sn_wI, sn_wR, hIwR, hRwI, hI_w, hR_w]
      rw [if_neg (by omega)]
    · funext i
      simp only [sk_aA, hI_aA, hR_aA, sn_aA, sk_wI, sk_wR, sn_wI, sn_wR, hIwR, hRwI, hI_w, hR_w]
      rw [if_neg (by omega)]
    · funext i
      simp only [sk_aA, hI_aA, hR_aA, sn_aA, sk_wI, sk_wR, sn_wI, sn_wR, hIwR, hRwI, hI_w, hR_w]
      rw [if_neg (by omega), if_neg (by omega)]
  have d0 : (sk σ4 0).1 = 6 ∧ (∀ j, hI σ4 0 j = 0) ∧ hR σ4 0 0 = some 1 ∧ hR σ4 0 2 = some 2 ∧ hR σ4 0 3 = some 60 ∧ hR σ4 0 5 = some 61 ∧ hR σ4 0 6 = some 62 ∧ hR σ4 0 7 = some 63 ∧ hR σ4 0 8 = some 121 := by
    rw [(hf4 0 (by omega)).1, (hf4 0 (by omega)).2.1, (hf4 0 (by omega)).2.2]
    simp [sk_aA, hI_aA, hR_aA, sn_aA, sk_wI, sk_wR, sn_wI, sn_wR, hIwR, hRwI, hI_w, hR_w, c0]
  clear hf4
  refine ar_putRF 80 rfl d_X5_init_77 fl_X5_44 (Or.inl ⟨_, rfl⟩) rfl rfl rfl d0.1 ?_
  refine ar_iconst 81 rfl d_X5_init_80 ?_
  refine ar_ist_1 82 rfl d_X5_init_81 rfl (by intro _ h; cases h) ?_
  refine loop1 6 0 _ _ _ rfl (by omega) ?_ (by omega) (by omega)
  have hw : ∀ b, b ≠ 0 → hR (wR σ4 0 9 (some 156)) b = hR σ4 b := fun b hb => by
    funext i
    rw [hR_w, if_neg (by omega)]
  have hw0 : ∀ j, j ≠ 9 → hR (wR σ4 0 9 (some 156)) 0 j = hR σ4 0 j := fun j hj => by rw [hR_w, if_neg (by omega)]
  have hw9 : hR (wR σ4 0 9 (some 156)) 0 9 = some 156 := by rw [hR_w, if_pos ⟨rfl, rfl⟩]
  have hg34 : ∀ b, b < 121 → b ≠ 0 → sk (wR σ4 0 9 (some 156)) b = sk σ2 b ∧ hI (wR σ4 0 9 (some 156)) b = hI σ2 b ∧ hR (wR σ4 0 9 (some 156)) b = hR σ2 b := fun b h1 h2 => ⟨by rw [sk_wR, (hg4 b (by omega) h2).1, (hg3 b h1 h2).1], by rw [hI_wR, (hg4 b (by omega) h2).2.1, (hg3 b h1 h2).2.1], by rw [hw b h2, (hg4 b (by omega) h2).2.2, (hg3 b h1 h2).2.2]⟩
  refine ⟨⟨d0.1, by rw [(hg34 1 (by omega) (by omega)).1]; exact b0.2.1, by rw [(hg34 60 (by omega) (by omega)).1]; exact b0.2.2.1, by rw [(hg34 61 (by omega) (by omega)).1]; exact b0.2.2.2.1, by rw [(hg34 62 (by omega) (by omega)).1]; exact b0.2.2.2.2, by rw [hw0 _ (by omega)]; exact d0.2.2.1, by rw [hw0 _ (by omega)]; exact d0.2.2.2.2.1, by rw [hw0 _ (by omega)]; exact d0.2.2.2.2.2.1, by rw [hw0 _ (by omega)]; exact d0.2.2.2.2.2.2.1, by rw [hw0 _ (by omega)]; exact d0.2.2.2.2.2.2.2.1, by rw [hw0 _ (by omega)]; exact d0.2.2.2.2.2.2.2.2, hw9, by rw [hw0 _ (by omega)]; exact d0.2.2.2.1⟩, ?_, ?_, b3.fr0 (fun b h1 h2 => hg34 b (by omega) (by omega)), hm2.fr0 (fun b h1 h2 => hg34 b (by omega) (by omega)), ⟨d0.2.1 1, d0.2.1 4, fun p => by rw [(hg34 62 (by omega) (by omega)).2.1]; exact b2.2 p⟩, (fun p hp => absurd hp (by omega)), (fun p hp => absurd hp (by omega)), hn4⟩
  · obtain ⟨q1, q2, q3, q4, q5, q6, q7, q8, q9, q10, q11, q12⟩ := hB3
    refine ⟨?_, ?_, ?_, ?_, fun l hl => ?_, ?_, fun l hl => ?_, ?_, ?_, ?_, ?_, fun l hl => ⟨?_, ?_, ?_, ?_⟩⟩
    iterate 4 (rw [sk_wR, (hg4 _ (by omega) (by omega)).1]; assumption)
    · rw [sk_wR, (hg4 _ (by omega) (by omega)).1]; exact q5 l hl
    · rw [sk_wR, (hg4 _ (by omega) (by omega)).1]; assumption
    · rw [sk_wR, (hg4 _ (by omega) (by omega)).1]; exact q7 l hl
    iterate 4 (rw [hw _ (by omega), (hg4 _ (by omega) (by omega)).2.2]; assumption)
    · rw [hw _ (by omega), (hg4 _ (by omega) (by omega)).2.2]; exact (q12 l hl).1
    · rw [hw _ (by omega), (hg4 _ (by omega) (by omega)).2.2]; exact (q12 l hl).2.1
    · rw [hw _ (by omega), (hg4 _ (by omega) (by omega)).2.2]; exact (q12 l hl).2.2.1
    · have h3 := (q12 l hl).2.2.2
      unfold ShM at h3 ⊢
      rw [hw _ (by omega), sk_wR, sk_wR, sk_wR, (hg4 _ (by omega) (by omega)).1, (hg4 _ (by omega) (by omega)).1, (hg4 _ (by omega) (by omega)).1, (hg4 _ (by omega) (by omega)).2.2]
      exact h3
  · obtain ⟨q1, q2, q3, q4, q5, q6, q7, q8, q9⟩ := hR4
    refine ⟨?_, ?_, ?_, ?_, ?_, ?_, ?_, ?_, ?_⟩
    iterate 5 (rw [sk_wR]; assumption)
    iterate 4 (rw [hw _ (by omega)]; assumption)
end INIX
