-- ===== the reference's constructor =====
theorem fj6_inj : ∀ q i : Fin 26, fj6 q.val = fj6 i.val → q.val = i.val := by decide +kernel
def Ini (σ0 : Sg) (i : Nat) (σ : Sg) : Prop := sn σ = 626 + i ∧ (sk σ 625).1 = 7 ∧ (∀ j, hI σ 625 j = 0) ∧ (∀ q, q < i → sk σ (626 + q) = (if q = 4 then 11 else 10, ln6 q) ∧ hR σ 625 (fj6 q) = some (626 + q) ∧ ∀ x, hI σ (626 + q) x = 0) ∧ FrN 625 σ0 σ
theorem Ini.step {σ0 σ : Sg} {i : Nat} (h : Ini σ0 i σ) (hi : i < 26) : Ini σ0 (i + 1) (wR (aA σ (626 + i) (if i = 4 then 11 else 10) (ln6 i)) 625 (fj6 i) (some (626 + i))) := by
  obtain ⟨h1, h2, h3, h4, h5⟩ := h
  refine ⟨rfl, ?_, fun j => ?_, fun q hq => ?_, h5.tr ((FrN.a (by omega)).tr (FrN.wR (Nat.le_refl _)))⟩
  · rw [sk_wR, sk_aA, if_neg (by omega)]
    exact h2
  · rw [hIwR, hI_aA, if_neg (by omega)]
    exact h3 j
  · by_cases e : q = i
    · rw [e]
      refine ⟨?_, ?_, fun x => ?_⟩
      · rw [sk_wR, sk_aA, if_pos rfl]
      · rw [hR_w, if_pos ⟨rfl, rfl⟩]
      · rw [hIwR, hI_aA, if_pos rfl]
    · obtain ⟨a1, a2, a3⟩ := h4 q (by omega)
      refine ⟨?_, ?_, fun x => ?_⟩
      · rw [sk_wR, sk_aA, if_neg (by omega)]
        exact a1
      · rw [hR_w, if_neg (fun h => e (fj6_inj ⟨q, by omega⟩ ⟨i, hi⟩ h.2)), hR_aA, if_neg (by omega)]
        exact a2
      · rw [hIwR, hI_aA, if_neg (by omega)]
        exact a3 x
section REF14
variable {G : GT} {d k n : Nat} {σ : Sg} {Q : Option AV → Sg → Prop}
set_option maxHeartbeats 16000000 in
theorem sp_X6_init (hk : (sk σ 625).1 = 7) (hz : ∀ j, hI σ 625 j = 0) (hn : sn σ = 626) (hk2 : 26 ≤ k) (hn2 : 15924 ≤ n) (hdp : 2 ≤ d) (hQ : ∀ σ', RepM C00 σ' → sn σ' = 652 → FrN 625 σ σ' → Q none σ') : WA G d k n mX6_init 0 [Va 625] [] σ Q := by
  have h0 : Ini σ 0 σ := ⟨hn, hk, hz, fun q hq => absurd hq (by omega), FrN.rf⟩
  refine ar_aload_n 1 rfl d_X6_init_0 rfl ?_
  refine ar_oinit 4 rfl d_X6_init_1 ml_X6_1 oi_i oi_c (Nat.le_of_ble_eq_true rfl) (by omega) ?_
  refine ar_aload_n 5 rfl d_X6_init_4 rfl ?_
  refine ar_sipush 8 rfl d_X6_init_5 rfl ?_
  refine ar_newIA 1496 626 (k - 1) (n - 1496) h0.1 10 rfl d_X6_init_8 rfl (by omega) (by omega) (by omega) ?_
  refine ar_putRF 13 rfl d_X6_init_10 fl_X6_7 (Or.inr ⟨_, rfl⟩) rfl rfl rfl (by rw [sk_aA, if_neg (by omega)]; exact h0.2.1) ?_
  have h1 : Ini σ 1 (wR (aA σ 626 10 1496) 625 0 (some 626)) := h0.step (by decide)
  generalize wR (aA σ 626 10 1496) 625 0 (some 626) = σ1 at h1 ⊢
  refine ar_aload_n 14 rfl d_X6_init_13 rfl ?_
  refine ar_sipush 17 rfl d_X6_init_14 rfl ?_
  refine ar_newIA 1496 627 (k - 2) (n - 2992) h1.1 19 rfl d_X6_init_17 rfl (by omega) (by omega) (by omega) ?_
  refine ar_putRF 22 rfl d_X6_init_19 fl_X6_13 (Or.inr ⟨_, rfl⟩) rfl rfl rfl (by rw [sk_aA, if_neg (by omega)]; exact h1.2.1) ?_
  have h2 : Ini σ 2 (wR (aA σ1 627 10 1496) 625 1 (some 627)) := h1.step (by decide)
  clear h1
  generalize wR (aA σ1 627 10 1496) 625 1 (some 627) = σ2 at h2 ⊢
  refine ar_aload_n 23 rfl d_X6_init_22 rfl ?_
  refine ar_sipush 26 rfl d_X6_init_23 rfl ?_
  refine ar_newIA 8976 628 (k - 3) (n - 11968) h2.1 28 rfl d_X6_init_26 rfl (by omega) (by omega) (by omega) ?_
  refine ar_putRF 31 rfl d_X6_init_28 fl_X6_16 (Or.inr ⟨_, rfl⟩) rfl rfl rfl (by rw [sk_aA, if_neg (by omega)]; exact h2.2.1) ?_
  have h3 : Ini σ 3 (wR (aA σ2 628 10 8976) 625 2 (some 628)) := h2.step (by decide)
  clear h2
  generalize wR (aA σ2 628 10 8976) 625 2 (some 628) = σ3 at h3 ⊢
  refine ar_aload_n 32 rfl d_X6_init_31 rfl ?_
  refine ar_sipush 35 rfl d_X6_init_32 rfl ?_
  refine ar_newIA 2992 629 (k - 4) (n - 14960) h3.1 37 rfl d_X6_init_35 rfl (by omega) (by omega) (by omega) ?_
  refine ar_putRF 40 rfl d_X6_init_37 fl_X6_19 (Or.inr ⟨_, rfl⟩) rfl rfl rfl (by rw [sk_aA, if_neg (by omega)]; exact h3.2.1) ?_
  have h4 : Ini σ 4 (wR (aA σ3 629 10 2992) 625 4 (some 629)) := h3.step (by decide)
  clear h3
  generalize wR (aA σ3 629 10 2992) 625 4 (some 629) = σ4 at h4 ⊢
  refine ar_aload_n 41 rfl d_X6_init_40 rfl ?_
  refine ar_iconst 42 rfl d_X6_init_41 ?_
  refine ar_newZA 2 630 (k - 5) (n - 14962) h4.1 44 rfl d_X6_init_42 rfl (by omega) (by omega) (by omega) ?_
  refine ar_putRF 47 rfl d_X6_init_44 fl_X6_22 (Or.inr ⟨_, rfl⟩) rfl rfl rfl (by rw [sk_aA, if_neg (by omega)]; exact h4.2.1) ?_
  have h5 : Ini σ 5 (wR (aA σ4 630 11 2) 625 5 (some 630)) := h4.step (by decide)
  clear h4
  generalize wR (aA σ4 630 11 2) 625 5 (some 630) = σ5 at h5 ⊢
  refine ar_aload_n 48 rfl d_X6_init_47 rfl ?_
  refine ar_bipush 50 rfl d_X6_init_48 rfl ?_
  refine ar_newIA 60 631 (k - 6) (n - 15022) h5.1 52 rfl d_X6_init_50 rfl (by omega) (by omega) (by omega) ?_
  refine ar_putRF 55 rfl d_X6_init_52 fl_X6_26 (Or.inr ⟨_, rfl⟩) rfl rfl rfl (by rw [sk_aA, if_neg (by omega)]; exact h5.2.1) ?_
  have h6 : Ini σ 6 (wR (aA σ5 631 10 60) 625 6 (some 631)) := h5.step (by decide)
  clear h5
  generalize wR (aA σ5 631 10 60) 625 6 (some 631) = σ6 at h6 ⊢
  refine ar_aload_n 56 rfl d_X6_init_55 rfl ?_
  refine ar_bipush 58 rfl d_X6_init_56 rfl ?_
  refine ar_newIA 64 632 (k - 7) (n - 15086) h6.1 60 rfl d_X6_init_58 rfl (by omega) (by omega) (by omega) ?_
  refine ar_putRF 63 rfl d_X6_init_60 fl_X6_29 (Or.inr ⟨_, rfl⟩) rfl rfl rfl (by rw [sk_aA, if_neg (by omega)]; exact h6.2.1) ?_
  have h7 : Ini σ 7 (wR (aA σ6 632 10 64) 625 8 (some 632)) := h6.step (by decide)
  clear h6
  generalize wR (aA σ6 632 10 64) 625 8 (some 632) = σ7 at h7 ⊢
  refine ar_aload_n 64 rfl d_X6_init_63 rfl ?_
  refine ar_bipush 66 rfl d_X6_init_64 rfl ?_
  refine ar_newIA 64 633 (k - 8) (n - 15150) h7.1 68 rfl d_X6_init_66 rfl (by omega) (by omega) (by omega) ?_
  refine ar_putRF 71 rfl d_X6_init_68 fl_X6_32 (Or.inr ⟨_, rfl⟩) rfl rfl rfl (by rw [sk_aA, if_neg (by omega)]; exact h7.2.1) ?_
  have h8 : Ini σ 8 (wR (aA σ7 633 10 64) 625 9 (some 633)) := h7.step (by decide)
  clear h7
  generalize wR (aA σ7 633 10 64) 625 9 (some 633) = σ8 at h8 ⊢
  refine ar_aload_n 72 rfl d_X6_init_71 rfl ?_
  refine ar_bipush 74 rfl d_X6_init_72 rfl ?_
  refine ar_newIA 64 634 (k - 9) (n - 15214) h8.1 76 rfl d_X6_init_74 rfl (by omega) (by omega) (by omega) ?_
  refine ar_putRF 79 rfl d_X6_init_76 fl_X6_35 (Or.inr ⟨_, rfl⟩) rfl rfl rfl (by rw [sk_aA, if_neg (by omega)]; exact h8.2.1) ?_
  have h9 : Ini σ 9 (wR (aA σ8 634 10 64) 625 11 (some 634)) := h8.step (by decide)
  clear h8
  generalize wR (aA σ8 634 10 64) 625 11 (some 634) = σ9 at h9 ⊢
  refine ar_aload_n 80 rfl d_X6_init_79 rfl ?_
  refine ar_bipush 82 rfl d_X6_init_80 rfl ?_
  refine ar_newIA 64 635 (k - 10) (n - 15278) h9.1 84 rfl d_X6_init_82 rfl (by omega) (by omega) (by omega) ?_
  refine ar_putRF 87 rfl d_X6_init_84 fl_X6_38 (Or.inr ⟨_, rfl⟩) rfl rfl rfl (by rw [sk_aA, if_neg (by omega)]; exact h9.2.1) ?_
  have h10 : Ini σ 10 (wR (aA σ9 635 10 64) 625 12 (some 635)) := h9.step (by decide)
  clear h9
  generalize wR (aA σ9 635 10 64) 625 12 (some 635) = σ10 at h10 ⊢
  refine ar_aload_n 88 rfl d_X6_init_87 rfl ?_
  refine ar_bipush 90 rfl d_X6_init_88 rfl ?_
  refine ar_newIA 40 636 (k - 11) (n - 15318) h10.1 92 rfl d_X6_init_90 rfl (by omega) (by omega) (by omega) ?_
  refine ar_putRF 95 rfl d_X6_init_92 fl_X6_41 (Or.inr ⟨_, rfl⟩) rfl rfl rfl (by rw [sk_aA, if_neg (by omega)]; exact h10.2.1) ?_
  have h11 : Ini σ 11 (wR (aA σ10 636 10 40) 625 15 (some 636)) := h10.step (by decide)
  clear h10
  generalize wR (aA σ10 636 10 40) 625 15 (some 636) = σ11 at h11 ⊢
  refine ar_aload_n 96 rfl d_X6_init_95 rfl ?_
  refine ar_bipush 98 rfl d_X6_init_96 rfl ?_
  refine ar_newIA 6 637 (k - 12) (n - 15324) h11.1 100 rfl d_X6_init_98 rfl (by omega) (by omega) (by omega) ?_
  refine ar_putRF 103 rfl d_X6_init_100 fl_X6_44 (Or.inr ⟨_, rfl⟩) rfl rfl rfl (by rw [sk_aA, if_neg (by omega)]; exact h11.2.1) ?_
  have h12 : Ini σ 12 (wR (aA σ11 637 10 6) 625 16 (some 637)) := h11.step (by decide)
  clear h11
  generalize wR (aA σ11 637 10 6) 625 16 (some 637) = σ12 at h12 ⊢
  refine ar_aload_n 104 rfl d_X6_init_103 rfl ?_
  refine ar_bipush 106 rfl d_X6_init_104 rfl ?_
  refine ar_newIA 6 638 (k - 13) (n - 15330) h12.1 108 rfl d_X6_init_106 rfl (by omega) (by omega) (by omega) ?_
  refine ar_putRF 111 rfl d_X6_init_108 fl_X6_47 (Or.inr ⟨_, rfl⟩) rfl rfl rfl (by rw [sk_aA, if_neg (by omega)]; exact h12.2.1) ?_
  have h13 : Ini σ 13 (wR (aA σ12 638 10 6) 625 17 (some 638)) := h12.step (by decide)
  clear h12
  generalize wR (aA σ12 638 10 6) 625 17 (some 638) = σ13 at h13 ⊢
  refine ar_aload_n 112 rfl d_X6_init_111 rfl ?_
  refine ar_bipush 114 rfl d_X6_init_112 rfl ?_
  refine ar_newIA 96 639 (k - 14) (n - 15426) h13.1 116 rfl d_X6_init_114 rfl (by omega) (by omega) (by omega) ?_
  refine ar_putRF 119 rfl d_X6_init_116 fl_X6_50 (Or.inr ⟨_, rfl⟩) rfl rfl rfl (by rw [sk_aA, if_neg (by omega)]; exact h13.2.1) ?_
  have h14 : Ini σ 14 (wR (aA σ13 639 10 96) 625 18 (some 639)) := h13.step (by decide)
  clear h13
  generalize wR (aA σ13 639 10 96) 625 18 (some 639) = σ14 at h14 ⊢
  refine ar_aload_n 120 rfl d_X6_init_119 rfl ?_
  refine ar_bipush 122 rfl d_X6_init_120 rfl ?_
  refine ar_newIA 6 640 (k - 15) (n - 15432) h14.1 124 rfl d_X6_init_122 rfl (by omega) (by omega) (by omega) ?_
  refine ar_putRF 127 rfl d_X6_init_124 fl_X6_53 (Or.inr ⟨_, rfl⟩) rfl rfl rfl (by rw [sk_aA, if_neg (by omega)]; exact h14.2.1) ?_
  have h15 : Ini σ 15 (wR (aA σ14 640 10 6) 625 19 (some 640)) := h14.step (by decide)
  clear h14
  generalize wR (aA σ14 640 10 6) 625 19 (some 640) = σ15 at h15 ⊢
  refine ar_aload_n 128 rfl d_X6_init_127 rfl ?_
  refine ar_bipush 130 rfl d_X6_init_128 rfl ?_
  refine ar_newIA 6 641 (k - 16) (n - 15438) h15.1 132 rfl d_X6_init_130 rfl (by omega) (by omega) (by omega) ?_
  refine ar_putRF 135 rfl d_X6_init_132 fl_X6_56 (Or.inr ⟨_, rfl⟩) rfl rfl rfl (by rw [sk_aA, if_neg (by omega)]; exact h15.2.1) ?_
  have h16 : Ini σ 16 (wR (aA σ15 641 10 6) 625 20 (some 641)) := h15.step (by decide)
  clear h15
  generalize wR (aA σ15 641 10 6) 625 20 (some 641) = σ16 at h16 ⊢
  refine ar_aload_n 136 rfl d_X6_init_135 rfl ?_
  refine ar_bipush 138 rfl d_X6_init_136 rfl ?_
  refine ar_newIA 6 642 (k - 17) (n - 15444) h16.1 140 rfl d_X6_init_138 rfl (by omega) (by omega) (by omega) ?_
  refine ar_putRF 143 rfl d_X6_init_140 fl_X6_59 (Or.inr ⟨_, rfl⟩) rfl rfl rfl (by rw [sk_aA, if_neg (by omega)]; exact h16.2.1) ?_
  have h17 : Ini σ 17 (wR (aA σ16 642 10 6) 625 21 (some 642)) := h16.step (by decide)
  clear h16
  generalize wR (aA σ16 642 10 6) 625 21 (some 642) = σ17 at h17 ⊢
  refine ar_aload_n 144 rfl d_X6_init_143 rfl ?_
  refine ar_bipush 146 rfl d_X6_init_144 rfl ?_
  refine ar_newIA 6 643 (k - 18) (n - 15450) h17.1 148 rfl d_X6_init_146 rfl (by omega) (by omega) (by omega) ?_
  refine ar_putRF 151 rfl d_X6_init_148 fl_X6_62 (Or.inr ⟨_, rfl⟩) rfl rfl rfl (by rw [sk_aA, if_neg (by omega)]; exact h17.2.1) ?_
  have h18 : Ini σ 18 (wR (aA σ17 643 10 6) 625 22 (some 643)) := h17.step (by decide)
  clear h17
  generalize wR (aA σ17 643 10 6) 625 22 (some 643) = σ18 at h18 ⊢
  refine ar_aload_n 152 rfl d_X6_init_151 rfl ?_
  refine ar_sipush 155 rfl d_X6_init_152 rfl ?_
  refine ar_newIA 240 644 (k - 19) (n - 15690) h18.1 157 rfl d_X6_init_155 rfl (by omega) (by omega) (by omega) ?_
  refine ar_putRF 160 rfl d_X6_init_157 fl_X6_65 (Or.inr ⟨_, rfl⟩) rfl rfl rfl (by rw [sk_aA, if_neg (by omega)]; exact h18.2.1) ?_
  have h19 : Ini σ 19 (wR (aA σ18 644 10 240) 625 23 (some 644)) := h18.step (by decide)
  clear h18
  generalize wR (aA σ18 644 10 240) 625 23 (some 644) = σ19 at h19 ⊢
  refine ar_aload_n 161 rfl d_X6_init_160 rfl ?_
  refine ar_bipush 163 rfl d_X6_init_161 rfl ?_
  refine ar_newIA 6 645 (k - 20) (n - 15696) h19.1 165 rfl d_X6_init_163 rfl (by omega) (by omega) (by omega) ?_
  refine ar_putRF 168 rfl d_X6_init_165 fl_X6_68 (Or.inr ⟨_, rfl⟩) rfl rfl rfl (by rw [sk_aA, if_neg (by omega)]; exact h19.2.1) ?_
  have h20 : Ini σ 20 (wR (aA σ19 645 10 6) 625 24 (some 645)) := h19.step (by decide)
  clear h19
  generalize wR (aA σ19 645 10 6) 625 24 (some 645) = σ20 at h20 ⊢
  refine ar_aload_n 169 rfl d_X6_init_168 rfl ?_
  refine ar_bipush 171 rfl d_X6_init_169 rfl ?_
  refine ar_newIA 102 646 (k - 21) (n - 15798) h20.1 173 rfl d_X6_init_171 rfl (by omega) (by omega) (by omega) ?_
  refine ar_putRF 176 rfl d_X6_init_173 fl_X6_71 (Or.inr ⟨_, rfl⟩) rfl rfl rfl (by rw [sk_aA, if_neg (by omega)]; exact h20.2.1) ?_
  have h21 : Ini σ 21 (wR (aA σ20 646 10 102) 625 25 (some 646)) := h20.step (by decide)
  clear h20
  generalize wR (aA σ20 646 10 102) 625 25 (some 646) = σ21 at h21 ⊢
  refine ar_aload_n 177 rfl d_X6_init_176 rfl ?_
  refine ar_bipush 179 rfl d_X6_init_177 rfl ?_
  refine ar_newIA 102 647 (k - 22) (n - 15900) h21.1 181 rfl d_X6_init_179 rfl (by omega) (by omega) (by omega) ?_
  refine ar_putRF 184 rfl d_X6_init_181 fl_X6_74 (Or.inr ⟨_, rfl⟩) rfl rfl rfl (by rw [sk_aA, if_neg (by omega)]; exact h21.2.1) ?_
  have h22 : Ini σ 22 (wR (aA σ21 647 10 102) 625 26 (some 647)) := h21.step (by decide)
  clear h21
  generalize wR (aA σ21 647 10 102) 625 26 (some 647) = σ22 at h22 ⊢
  refine ar_aload_n 185 rfl d_X6_init_184 rfl ?_
  refine ar_bipush 187 rfl d_X6_init_185 rfl ?_
  refine ar_newIA 6 648 (k - 23) (n - 15906) h22.1 189 rfl d_X6_init_187 rfl (by omega) (by omega) (by omega) ?_
  refine ar_putRF 192 rfl d_X6_init_189 fl_X6_77 (Or.inr ⟨_, rfl⟩) rfl rfl rfl (by rw [sk_aA, if_neg (by omega)]; exact h22.2.1) ?_
  have h23 : Ini σ 23 (wR (aA σ22 648 10 6) 625 27 (some 648)) := h22.step (by decide)
  clear h22
  generalize wR (aA σ22 648 10 6) 625 27 (some 648) = σ23 at h23 ⊢
  refine ar_aload_n 193 rfl d_X6_init_192 rfl ?_
  refine ar_bipush 195 rfl d_X6_init_193 rfl ?_
  refine ar_newIA 6 649 (k - 24) (n - 15912) h23.1 197 rfl d_X6_init_195 rfl (by omega) (by omega) (by omega) ?_
  refine ar_putRF 200 rfl d_X6_init_197 fl_X6_80 (Or.inr ⟨_, rfl⟩) rfl rfl rfl (by rw [sk_aA, if_neg (by omega)]; exact h23.2.1) ?_
  have h24 : Ini σ 24 (wR (aA σ23 649 10 6) 625 28 (some 649)) := h23.step (by decide)
  clear h23
  generalize wR (aA σ23 649 10 6) 625 28 (some 649) = σ24 at h24 ⊢
  refine ar_aload_n 201 rfl d_X6_init_200 rfl ?_
  refine ar_bipush 203 rfl d_X6_init_201 rfl ?_
  refine ar_newIA 6 650 (k - 25) (n - 15918) h24.1 205 rfl d_X6_init_203 rfl (by omega) (by omega) (by omega) ?_
  refine ar_putRF 208 rfl d_X6_init_205 fl_X6_83 (Or.inr ⟨_, rfl⟩) rfl rfl rfl (by rw [sk_aA, if_neg (by omega)]; exact h24.2.1) ?_
  have h25 : Ini σ 25 (wR (aA σ24 650 10 6) 625 31 (some 650)) := h24.step (by decide)
  clear h24
  generalize wR (aA σ24 650 10 6) 625 31 (some 650) = σ25 at h25 ⊢
  refine ar_aload_n 209 rfl d_X6_init_208 rfl ?_
  refine ar_bipush 211 rfl d_X6_init_209 rfl ?_
  refine ar_newIA 6 651 (k - 26) (n - 15924) h25.1 213 rfl d_X6_init_211 rfl (by omega) (by omega) (by omega) ?_
  refine ar_putRF 216 rfl d_X6_init_213 fl_X6_86 (Or.inr ⟨_, rfl⟩) rfl rfl rfl (by rw [sk_aA, if_neg (by omega)]; exact h25.2.1) ?_
  have h26 : Ini σ 26 (wR (aA σ25 651 10 6) 625 32 (some 651)) := h25.step (by decide)
  clear h25
  generalize wR (aA σ25 651 10 6) 625 32 (some 651) = σ26 at h26 ⊢
  have hS : Sh6 σ26 := ⟨h26.2.1, fun i hi => (h26.2.2.2.1 i hi).1, fun i hi => (h26.2.2.2.1 i hi).2.1⟩
  have k625 := hS.k625
  have r0 := hS.r0
  have k626 := hS.k626
  refine ar_aload_n 217 rfl d_X6_init_216 rfl ?_
  refine ar_getA 220 rfl d_X6_init_217 fl_X6_7 rfl (by assumption) (by assumption) ?_
  refine ar_iconst 221 rfl d_X6_init_220 ?_
  refine ar_bipush 223 rfl d_X6_init_221 rfl ?_
  refine ar_iasN 0 224 rfl d_X6_init_223 (by assumption) (by omega) (by omega) ?_
  refine ar_aload_n 225 rfl d_X6_init_224 rfl ?_
  refine ar_getA 228 rfl d_X6_init_225 fl_X6_7 rfl (by assumption) (by assumption) ?_
  refine ar_iconst 229 rfl d_X6_init_228 ?_
  refine ar_iconst 230 rfl d_X6_init_229 ?_
  refine ar_iasN 1 231 rfl d_X6_init_230 (by assumption) (by omega) (by omega) ?_
  refine WA.ret none ⟨d_X6_init_231, rfl, rfl⟩ ?_
  have hz26 : ∀ b, 626 ≤ b → b < 652 → ∀ x, hI σ26 b x = 0 := fun b h1 h2 x => by
    have h3 := (h26.2.2.2.1 (b - 626) (by omega)).2.2 x
    rw [show 626 + (b - 626) = b by omega] at h3
    exact h3
  have hv : ∀ j, hI (wI (wI σ26 626 0 8) 626 1 1) 626 j = f00 j := fun j => by
    rw [hI_w, hI_w]
    unfold f00
    by_cases e0 : j = 0
    · rw [if_neg (by omega), if_pos ⟨rfl, e0⟩, if_pos e0]
    · by_cases e1 : j = 1
      · rw [if_pos ⟨rfl, e1⟩, if_neg e0, if_pos e1]
      · rw [if_neg (fun h => e1 h.2), if_neg (fun h => e0 h.2), if_neg e0, if_neg e1]
        exact hz26 626 (by omega) (by omega) j
  have hf0 : ∀ j, 2 ≤ j → f00 j = 0 := fun j hj => by
    unfold f00
    rw [if_neg (by omega), if_neg (by omega)]
  have hvo : ∀ b, b ≠ 626 → hI (wI (wI σ26 626 0 8) 626 1 1) b = hI σ26 b := fun b hb => by rw [hI_off hb, hI_off hb]
  refine hQ _ ⟨hS.e rfl, ⟨⟨fun i hi => hv i, fun l hl => ⟨?_, fun j x h => (by cases h)⟩, fun i _ _ => hv i, ?_, hv 815, fun q M h => (by cases h)⟩, wfs00, fun l hl => Or.inl rfl⟩, ⟨?_, Nat.zero_le _, fun i S h => by cases h⟩, fun j hj => Or.inl ⟨rfl, ?_⟩, ?_, Nat.zero_le _, fun j x h => by cases h⟩ h26.1 (h26.2.2.2.2.tr ((FrN.wI (by omega)).tr (FrN.wI (by omega))))
  · rw [hv, hf0 _ (by omega)]
    rfl
  · rw [hv]
    rfl
  · rw [hvo _ (by omega)]
    exact h26.2.2.1 3
  · rw [hvo _ (by omega)]
    exact hz26 630 (by omega) (by omega) j
  · rw [hvo _ (by omega)]
    exact h26.2.2.1 7
end REF14
