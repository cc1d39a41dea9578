-- ===== asking, walked: the end of it =====
theorem askF_low : ∀ (b j : Nat) (S : SS), j < b → askF b (j : Int) S = askF (j + 1) (j : Int) S
  | 0, j, S, h => absurd h (by omega)
  | b + 1, j, S, h => by
    by_cases e : j = b
    · rw [e]
    · rw [askF, if_neg (by omega), if_pos (by omega)]
      exact askF_low b j S (by omega)
theorem askF_at {j : Nat} {S : SS} : askF (j + 1) (j : Int) S = if S.2.2 j = [] then (S, 100) else askB (askF j) j S := by
  rw [askF, if_neg (by omega), if_neg (by omega)]
/-- kept by the baker: all but a state and his own rows -/
def FrB (s : Nat) (σ σ' : Sg) : Prop := sk σ' = sk σ ∧ sn σ' = sn σ ∧ ∀ a, (a < 121 ∨ 156 ≤ a) → (a < s ∨ s + 58 ≤ a) → hI σ' a = hI σ a ∧ hR σ' a = hR σ a
theorem FrB.tr {s : Nat} {σ σ1 σ2 : Sg} (h : FrB s σ σ1) (h2 : FrB s σ1 σ2) : FrB s σ σ2 := ⟨h2.1.trans h.1, h2.2.1.trans h.2.1, fun a b c => ⟨(h2.2.2 a b c).1.trans (h.2.2 a b c).1, (h2.2.2 a b c).2.trans (h.2.2 a b c).2⟩⟩
section ASKZ
variable {G : GT} {d k n s l : Nat} {σ : Sg} {Q : Option AV → Sg → Prop}
set_option maxHeartbeats 4000000 in
theorem sp_loafValue_ask (hs : (s + 58 ≤ 121 ∨ 156 ≤ s) ∧ s + 58 ≤ 652) : ∀ (b dd : Nat), b ≤ 6 → 5 * b + 2 ≤ dd → AC G s b dd := by
  intro b
  induction b using Nat.strongRecOn with
  | ind b ih =>
  intro dd hb hdd j S σ Q hj hp hz hQ
  have hlow := askF_low b j S hj
  rw [hlow, askF_at] at hQ
  have hA := ih j hj (dd - 5) (by omega) (by omega)
  obtain ⟨hS, hSf, hSr, hSm⟩ := hp.2.2.2.1
  have hk121 := hp.1.1
  have hr121 := hp.2.1
  have hfresh := hp.2.2.1
  have hks := hS.1
  have hk3 : sk σ (s + 3) = (14, 6) := hS.2.2.2.1
  have hr3 : hR σ s 3 = some (s + 3) := hS.2.2.2.2.2.2.2.2.2.1
  have hri := hSr j (by omega)
  refine ar_iload_n 1 rfl d_X0_loafValue_0 rfl ?_
  refine ar_if_lt 15 4 rfl rfl d_X0_loafValue_1 (by omega) (fun h => by omega) (fun g1 => ?_)
  refine ar_iload_n 5 rfl d_X0_loafValue_4 rfl ?_
  refine ar_iload_n 6 rfl d_X0_loafValue_5 rfl ?_
  refine ar_icmp_ge 15 9 rfl rfl d_X0_loafValue_6 (by omega) (by omega) (fun h => by omega) (fun g6 => ?_)
  refine ar_iload_n 10 rfl d_X0_loafValue_9 rfl ?_
  refine ar_bipush 12 rfl d_X0_loafValue_10 rfl ?_
  refine ar_icmp_lt 18 15 rfl rfl d_X0_loafValue_12 (by omega) (by omega) (fun g12 => ?_) (fun h => by omega)
  refine ar_aload_n 19 rfl d_X0_loafValue_18 rfl ?_
  refine ar_getA 22 rfl d_X0_loafValue_19 fl_X0_57 rfl (by assumption) (by assumption) ?_
  refine ar_getA 25 rfl d_X0_loafValue_22 fl_X0_71 rfl (by assumption) (by assumption) ?_
  refine ar_iload_n 26 rfl d_X0_loafValue_25 rfl ?_
  refine ar_aald 27 rfl d_X0_loafValue_26 (by assumption) (by omega) (by omega) ?_
  refine ar_ast_3 28 rfl d_X0_loafValue_27 rfl (by intro _ h; cases h) ?_
  refine ar_aload_n 29 rfl d_X0_loafValue_28 rfl ?_
  refine ar_ifnonnull 35 32 rfl rfl d_X0_loafValue_29 (fun a29 g29 => ?_) (fun g29 => ?_)
  · have hri := hri
    obtain ⟨hne, r1, hr652, hrn, hr2, hRc⟩ : S.2.2 j ≠ [] ∧ ∃ r1, 652 ≤ r1 ∧ r1 + 3 ≤ sn σ ∧ hR σ (s + 3) j = some r1 ∧ RRec σ r1 (S.2.2 j) := by
      rcases hri with e | e
      · exact absurd (g29.symm.trans e.2) (by simp)
      · exact e
    rw [if_neg hne] at hQ
    have ea : a29 = r1 := Option.some.inj (g29.symm.trans hr2)
    rw [g29]
    subst ea
    refine ar_aload_n 36 rfl d_X0_loafValue_35 rfl ?_
    refine ar_giv (y := 0) 39 rfl d_X0_loafValue_36 fl_X0_61 rfl (by assumption) hfresh ?_
    refine ar_if_eq 51 42 rfl rfl d_X0_loafValue_39 (by omega) (fun g39 => ?_) (fun h => absurd rfl h)
    refine ar_aload_n 52 rfl d_X0_loafValue_51 rfl ?_
    refine ar_iload_n 53 rfl d_X0_loafValue_52 rfl ?_
    refine ar_aload_n 54 rfl d_X0_loafValue_53 rfl ?_
    refine ar_callV0 (M' := mX0_rememberedValue) (As := [_, _]) (ls' := [Va _, Vi _, Vr _, Vu, Vu, Vu]) 57 rfl d_X0_loafValue_54 ml_X0_81 mt_X0_rememberedValue (by assumption) rfl (Nat.le_of_ble_eq_true rfl) rfl (Nat.le_of_ble_eq_true rfl) (by omega) ?_
    refine sp_rememberedValue_ask hs (by exact hA) hp (by omega) hz hRc hr652 (by omega) (fun σ1 hp1 hf1 ho1 => ?_)
    refine WA.ret (some (Vi _)) ⟨d_X0_loafValue_57, rfl, Or.inl rfl⟩ ?_
    exact hQ σ1 hp1 (hf1.mono (by omega)) ho1
  · have hn0 : S.2.2 j = [] := by
      rcases hri with e | ⟨e, r1, _, _, e2, _⟩
      · exact e.1
      · exact absurd (g29.symm.trans e2) (by simp)
    rw [if_pos hn0] at hQ
    refine ar_bipush 34 rfl d_X0_loafValue_32 rfl ?_
    refine WA.ret (some (Vi _)) ⟨d_X0_loafValue_34, rfl, Or.inl rfl⟩ ?_
    exact hQ σ hp FrA.rf OBJ.rf
theorem sp_X0_begin {fr : Int} (hB : ShB σ) (hfr : fr = 0 ∨ fr = 1) (hdp : 1 ≤ d) (hQ : ∀ σ', ShB σ' → hR σ' 121 0 = some s → hI σ' 121 1 = fr → hI σ' 121 2 = 0 → (∀ j, j < 6 → hI σ' 122 j = -1) → sk σ' = sk σ → sn σ' = sn σ → (∀ b, b ≠ 121 → b ≠ 122 → hI σ' b = hI σ b) → (∀ b, b ≠ 121 → hR σ' b = hR σ b) → Q none σ') : WA G d k n mX0_begin 0 [Va 121, Va s, Vi fr] [] σ Q := by
  have hk121 := hB.1
  have hk1 : sk σ 122 = (10, 6) := hB.2.1
  have hr1 : hR (wR σ 121 0 (some s)) 121 3 = some 122 := by
    rw [hR_w, if_neg (by omega)]
    exact hB.2.2.2.2.2.2.2.1
  refine ar_aload_n 1 rfl d_X0_begin_0 rfl ?_
  refine ar_aload_n 2 rfl d_X0_begin_1 rfl ?_
  refine ar_putR 5 rfl d_X0_begin_2 fl_X0_57 (Or.inl ⟨_, rfl⟩) rfl (by assumption) ?_
  refine ar_aload_n 6 rfl d_X0_begin_5 rfl ?_
  refine ar_iload_n 7 rfl d_X0_begin_6 rfl ?_
  refine ar_putZ 10 rfl d_X0_begin_7 fl_X0_61 rfl hfr rfl (by assumption) ?_
  refine ar_aload_n 11 rfl d_X0_begin_10 rfl ?_
  refine ar_iconst 12 rfl d_X0_begin_11 ?_
  refine ar_putI 15 rfl d_X0_begin_12 fl_X0_38 rfl rfl (by assumption) ?_
  refine ar_aload_n 16 rfl d_X0_begin_15 rfl ?_
  refine ar_getA 19 rfl d_X0_begin_16 fl_X0_9 rfl (by assumption) hr1 ?_
  refine ar_iconst 20 rfl d_X0_begin_19 ?_
  refine ar_callS0 (M' := mJ7_fill_53178) (As := [_, _]) (ls' := [Vr _, Vi _, Vu, Vu]) 23 rfl d_X0_begin_20 ml_X0_65 mt_J7_fill_53178 rfl (Nat.le_of_ble_eq_true rfl) rfl (Nat.le_of_ble_eq_true rfl) (by omega) ?_
  refine sp_J7_fill_53178 (N := 6) hk1 (by omega) ?_
  refine WA.ret none ⟨d_X0_begin_23, rfl, rfl⟩ ?_
  have e2 : ∀ b, hI (flI (wI (wI (wR σ 121 0 (some s)) 121 1 fr) 121 2 0) 122 6 (-1)) b = fun i => if b = 122 ∧ i < 6 then -1 else hI (wI (wI (wR σ 121 0 (some s)) 121 1 fr) 121 2 0) b i := fun b => rfl
  have e3 : hR (flI (wI (wI (wR σ 121 0 (some s)) 121 1 fr) 121 2 0) 122 6 (-1)) = hR (wR σ 121 0 (some s)) := rfl
  refine hQ _ (hB.fr rfl (fun a h1 h2 h3 => ?_) (fun j hj => ?_)) ?_ ?_ ?_ (fun j hj => ?_) rfl rfl (fun b h1 h2 => ?_) (fun b h1 => ?_)
  · rw [e3]; funext i; rw [hR_w, if_neg (by omega)]
  · rw [e3, hR_w, if_neg (by omega)]
  · rw [e3, hR_w, if_pos ⟨rfl, rfl⟩]
  · rw [e2]
    show (if (121 = 122 ∧ 1 < 6) then (-1 : Int) else _) = _
    rw [if_neg (by omega), hI_w, if_neg (by omega), hI_w, if_pos ⟨rfl, rfl⟩]
  · rw [e2]
    show (if (121 = 122 ∧ 2 < 6) then (-1 : Int) else _) = _
    rw [if_neg (by omega), hI_w, if_pos ⟨rfl, rfl⟩]
  · rw [e2]
    show (if (122 = 122 ∧ j < 6) then (-1 : Int) else _) = _
    rw [if_pos ⟨rfl, hj⟩]
  · rw [e2]
    funext i
    show (if (b = 122 ∧ i < 6) then (-1 : Int) else _) = _
    rw [if_neg (by omega), hI_w, if_neg (by omega), hI_w, if_neg (by omega)]
    rfl
  · rw [e3]; funext i; rw [hR_w, if_neg (by omega)]
theorem sp_X0_askedResult {S : SS} (hs : (s + 58 ≤ 121 ∨ 156 ≤ s) ∧ s + 58 ≤ 652) (hB : ShB σ) (hst : RSt σ s S) (hw : WFS S) (hsn : 652 ≤ sn σ) (hl : l < 6) (hz : S.1 815 + ((18 ^ l : Nat) : Int) ≤ 2147483647) (hdp : 33 ≤ d)
    (hQ : ∀ σ', ShB σ' → RSt σ' s (askF 6 (l : Int) S).1 → WFS (askF 6 (l : Int) S).1 → FrB s σ σ' → Q (some (Vi (askF 6 (l : Int) S).2)) σ') : WA G d k n mX0_askedResult 0 [Va 121, Va s, Vi (l : Int)] [] σ Q := by
  have hk121 := hB.1
  refine ar_aload_n 1 rfl d_X0_askedResult_0 rfl ?_
  refine ar_aload_n 2 rfl d_X0_askedResult_1 rfl ?_
  refine ar_iconst 3 rfl d_X0_askedResult_2 ?_
  refine ar_callV0 (M' := mX0_begin) (As := [_, _]) (ls' := [Va _, Vr _, Vi _]) 6 rfl d_X0_askedResult_3 ml_X0_30 mt_X0_begin (by assumption) rfl (Nat.le_of_ble_eq_true rfl) rfl (Nat.le_of_ble_eq_true rfl) (by omega) ?_
  refine sp_X0_begin hB (Or.inl rfl) (by omega) (fun σ1 b1 b2 b3 b4 b5 b6 b7 b8 b9 => ?_)
  have hst1 : RSt σ1 s S := hst.fr (fun b h1 h2 => ⟨by rw [b6], b8 b (by omega) (by omega), b9 b (by omega)⟩) (by omega) (by omega)
  have hp1 : AskPre s S σ1 := ⟨b1, b2, b3, hst1, hw, by omega⟩
  have hk121 := b1.1
  refine ar_aload_n 7 rfl d_X0_askedResult_6 rfl ?_
  refine ar_iload_n 8 rfl d_X0_askedResult_7 rfl ?_
  refine ar_bipush 10 rfl d_X0_askedResult_8 rfl ?_
  refine ar_callV0 (M' := mX0_loafValue) (As := [_, _]) (ls' := [Va _, Vi _, Vi _, Vu]) 13 rfl d_X0_askedResult_10 ml_X0_34 mt_X0_loafValue (by assumption) rfl (Nat.le_of_ble_eq_true rfl) rfl (Nat.le_of_ble_eq_true rfl) (by omega) ?_
  refine sp_loafValue_ask hs 6 (d - 1) (by omega) (by omega) l S σ1 _ hl hp1 hz (fun σ2 hp2 hf2 ho2 => ?_)
  refine WA.ret (some (Vi _)) ⟨d_X0_askedResult_13, rfl, Or.inl rfl⟩ ?_
  refine hQ σ2 hp2.1 hp2.2.2.2.1 hp2.2.2.2.2.1 ⟨hf2.1.trans b6, hf2.2.1.trans b7, fun a h1 h2 => ?_⟩
  have h3 := hf2.2.2.1 a h1 h2
  exact ⟨h3.1.trans (b8 a (by omega) (by omega)), h3.2.trans (b9 a (by omega))⟩
end ASKZ
