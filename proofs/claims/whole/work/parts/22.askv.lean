-- ===== asking, walked =====
def AskPre (s : Nat) (S : SS) (σ : Sg) : Prop := ShB σ ∧ hR σ 121 0 = some s ∧ hI σ 121 1 = 0 ∧ RSt σ s S ∧ WFS S ∧ 652 ≤ sn σ
/-- what asking of loaves below l may change: the state, and the baker's rows below l -/
def FrA (l s : Nat) (σ σ' : Sg) : Prop := sk σ' = sk σ ∧ sn σ' = sn σ ∧ (∀ a, (a < 121 ∨ 156 ≤ a) → (a < s ∨ s + 58 ≤ a) → hI σ' a = hI σ a ∧ hR σ' a = hR σ a) ∧ (∀ a, 121 ≤ a → a < 156 → hR σ' a = hR σ a) ∧ hI σ' 121 1 = hI σ 121 1 ∧ ∀ j, l ≤ j → j < 6 → hI σ' (125 + j) = hI σ (125 + j) ∧ hI σ' (132 + j) = hI σ (132 + j) ∧ ∀ a, (138 + 3 * j ≤ a ∧ a < 141 + 3 * j) → hI σ' a = hI σ a
theorem FrA.rf {l s : Nat} {σ : Sg} : FrA l s σ σ := ⟨rfl, rfl, fun _ _ _ => ⟨rfl, rfl⟩, fun _ _ _ => rfl, rfl, fun _ _ _ => ⟨rfl, rfl, fun _ _ => rfl⟩⟩
theorem FrA.tr {l s : Nat} {σ σ1 σ2 : Sg} (h : FrA l s σ σ1) (h2 : FrA l s σ1 σ2) : FrA l s σ σ2 :=
  ⟨h2.1.trans h.1, h2.2.1.trans h.2.1, fun a b c => ⟨(h2.2.2.1 a b c).1.trans (h.2.2.1 a b c).1, (h2.2.2.1 a b c).2.trans (h.2.2.1 a b c).2⟩, fun a b c => (h2.2.2.2.1 a b c).trans (h.2.2.2.1 a b c), h2.2.2.2.2.1.trans h.2.2.2.2.1, fun j a b => ⟨(h2.2.2.2.2.2 j a b).1.trans (h.2.2.2.2.2 j a b).1, (h2.2.2.2.2.2 j a b).2.1.trans (h.2.2.2.2.2 j a b).2.1, fun c e => ((h2.2.2.2.2.2 j a b).2.2 c e).trans ((h.2.2.2.2.2 j a b).2.2 c e)⟩⟩
theorem FrA.mono {l l' s : Nat} {σ σ' : Sg} (h : FrA l s σ σ') (hl : l ≤ l') : FrA l' s σ σ' := ⟨h.1, h.2.1, h.2.2.1, h.2.2.2.1, h.2.2.2.2.1, fun j a b => h.2.2.2.2.2 j (by omega) b⟩
/-- a change of the state's cells alone -/
theorem FrA.s {l s : Nat} {σ σ' : Sg} (hs : s + 58 ≤ 121 ∨ 156 ≤ s) (h : FrS s σ σ') : FrA l s σ σ' := ⟨h.1, h.2.1, fun a _ b => h.2.2 a b, fun a b c => (h.2.2 a (by omega)).2, by rw [(h.2.2 121 (by omega)).1], fun j _ _ => ⟨(h.2.2 _ (by omega)).1, (h.2.2 _ (by omega)).1, fun a e => (h.2.2 a (by omega)).1⟩⟩
/-- a change of ints of the baker's rows below l -/
theorem FrA.b {l s : Nat} {σ σ' : Sg} (e : σ'.2 = σ.2) (h : ∀ b, ((∃ j, j < l ∧ (b = 125 + j ∨ b = 132 + j ∨ (138 + 3 * j ≤ b ∧ b < 141 + 3 * j))) → False) → hI σ' b = hI σ b) (hl : l ≤ 6) : FrA l s σ σ' := by
  have er : hR σ' = hR σ := by
    show σ'.2.1 = σ.2.1
    rw [e]
  refine ⟨by show σ'.2.2.1 = _; rw [e], by show σ'.2.2.2 = _; rw [e], fun a b _ => ⟨h a ?_, by rw [er]⟩, fun a _ _ => by rw [er], by rw [h 121 (by rintro ⟨j, a, b⟩; omega)], fun j hj hj6 => ⟨h _ ?_, h _ ?_, fun a ha => h _ ?_⟩⟩
  · rintro ⟨j, a1, b1⟩; omega
  · rintro ⟨j, a1, b1⟩; omega
  · rintro ⟨j, a1, b1⟩; omega
  · rintro ⟨j, a1, b1⟩; omega
theorem ShB.fr {σ σ' : Sg} (h : ShB σ) (h1 : sk σ' = sk σ) (h2 : ∀ a, 121 ≤ a → a < 156 → a ≠ 121 → hR σ' a = hR σ a) (h3 : ∀ j, j ≠ 0 → hR σ' 121 j = hR σ 121 j) : ShB σ' := by
  obtain ⟨q1, q2, q3, q4, q5, q6, q7, q8, q9, q10, q11, q12⟩ := h
  refine ⟨?_, ?_, ?_, ?_, fun l hl => ?_, ?_, fun l hl => ?_, ?_, ?_, ?_, ?_, fun l hl => ⟨?_, ?_, ?_, ?_⟩⟩
  iterate 4 (rw [h1]; assumption)
  · rw [h1]; exact q5 l hl
  · rw [h1]; assumption
  · rw [h1]; exact q7 l hl
  iterate 4 (rw [h3 _ (by omega)]; assumption)
  · rw [h2 _ (by omega) (by omega) (by omega)]; exact (q12 l hl).1
  · rw [h2 _ (by omega) (by omega) (by omega)]; exact (q12 l hl).2.1
  · rw [h2 _ (by omega) (by omega) (by omega)]; exact (q12 l hl).2.2.1
  · have h9 := (q12 l hl).2.2.2
    unfold ShM at h9 ⊢
    rw [h1, h2 _ (by omega) (by omega) (by omega)]
    exact h9
theorem AskPre.b {s : Nat} {S : SS} {σ σ' : Sg} (h : AskPre s S σ) (hs : (s + 58 ≤ 121 ∨ 156 ≤ s) ∧ s + 58 ≤ 652) (e : σ'.2 = σ.2) (hb : ∀ b, (b < 121 ∨ 156 ≤ b) → hI σ' b = hI σ b) (h1 : hI σ' 121 1 = hI σ 121 1) : AskPre s S σ' := by
  obtain ⟨a1, a2, a3, a4, a5, a6⟩ := h
  have er : hR σ' = hR σ := by
    show σ'.2.1 = σ.2.1
    rw [e]
  have ek : sk σ' = sk σ := by
    show σ'.2.2.1 = σ.2.2.1
    rw [e]
  have en : sn σ' = sn σ := by
    show σ'.2.2.2 = σ.2.2.2
    rw [e]
  exact ⟨a1.fr ek (fun a _ _ _ => by rw [er]) (fun j _ => by rw [er]), by rw [er]; exact a2, by rw [h1]; exact a3, a4.fr (fun b hb2 _ => ⟨by rw [ek], hb b (by omega), by rw [er]⟩) (by omega) (by omega), a5, by omega⟩
/-- the contract for the loaves below b -/
def AC (G : GT) (s b dd : Nat) : Prop := ∀ (j : Nat) (S : SS) (σ : Sg) (Q : Option AV → Sg → Prop), j < b → AskPre s S σ → S.1 815 + ((18 ^ j : Nat) : Int) ≤ 2147483647 →
  (∀ σ', AskPre s (askF b j S).1 σ' → FrA b s σ σ' → OBJ s (S.1 815) σ S.2.1 σ' (askF b j S).1.2.1 → Q (some (Vi (askF b j S).2)) σ') → WA G dd 0 0 mX0_loafValue 0 [Va 121, Vi (j : Int), Vi (b : Int), Vu] [] σ Q
theorem AskPre.pos {s : Nat} {S : SS} {σ : Sg} (h : AskPre s S σ) : ∀ M ∈ S.2.1, 0 < mSer M ∧ mSer M ≤ S.1 815 := fun M hM => ⟨(h.2.2.2.2.1.2.2.2.2.2.2.1 M hM).2.2.2.2.1, (h.2.2.2.2.1.2.2.2.2.2.2.1 M hM).2.2.2.2.2.1⟩
section ASKV
variable {G : GT} {d k n s l : Nat} {σ : Sg} {Q : Option AV → Sg → Prop}
theorem sv_i {S : SS} (h : WFS S) (key : Int) : 0 ≤ sv S.1 key ∧ sv S.1 key ≤ 100 := by
  unfold sv
  split
  · rename_i hs
    have := h.2.2.1 key.toNat (by omega)
    omega
  · omega
set_option maxHeartbeats 4000000 in
theorem sp_valueNow_ask {key : Int} {S : SS} (hA : AC G s l (d - 1)) (hp : AskPre s S σ) (hk : VK l key) (hl : l ≤ 6) (hz : S.1 815 + (wt key : Int) ≤ 2147483647) (hdp : 2 ≤ d)
    (hQ : ∀ σ', AskPre s (valA (askF l) key S).1 σ' → FrA l s σ σ' → OBJ s (S.1 815) σ S.2.1 σ' (valA (askF l) key S).1.2.1 → Q (some (Vi (valA (askF l) key S).2)) σ') : WA G d 0 0 mX0_valueNow 0 [Va 121, Vi key, Vi (l : Int), Vu] [] σ Q := by
  have hk121 := hp.1.1
  have hr121 := hp.2.1
  have hkr : -1 ≤ key ∧ key ≤ 100 := by rcases hk with e | e <;> omega
  obtain ⟨hS, hSf, hSr, hSm⟩ := hp.2.2.2.1
  obtain ⟨pm, hpm, hpm1, h14⟩ := hSf.2.1
  have hks := hS.1
  have hk1 : sk σ (s + 1) = (10, 12) := hS.2.1
  have hr0 : hR σ s 0 = some (s + 1) := hS.2.2.2.2.2.2.2.1
  refine ar_iload_n 1 rfl d_X0_valueNow_0 rfl ?_
  refine ar_bipush 3 rfl d_X0_valueNow_1 rfl ?_
  refine ar_icmp_lt 16 6 rfl rfl d_X0_valueNow_3 (by omega) (by omega) (fun g3 => ?_) (fun g3 => ?_)
  · refine ar_iload_n 17 rfl d_X0_valueNow_16 rfl ?_
    refine ar_callSN0 (M' := mX5_isShelf) (As := [_]) (ls' := [Vi _]) 20 rfl d_X0_valueNow_17 ml_X0_137 mt_X5_isShelf rfl (Nat.le_of_ble_eq_true rfl) rfl (Nat.le_of_ble_eq_true rfl) (by omega) ?_
    refine sp_X5_isShelf (by omega) (fun g17 => ?_) (fun g17 => ?_)
    · refine ar_if_eq 41 23 rfl rfl d_X0_valueNow_20 (by omega) (fun h => absurd h (by decide)) (fun g20 => ?_)
      refine ar_aload_n 24 rfl d_X0_valueNow_23 rfl ?_
      refine ar_getA 27 rfl d_X0_valueNow_24 fl_X0_57 rfl (by assumption) (by assumption) ?_
      refine ar_giv (y := (pm : Int)) 30 rfl d_X0_valueNow_27 fl_X0_141 rfl (by assumption) (by assumption) ?_
      refine ar_iload_n 31 rfl d_X0_valueNow_30 rfl ?_
      refine ar_top (y := ((key.toNat : Nat) : Int)) (by omega) ?_
      refine ar_callSN0 (M' := mX5_bitOf) (As := [_, _]) (ls' := [Vi _, Vi _]) 34 rfl d_X0_valueNow_31 ml_X0_144 mt_X5_bitOf rfl (Nat.le_of_ble_eq_true rfl) rfl (Nat.le_of_ble_eq_true rfl) (by omega) ?_
      refine sp_X5_bitOf (by omega) (by omega) ?_
      have hf14 := h14 key.toNat (by omega)
      have hv : valA (askF l) key S = (S, sv S.1 key) := by
        unfold valA
        rw [if_neg (by omega)]
      rw [hv] at hQ
      have hfin := hQ σ hp FrA.rf OBJ.rf
      by_cases hbit : pm.testBit key.toNat = true
      · rw [if_pos hbit]
        rw [if_pos hbit] at hf14
        have hsv : sv S.1 key = 100 := by
          unfold sv
          rw [if_neg (by omega)]
        rw [hsv] at hfin
        refine ar_if_ne 41 37 rfl rfl d_X0_valueNow_34 (by omega) (fun g34 => ?_) (fun h => absurd h (by decide))
        refine ar_iconst 42 rfl d_X0_valueNow_41 ?_
        refine ar_ist_3 43 rfl d_X0_valueNow_42 rfl (by intro _ h; cases h) ?_
        refine ar_iload_n 44 rfl d_X0_valueNow_43 rfl ?_
        refine ar_if_eq 59 47 rfl rfl d_X0_valueNow_44 (by omega) (fun g44 => ?_) (fun h => absurd rfl h)
        refine ar_bipush 61 rfl d_X0_valueNow_59 rfl ?_
        refine WA.ret (some (Vi _)) ⟨d_X0_valueNow_61, rfl, Or.inl rfl⟩ ?_
        exact hfin
      · rw [if_neg hbit]
        rw [if_neg hbit] at hf14
        have hsv : sv S.1 key = S.1 (2 + key.toNat) := by
          unfold sv
          rw [if_pos (by omega)]
        rw [hsv] at hfin
        refine ar_if_ne 41 37 rfl rfl d_X0_valueNow_34 (by omega) (fun h => absurd h (by decide)) (fun g34 => ?_)
        refine ar_iconst 38 rfl d_X0_valueNow_37 ?_
        refine ar_goto 42 rfl d_X0_valueNow_38 ?_
        refine ar_ist_3 43 rfl d_X0_valueNow_42 rfl (by intro _ h; cases h) ?_
        refine ar_iload_n 44 rfl d_X0_valueNow_43 rfl ?_
        refine ar_if_eq 59 47 rfl rfl d_X0_valueNow_44 (by omega) (fun h => absurd h (by decide)) (fun g44 => ?_)
        refine ar_aload_n 48 rfl d_X0_valueNow_47 rfl ?_
        refine ar_getA 51 rfl d_X0_valueNow_48 fl_X0_57 rfl (by assumption) (by assumption) ?_
        refine ar_getA 54 rfl d_X0_valueNow_51 fl_X0_147 rfl (by assumption) (by assumption) ?_
        refine ar_iload_n 55 rfl d_X0_valueNow_54 rfl ?_
        refine ar_ilv (y := (S.1 (2 + key.toNat))) 56 rfl d_X0_valueNow_55 (by assumption) (by omega) (hSf.1 key.toNat (by omega)) ?_
        refine ar_goto 61 rfl d_X0_valueNow_56 ?_
        refine WA.ret (some (Vi _)) ⟨d_X0_valueNow_61, rfl, Or.inl rfl⟩ ?_
        exact hfin
    · exact absurd hk (by unfold VK; omega)
  · refine ar_aload_n 7 rfl d_X0_valueNow_6 rfl ?_
    refine ar_iload_n 8 rfl d_X0_valueNow_7 rfl ?_
    refine ar_bipush 10 rfl d_X0_valueNow_8 rfl ?_
    refine ar_isub 11 rfl d_X0_valueNow_10 ?_
    have hkl : (key - 20).toNat < l := by rcases hk with e | e <;> omega
    have hv : valA (askF l) key S = askF l (((key - 20).toNat : Nat) : Int) S := by
      unfold valA
      rw [if_pos (by omega), show (((key - 20).toNat : Nat) : Int) = key - 20 by omega]
    have hw : wt key = 18 ^ (key - 20).toNat := by
      unfold wt
      rw [if_pos (by omega)]
    rw [hw] at hz
    rw [hv] at hQ
    refine ar_top (y := (((key - 20).toNat : Nat) : Int)) (by omega) ?_
    refine ar_iload_n 12 rfl d_X0_valueNow_11 rfl ?_
    refine ar_callV0 (M' := mX0_loafValue) (As := [_, _]) (ls' := [Va _, Vi _, Vi _, Vu]) 15 rfl d_X0_valueNow_12 ml_X0_34 mt_X0_loafValue (by assumption) rfl (Nat.le_of_ble_eq_true rfl) rfl (Nat.le_of_ble_eq_true rfl) (by omega) ?_
    refine hA (key - 20).toNat S σ _ hkl hp hz (fun σ1 hp1 hf1 ho1 => ?_)
    refine WA.ret (some (Vi _)) ⟨d_X0_valueNow_15, rfl, Or.inl rfl⟩ ?_
    exact hQ σ1 hp1 hf1 ho1
/-- the memory of a number is alive, in the object m -/
def Lv (s : Nat) (S : SS) (σ : Sg) (l m : Nat) (ser : Int) (lk : List (Int × Int)) : Prop := ∃ (p : Nat) (M : Mem), S.2.1[p]? = some M ∧ hR σ (s + 4) p = some m ∧ mSer M = ser ∧ mLk M = lk ∧ mLoaf M = (l : Int)
theorem hasS_iff {L : List Mem} {i : Int} : hasS L i = true ↔ ∃ M ∈ L, mSer M = i := by
  unfold hasS
  rw [List.any_eq_true]
  constructor
  · rintro ⟨M, h1, h2⟩
    exact ⟨M, h1, by simpa using h2⟩
  · rintro ⟨M, h1, h2⟩
    exact ⟨M, h1, by simpa using h2⟩
theorem nd_at {L : List Mem} (hn : (L.map mSer).Nodup) : ∀ {i j : Nat} {M M' : Mem}, L[i]? = some M → L[j]? = some M' → mSer M = mSer M' → i = j := by
  induction L with
  | nil => intro i j M M' h; simp at h
  | cons x t ih =>
    intro i j M M' h1 h2 e
    rw [List.map_cons, List.nodup_cons] at hn
    cases i with
    | zero =>
      cases j with
      | zero => rfl
      | succ j =>
        simp only [List.getElem?_cons_zero] at h1
        cases h1
        rw [List.getElem?_cons_succ] at h2
        exact absurd (List.mem_map.mpr ⟨M', List.mem_of_getElem? h2, e.symm⟩) hn.1
    | succ i =>
      cases j with
      | zero =>
        simp only [List.getElem?_cons_zero] at h2
        cases h2
        rw [List.getElem?_cons_succ] at h1
        exact absurd (List.mem_map.mpr ⟨M, List.mem_of_getElem? h1, e⟩) hn.1
      | succ j =>
        rw [List.getElem?_cons_succ] at h1 h2
        rw [ih hn.2 h1 h2 e]
set_option maxHeartbeats 8000000 in
theorem sp_isAsItWas_ask {m : Nat} {ser : Int} {lk : List (Int × Int)} {S : SS} (hA : AC G s l (d - 2)) (hp : AskPre s S σ) (hlv : Lv s S σ l m ser lk) (hl : l < 6) (hz : S.1 815 + (cD lk : Int) ≤ 2147483647) (hdp : 3 ≤ d)
    (hQ : ∀ σ', AskPre s (okA (askF l) ser lk S).1 σ' → FrA l s σ σ' → OBJ s (S.1 815) σ S.2.1 σ' (okA (askF l) ser lk S).1.2.1 → Q (some (Vi (if (okA (askF l) ser lk S).2 = true then 1 else 0))) σ') : WA G d 0 0 mX0_isAsItWas 0 [Va 121, Va m, Vi ser, Vu, Vu] [] σ Q := by
  have hPA := askF_g l (by omega)
  have loop : ∀ r i : Nat, ∀ (Si : SS) (σi : Sg) (x4 : AV), lk.length - i = r → i ≤ lk.length → AskPre s Si σi → Lv s Si σi l m ser lk → Si.1 815 + (cD (lk.drop i) : Int) ≤ 2147483647 →
      (∀ σ', AskPre s (okA (askF l) ser (lk.drop i) Si).1 σ' → FrA l s σi σ' → OBJ s (Si.1 815) σi Si.2.1 σ' (okA (askF l) ser (lk.drop i) Si).1.2.1 → Q (some (Vi (if (okA (askF l) ser (lk.drop i) Si).2 = true then 1 else 0))) σ') → WA G d 0 0 mX0_isAsItWas 2 [Va 121, Va m, Vi ser, Vi (i : Int), x4] [] σi Q := by
    intro r
    induction r using Nat.strongRecOn with
    | ind r ih =>
    intro i Si σi x4 hr hi hpi hlvi hzi hQi
    obtain ⟨p, M, hM, hm, hser, hlkM, hloaf⟩ := hlvi
    have hpp := (List.getElem?_eq_some_iff.mp hM).1
    obtain ⟨hS, hSf, hSr, hSm⟩ := hpi.2.2.2.1
    have hp17 : p < 17 := by
      have := hSm.1
      omega
    obtain ⟨m9, hm9, hshm, -, -⟩ := hSm.at hS hp17
    cases hm.symm.trans hm9
    have hRM := hSm.2.2.2.2 p M m hM hm
    have hk := hshm.1
    have hk1 : sk σi (m + 1) = (10, 18) := hshm.2.1
    have hr6 : hR σi m 6 = some (m + 1) := hshm.2.2.2.1
    have hWM := hpi.2.2.2.2.1.2.2.2.2.2.2.1 M (List.mem_of_getElem? hM)
    have hWl := hWM.2.2.2.2.2.2
    rw [hloaf, Int.toNat_natCast, hlkM] at hWl
    have hlen := WFl_len hWl
    have h5 : hI σi m 5 = (lk.length : Int) := by rw [hRM.2.2.2.2.2.1, hlkM]
    refine ar_iload_n 3 rfl d_X0_isAsItWas_2 rfl ?_
    refine ar_aload_n 4 rfl d_X0_isAsItWas_3 rfl ?_
    refine ar_giv (y := (lk.length : Int)) 7 rfl d_X0_isAsItWas_4 fl_X0_42 rfl (by assumption) (by assumption) ?_
    refine ar_icmp_ge 53 10 rfl rfl d_X0_isAsItWas_7 (by omega) (by omega) (fun g7 => ?_) (fun g7 => ?_)
    · refine ar_iconst 54 rfl d_X0_isAsItWas_53 ?_
      refine WA.ret (some (Vi _)) ⟨d_X0_isAsItWas_54, rfl, Or.inr ⟨rfl, Or.inr rfl⟩⟩ ?_
      have hd : lk.drop i = [] := List.drop_eq_nil_of_le (by omega)
      rw [hd] at hQi
      exact hQi σi hpi FrA.rf OBJ.rf
    · have hlt : i < lk.length := by omega
      have hdr : lk.drop i = lk[i] :: lk.drop (i + 1) := List.drop_eq_getElem_cons hlt
      have hxi : (mLk M)[i]? = some lk[i] := by rw [hlkM]; exact List.getElem?_eq_getElem hlt
      have hxv := hRM.2.2.2.2.2.2 i _ hxi
      have hxk := hWl.1 _ (List.getElem_mem hlt)
      rw [hdr] at hQi hzi
      generalize lk[i] = x at hxi hxv hxk hQi hzi hdr
      have hcd : cD (x :: lk.drop (i + 1)) = wt x.1 + cD (lk.drop (i + 1)) := by
        unfold cD
        rw [List.map_cons, List.sum_cons]
      rw [hcd] at hzi
      have hg := valA_g hPA hxk.1 hpi.2.2.2.2.1
      have h121 := hpi.1.1
      refine ar_aload_n 11 rfl d_X0_isAsItWas_10 rfl ?_
      refine ar_aload_n 12 rfl d_X0_isAsItWas_11 rfl ?_
      refine ar_getA 15 rfl d_X0_isAsItWas_12 fl_X0_48 rfl (by assumption) (by assumption) ?_
      refine ar_iload_n 16 rfl d_X0_isAsItWas_15 rfl ?_
      refine ar_ilv (y := x.1) 17 rfl d_X0_isAsItWas_16 (by assumption) (by omega) hxv.1 ?_
      refine ar_aload_n 18 rfl d_X0_isAsItWas_17 rfl ?_
      refine ar_giv (y := (l : Int)) 21 rfl d_X0_isAsItWas_18 fl_X0_51 rfl (by assumption) (by rw [hRM.1]; exact hloaf) ?_
      refine ar_callV0 (M' := mX0_valueNow) (As := [_, _]) (ls' := [Va _, Vi _, Vi _, Vu]) 24 rfl d_X0_isAsItWas_21 ml_X0_54 mt_X0_valueNow h121 rfl (Nat.le_of_ble_eq_true rfl) rfl (Nat.le_of_ble_eq_true rfl) (by omega) ?_
      refine sp_valueNow_ask hA hpi hxk.1 (by omega) (by omega) (by omega) (fun σ1 hp1 hf1 ho1 => ?_)
      obtain ⟨hS1, hSf1, hSr1, hSm1⟩ := hp1.2.2.2.1
      have hshm1 : ShM σ1 m := by
        obtain ⟨pp, hpp17, epp⟩ := hSm.2.2.1 p hp17
        rw [hm] at epp
        cases epp
        exact hS1.2.2.2.2.2.2.2.2.2.2.2.2.2 pp hpp17
      have hkm1 := hshm1.1
      have hkv1 : sk σ1 (m + 2) = (10, 18) := hshm1.2.2.1
      have hrv1 : hR σ1 m 7 = some (m + 2) := hshm1.2.2.2.2
      have hs6 : hI σ1 s 6 = (valA (askF l) x.1 Si).1.1 815 := hSf1.2.2.2.2.2.2.2.2
      have hm4 : hI σi m 4 = ser := by rw [hRM.2.2.2.2.1]; exact hser
      have hi4 : i32 (hI σ1 m 4) := by
        obtain ⟨pp, hpp17, epp⟩ := hSm.2.2.1 p hp17
        rw [hm] at epp
        cases epp
        have hgr := hg.1.2.2.2.1
        have hb5 := hWM.2.2.2.2.1
        have hb6 := hWM.2.2.2.2.2.1
        have hb7 := hpi.2.2.2.2.1.2.2.2.2.1
        rcases ho1.2.1 pp hpp17 with e | e | e
        · rw [e, hm4, ← hser]; constructor <;> omega
        · rw [e]; constructor <;> omega
        · constructor <;> omega
      have hser32 : i32 ser := by
        have hb5 := hWM.2.2.2.2.1
        have hb6 := hWM.2.2.2.2.2.1
        rw [← hser]
        constructor <;> omega
      refine ar_ist_4 26 rfl d_X0_isAsItWas_24 rfl (by intro _ h; cases h) ?_
      refine ar_aload_n 27 rfl d_X0_isAsItWas_26 rfl ?_
      refine ar_getI 30 rfl d_X0_isAsItWas_27 fl_X0_134 rfl (by assumption) ?_
      refine ar_iload_n 31 rfl d_X0_isAsItWas_30 rfl ?_
      refine ar_icmp_ne 45 34 rfl rfl d_X0_isAsItWas_31 (by omega) (by omega) (fun g31 => ?_) (fun g31 => ?_)
      · refine ar_iconst 46 rfl d_X0_isAsItWas_45 ?_
        refine WA.ret (some (Vi _)) ⟨d_X0_isAsItWas_46, rfl, Or.inr ⟨rfl, Or.inl rfl⟩⟩ ?_
        have hno : ¬ (hasS (valA (askF l) x.1 Si).1.2.1 ser = true) := by
          intro h
          obtain ⟨M', hM', hs'⟩ := hasS_iff.mp h
          obtain ⟨i', hi'⟩ := List.getElem?_of_mem hM'
          have hi17 : i' < 17 := by
            have := (List.getElem?_eq_some_iff.mp hi').1
            have := hSm1.1
            omega
          obtain ⟨m', hm', -, -, -⟩ := hSm1.at hS1 hi17
          obtain ⟨j, Mj, e1, e2, e3⟩ := ho1.1 i' M' m' hi' hm' (by have := hWM.2.2.2.2.2.1; omega)
          have hj := nd_at hpi.2.2.2.2.1.2.2.2.2.2.2.2.1 e1 hM (by rw [hser, ← hs', e3.2.2.2.1])
          subst hj
          rw [hm] at e2
          cases e2
          have := (hSm1.2.2.2.2 i' M' m hi' hm').2.2.2.2.1
          exact g31 (by rw [this]; exact hs')
        rw [okA, if_neg (fun h => hno h.1)] at hQi
        exact hQi σ1 hp1 hf1 ho1
      · obtain ⟨p1, M1, hM1, hm1, hsame⟩ := ho1.2.2.1 p M m hM hm (by rw [g31]; exact hser.symm)
        have hRM1 := hSm1.2.2.2.2 p1 M1 m hM1 hm1
        have hxi1 : (mLk M1)[i]? = some x := by rw [hsame.2.2.2.2]; exact hxi
        have hxv1 := (hRM1.2.2.2.2.2.2 i x hxi1).2
        have hhas : hasS (valA (askF l) x.1 Si).1.2.1 ser = true := hasS_iff.mpr ⟨M1, List.mem_of_getElem? hM1, by rw [hsame.2.2.2.1]; exact hser⟩
        refine ar_aload_n 35 rfl d_X0_isAsItWas_34 rfl ?_
        refine ar_getA 38 rfl d_X0_isAsItWas_35 fl_X0_45 rfl (by assumption) (by assumption) ?_
        refine ar_iload_n 39 rfl d_X0_isAsItWas_38 rfl ?_
        refine ar_ilv (y := x.2) 40 rfl d_X0_isAsItWas_39 (by assumption) (by omega) hxv1 ?_
        refine ar_iload 42 rfl d_X0_isAsItWas_40 rfl ?_
        refine ar_icmp_eq 47 45 rfl rfl d_X0_isAsItWas_42 (by omega) (by omega) (fun g42 => ?_) (fun g42 => ?_)
        · refine ar_inc_3 (y := ((i + 1 : Nat) : Int)) 50 rfl d_X0_isAsItWas_47 rfl (by intro _ h; cases h) (by omega) ?_
          refine ar_goto 2 rfl d_X0_isAsItWas_50 ?_
          rw [okA, if_pos ⟨hhas, g42⟩] at hQi
          refine ih (lk.length - (i + 1)) (by omega) (i + 1) _ σ1 _ rfl (by omega) hp1 ⟨p1, M1, hM1, hm1, hsame.2.2.2.1.trans hser, hsame.2.2.2.2.trans hlkM, hsame.1.trans hloaf⟩ (by have := hg.1.2.2.2.1; omega) (fun σ' a b c => hQi σ' a (hf1.tr b) (ho1.tr c hg.1.2.2.1 hSm hpi.pos))
        · refine ar_iconst 46 rfl d_X0_isAsItWas_45 ?_
          refine WA.ret (some (Vi _)) ⟨d_X0_isAsItWas_46, rfl, Or.inr ⟨rfl, Or.inl rfl⟩⟩ ?_
          rw [okA, if_neg (fun h => g42 h.2)] at hQi
          exact hQi σ1 hp1 hf1 ho1
  refine ar_iconst 1 rfl d_X0_isAsItWas_0 ?_
  refine ar_ist_3 2 rfl d_X0_isAsItWas_1 rfl (by intro _ h; cases h) ?_
  exact loop _ 0 S σ Vu rfl (by omega) hp hlv (by simpa using hz) (by simpa using hQ)
end ASKV
