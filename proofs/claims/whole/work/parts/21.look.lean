-- ===== a look, for asking and for baking freshly =====
/-- kept while a value is found: kinds, the pile and the draft of the level, recipes -/
def FrD (l : Nat) (σ σ' : Sg) : Prop := sk σ' = sk σ ∧ (∀ b, (b = 125 + l ∨ (138 + 3 * l ≤ b ∧ b < 141 + 3 * l)) → hI σ' b = hI σ b) ∧ ∀ b, 652 ≤ b → hI σ' b = hI σ b ∧ hR σ' b = hR σ b
theorem RM.frD {σ σ' : Sg} {l : Nat} {M : Mem} (h : RM σ (138 + 3 * l) M) (hf : FrD l σ σ') : RM σ' (138 + 3 * l) M := by
  unfold RM at h ⊢
  rw [hf.2.1 (138 + 3 * l) (by omega), hf.2.1 (138 + 3 * l + 1) (by omega), hf.2.1 (138 + 3 * l + 2) (by omega)]
  exact h
theorem fkey {d : List (Int × Int)} {w : Int} {i : Nat} {x : Int × Int} (h1 : d[i]? = some x) (h2 : x.1 = w) (h3 : ∀ (j : Nat) (y : Int × Int), j < i → d[j]? = some y → y.1 ≠ w) : d.find? (fun x => x.1 == w) = some x := by
  rw [List.find?_eq_some_iff_getElem]
  have hi := (List.getElem?_eq_some_iff.mp h1).1
  refine ⟨by simpa using h2, i, hi, (List.getElem?_eq_some_iff.mp h1).2, fun j hj => ?_⟩
  have := h3 j d[j] hj (List.getElem?_eq_getElem (by omega))
  simpa using this
section LOOK
variable {G : GT} {d k n : Nat} {σ : Sg} {Q : Option AV → Sg → Prop}
set_option maxHeartbeats 8000000 in
theorem sp_X0_lookedUp {τ : Type} {va : Int → τ → τ × Int} {mk : Int → τ → τ} {Iv : τ → Sg → Prop} {V : Int → Prop} {DV : List (Int × Int) → τ → Prop} {l : Nat} (hl : l < 6)
    (hB : ∀ t σ, Iv t σ → ShB σ)
    (hst : ∀ t (σ σ' : Sg), Iv t σ → σ'.2 = σ.2 → (∀ b, b ≠ 125 + l → (b < 138 + 3 * l ∨ 141 + 3 * l ≤ b) → hI σ' b = hI σ b) → Iv t σ')
    (hmk : ∀ t (σ : Sg) key, Iv t σ → V key → 0 ≤ key ∧ key < 12 → Iv (mk key t) (wI σ 121 2 (iOr (hI σ 121 2) (iSl 1 key))))
    (hmk0 : ∀ t key, V key → ¬ (0 ≤ key ∧ key < 12) → mk key t = t)
    (hV : ∀ key, V key → i32 key)
    (hDV : ∀ (d9 : List (Int × Int)) t, DV d9 t → d9.length < 18 ∧ ∀ x ∈ d9, V x.1 ∧ i32 x.2)
    (hDV2 : ∀ (d9 : List (Int × Int)) t key, DV d9 t → V key → DV (lkG va mk key d9 t).2.1 (lkG va mk key d9 t).1)
    (hva : ∀ (t : τ) (σ : Sg) (key : Int) (d9 : List (Int × Int)) (Q' : Option AV → Sg → Prop), Iv (mk key t) σ → DV d9 t → d9.find? (fun x => x.1 == key) = none → V key → (∀ σ', Iv (va key (mk key t)).1 σ' → FrD l σ σ' → i32 (va key (mk key t)).2 → Q' (some (Vi (va key (mk key t)).2)) σ') → WA G (d - 1) 0 0 mX0_valueNow 0 [Va 121, Vi key, Vi (l : Int), Vu] [] σ Q')
    {t : τ} {d9 : List (Int × Int)} {key n9 : Int} (hIv : Iv t σ) (hD : DV d9 t) (hk9 : V key) (hRM : RM σ (138 + 3 * l) (l, 100, n9, 0, 0, d9)) (hdp : 1 ≤ d)
    (hQ : ∀ σ', Iv (lkG va mk key d9 t).1 σ' → DV (lkG va mk key d9 t).2.1 (lkG va mk key d9 t).1 → RM σ' (138 + 3 * l) (l, 100, n9, 0, 0, (lkG va mk key d9 t).2.1) → FrL l σ σ' → i32 (lkG va mk key d9 t).2.2 → Q (some (Vi (lkG va mk key d9 t).2.2)) σ') : WA G d k n mX0_lookedUp 0 [Va 121, Vi key, Va (138 + 3 * l), Vu, Vu] [] σ Q := by
  have hBs := hB t σ hIv
  have hsd := (hBs.2.2.2.2.2.2.2.2.2.2.2 l hl).2.2.2
  have hDd := hDV d9 t hD
  have hD2 := hDV2 d9 t key hD hk9
  have hi32 := hV key hk9
  have h36 : ∀ σ1, d9.find? (fun x => x.1 == key) = none → Iv (mk key t) σ1 → RM σ1 (138 + 3 * l) (l, 100, n9, 0, 0, d9) → FrL l σ σ1 → WA G d k n mX0_lookedUp 36 [Va 121, Vi key, Va (138 + 3 * l), Vi (-1), Vu] [] σ1 Q := by
    intro σ1 hno hIv1 hRM1 hf1
    have hB1 := hB _ σ1 hIv1
    have hk := hB1.1
    have hsd1 := (hB1.2.2.2.2.2.2.2.2.2.2.2 l hl).2.2.2
    have hkd := hsd1.1
    have hlk : lkG va mk key d9 t = ((va key (mk key t)).1, d9 ++ [(key, (va key (mk key t)).2)], (va key (mk key t)).2) := by
      unfold lkG
      rw [hno]
      simp only []
      rw [if_pos hDd.1]
    refine ar_aload_n 37 rfl d_X0_lookedUp_36 rfl ?_
    refine ar_iload_n 38 rfl d_X0_lookedUp_37 rfl ?_
    refine ar_aload_n 39 rfl d_X0_lookedUp_38 rfl ?_
    refine ar_giv (y := (l : Int)) 42 rfl d_X0_lookedUp_39 fl_X0_51 rfl (by assumption) hRM1.1 ?_
    refine ar_callV0 (M' := mX0_valueNow) (As := [_, _]) (ls' := [Va _, Vi _, Vi _, Vu]) 45 rfl d_X0_lookedUp_42 ml_X0_54 mt_X0_valueNow (by assumption) rfl (Nat.le_of_ble_eq_true rfl) rfl (Nat.le_of_ble_eq_true rfl) (by omega) ?_
    refine hva t σ1 key d9 _ hIv1 hD hno hk9 (fun σ2 hI2 hf2 hv2 => ?_)
    have hB2 := hB _ σ2 hI2
    have hsd2 := (hB2.2.2.2.2.2.2.2.2.2.2.2 l hl).2.2.2
    have hkd2 := hsd2.1
    refine ar_ist_4 47 rfl d_X0_lookedUp_45 rfl (by intro _ h; cases h) ?_
    refine ar_aload_n 48 rfl d_X0_lookedUp_47 rfl ?_
    refine ar_iload_n 49 rfl d_X0_lookedUp_48 rfl ?_
    refine ar_iload 51 rfl d_X0_lookedUp_49 rfl ?_
    refine ar_callV0 (M' := mX1_addLook) (As := [_, _]) (ls' := [Va _, Vi _, Vi _]) 54 rfl d_X0_lookedUp_51 ml_X0_153 mt_X1_addLook hkd2 rfl (Nat.le_of_ble_eq_true rfl) rfl (Nat.le_of_ble_eq_true rfl) (by omega) ?_
    refine sp_X1_addLook hsd2 (hRM1.frD hf2) hDd.1 (fun σ3 hf3 hM3 => ?_)
    refine ar_iload 56 rfl d_X0_lookedUp_54 rfl ?_
    refine WA.ret (some (Vi _)) ⟨d_X0_lookedUp_56, rfl, Or.inl rfl⟩ ?_
    rw [hlk] at hQ hD2
    refine hQ σ3 (hst _ _ _ hI2 hf3.1 (fun b hb hb2 => hf3.2 b (by omega))) hD2 hM3 ⟨?_, ?_, fun b hb => ⟨?_, ?_⟩⟩ hv2
    · show σ3.2.2.1 = _
      rw [hf3.1]
      exact hf2.1.trans hf1.1
    · rw [hf3.2 _ (by omega), hf2.2.1 _ (by omega), hf1.2.1]
    · rw [hf3.2 _ (by omega), (hf2.2.2 b hb).1, (hf1.2.2 b hb).1]
    · show σ3.2.1 b = _
      rw [hf3.1]
      exact (hf2.2.2 b hb).2.trans (hf1.2.2 b hb).2
  refine ar_aload_n 1 rfl d_X0_lookedUp_0 rfl ?_
  refine ar_iload_n 2 rfl d_X0_lookedUp_1 rfl ?_
  refine ar_callV0 (M' := mX1_placeOfLook) (As := [_]) (ls' := [Va _, Vi _, Vu]) 5 rfl d_X0_lookedUp_2 ml_X0_150 mt_X1_placeOfLook hsd.1 rfl (Nat.le_of_ble_eq_true rfl) rfl (Nat.le_of_ble_eq_true rfl) (by omega) ?_
  have hkd := hsd.1
  have hkv : sk σ (138 + 3 * l + 2) = (10, 18) := hsd.2.2.1
  have hrv : hR σ (138 + 3 * l) 7 = some (138 + 3 * l + 2) := hsd.2.2.2.2
  refine sp_X1_placeOfLook hsd hRM (by show d9.length ≤ 18; omega) hi32 (fun x hx => hV _ (hDd.2 x hx).1) (fun i x hx hxw hmin => ?_) (fun hno => ?_)
  · have hfd := fkey hx hxw hmin
    have hi := (List.getElem?_eq_some_iff.mp hx).1
    have hi2 : i < d9.length := hi
    have hxv := (hRM.2.2.2.2.2.2 i x hx).2
    have hlk : lkG va mk key d9 t = (t, d9, x.2) := by
      unfold lkG
      rw [hfd]
    rw [hlk] at hQ hD2
    refine ar_ist_3 6 rfl d_X0_lookedUp_5 rfl (by intro _ h; cases h) ?_
    refine ar_iload_n 7 rfl d_X0_lookedUp_6 rfl ?_
    refine ar_if_lt 17 10 rfl rfl d_X0_lookedUp_7 (by omega) (fun h => by omega) (fun g7 => ?_)
    refine ar_aload_n 11 rfl d_X0_lookedUp_10 rfl ?_
    refine ar_getA 14 rfl d_X0_lookedUp_11 fl_X0_45 rfl (by assumption) (by assumption) ?_
    refine ar_iload_n 15 rfl d_X0_lookedUp_14 rfl ?_
    refine ar_ilv (y := x.2) 16 rfl d_X0_lookedUp_15 (by assumption) (by omega) hxv ?_
    refine WA.ret (some (Vi _)) ⟨d_X0_lookedUp_16, rfl, Or.inl rfl⟩ ?_
    exact hQ σ hIv hD2 hRM ⟨rfl, rfl, fun b _ => ⟨rfl, rfl⟩⟩ (hDd.2 x (List.mem_of_getElem? hx)).2
  · have hno9 : d9.find? (fun x => x.1 == key) = none := by
      rw [List.find?_eq_none]
      intro x hx
      simpa using hno x hx
    have hkb := hBs.1
    refine ar_ist_3 6 rfl d_X0_lookedUp_5 rfl (by intro _ h; cases h) ?_
    refine ar_iload_n 7 rfl d_X0_lookedUp_6 rfl ?_
    refine ar_if_lt 17 10 rfl rfl d_X0_lookedUp_7 (by omega) (fun g7 => ?_) (fun h => by omega)
    refine ar_iload_n 18 rfl d_X0_lookedUp_17 rfl ?_
    refine ar_callSN0 (M' := mX5_isShelf) (As := [_]) (ls' := [Vi _]) 21 rfl d_X0_lookedUp_18 ml_X0_137 mt_X5_isShelf rfl (Nat.le_of_ble_eq_true rfl) rfl (Nat.le_of_ble_eq_true rfl) (by omega) ?_
    refine sp_X5_isShelf hi32 (fun g18 => ?_) (fun g18 => ?_)
    · refine ar_if_eq 36 24 rfl rfl d_X0_lookedUp_21 (by omega) (fun h => absurd h (by decide)) (fun g21 => ?_)
      refine ar_aload_n 25 rfl d_X0_lookedUp_24 rfl ?_
      refine ar_dup 26 rfl d_X0_lookedUp_25 (fun _ => rfl) ?_
      refine ar_getI 29 rfl d_X0_lookedUp_26 fl_X0_38 rfl hkb ?_
      refine ar_iconst 30 rfl d_X0_lookedUp_29 ?_
      refine ar_iload_n 31 rfl d_X0_lookedUp_30 rfl ?_
      refine ar_ishl 32 rfl d_X0_lookedUp_31 ?_
      refine ar_ior 33 rfl d_X0_lookedUp_32 ?_
      refine ar_putI 36 rfl d_X0_lookedUp_33 fl_X0_38 rfl rfl hkb ?_
      refine h36 _ hno9 (hmk t σ key hIv hk9 g18) ?_ ?_
      · exact RM.fr hRM (FrI.w (lo := 121) (hi := 122) (by omega) (by omega)) (by omega)
      · refine ⟨rfl, ?_, fun b hb => ⟨?_, rfl⟩⟩
        · funext j
          rw [hI_w, if_neg (by omega)]
        · funext j
          rw [hI_w, if_neg (by omega)]
    · refine ar_if_eq 36 24 rfl rfl d_X0_lookedUp_21 (by omega) (fun g21 => ?_) (fun h => absurd h (by decide))
      exact h36 σ hno9 (by rw [hmk0 t key hk9 g18]; exact hIv) hRM ⟨rfl, rfl, fun b _ => ⟨rfl, rfl⟩⟩
end LOOK
