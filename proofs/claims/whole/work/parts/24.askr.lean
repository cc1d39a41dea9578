-- ===== asking, walked: a loaf =====
theorem RSf.w {σ : Sg} {s a j u : Nat} {f : Nat → Int} {x : Int} (h : RSf σ s f) (hc : (a = s + 1 ∧ j < 12 ∧ u = 2 + j) ∨ (a = s + 2 ∧ j < 2 ∧ u = j) ∨ (a = s + 5 ∧ j < 6 ∧ u = 800 + j) ∨ (a = s + 6 ∧ j < 6 ∧ u = 806 + j) ∨ (a = s ∧ j = 9 ∧ u = 812) ∨ (a = s ∧ j = 10 ∧ u = 813) ∨ (a = s ∧ j = 6 ∧ u = 815)) : RSf (wI σ a j x) s (uf f u x) := by
  have key : ∀ b i u' : Nat, hI σ b i = f u' → ((b = a ∧ i = j) ↔ u' = u) → hI (wI σ a j x) b i = uf f u x u' := by
    intro b i u' e hi
    rw [hI_w]
    by_cases e2 : u' = u
    · rw [if_pos (hi.mpr e2), e2, uf_s]
    · rw [if_neg (fun h => e2 (hi.mp h)), uf_n e2]
      exact e
  obtain ⟨h1, ⟨pm, h2, h3, h4⟩, h5, h6, h7, h8, h9, h10, h11⟩ := h
  refine ⟨fun i hi => key _ _ _ (h1 i hi) (by omega), ⟨pm, h2, ?_, fun i hi => ?_⟩, key _ _ _ h5 (by omega), key _ _ _ h6 (by omega), fun l hl => key _ _ _ (h7 l hl) (by omega), fun l hl => key _ _ _ (h8 l hl) (by omega), key _ _ _ h9 (by omega), key _ _ _ h10 (by omega), key _ _ _ h11 (by omega)⟩
  · rw [hI_w, if_neg (by omega)]
    exact h3
  · rw [uf_n (by omega)]
    exact h4 i hi
theorem ShS.e {σ σ' : Sg} {s : Nat} (h : ShS σ s) (e : σ'.2 = σ.2) : ShS σ' s := ShS.fr h (by show σ'.2.2.1 = _; rw [e]) (fun b _ _ => by show σ'.2.1 b = _; rw [e])
theorem RSm.int {σ σ' : Sg} {s : Nat} {L : List Mem} (h : RSm σ s L) (hf : FrI s (s + 7) σ σ') (h5 : hI σ' s 5 = hI σ s 5) : RSm σ' s L := by
  have er : hR σ' = hR σ := by
    show σ'.2.1 = σ.2.1
    rw [hf.1]
  refine ⟨h.1, by rw [h5]; exact h.2.1, by rw [er]; exact h.2.2.1, by rw [er]; exact h.2.2.2.1, fun i M m h1 h2 => ?_⟩
  rw [er] at h2
  have hi := (List.getElem?_eq_some_iff.mp h1).1
  obtain ⟨p, hp, e⟩ := h.2.2.1 i (by have := h.1; omega)
  rw [h2] at e
  cases e
  exact RM.fr (h.2.2.2.2 i M _ h1 h2) hf (by omega)
theorem RSt.int {σ σ' : Sg} {s : Nat} {S S' : SS} (h : RSt σ s S) (hf : FrI s (s + 7) σ σ') (h5 : hI σ' s 5 = hI σ s 5) (hF : RSf σ' s S'.1) (e1 : S'.2 = S.2) (hs : s + 58 ≤ 652) : RSt σ' s S' := by
  refine ⟨h.1.e hf.1, hF, ?_, ?_⟩
  · rw [e1]
    exact h.2.2.1.fr (fun b hb _ => ⟨by show σ'.2.2.1 b = _; rw [hf.1], hf.2 b (by omega), by show σ'.2.1 b = _; rw [hf.1]⟩) (fun l _ => by show σ'.2.1 _ l = _; rw [hf.1]) (by show _ ≤ σ'.2.2.2; rw [hf.1]; exact Nat.le_refl _)
  · rw [e1]
    exact h.2.2.2.int hf h5
theorem RSt.mem {σ σ' : Sg} {s : Nat} {S : SS} {L : List Mem} (h : RSt σ s S) (hf : FrM s σ σ') (hL : RSm σ' s L) (hs : s + 58 ≤ 652) : RSt σ' s (S.1, L, S.2.2) := by
  refine ⟨h.1.frm hf, h.2.1.fr hf.2.2.2.2 (fun b hb => hf.2.2.2.1 b (by omega)), ?_, hL⟩
  exact h.2.2.1.fr (fun b hb _ => ⟨by rw [hf.1], hf.2.2.2.1 b (by omega), hf.2.2.1 b (by omega)⟩) (fun l _ => by rw [hf.2.2.1 _ (by omega)]) (by have := hf.2.1; omega)
theorem AskPre.to {s : Nat} {S S' : SS} {σ σ' : Sg} (h : AskPre s S σ) (hs : (s + 58 ≤ 121 ∨ 156 ≤ s) ∧ s + 58 ≤ 652) (hf : FrS s σ σ') (hst : RSt σ' s S') (hw : WFS S') : AskPre s S' σ' := by
  obtain ⟨a1, a2, a3, a4, a5, a6⟩ := h
  exact ⟨a1.fr hf.1 (fun a _ _ _ => (hf.2.2 a (by omega)).2) (fun j _ => by rw [(hf.2.2 121 (by omega)).2]), by rw [(hf.2.2 121 (by omega)).2]; exact a2, by rw [(hf.2.2 121 (by omega)).1]; exact a3, hst, hw, by have := hf.2.1; omega⟩
theorem OBJ.st2 {s : Nat} {z : Int} {σ σ' : Sg} {L : List Mem} (h1 : hR σ' (s + 4) = hR σ (s + 4)) (h2 : ∀ b, s + 7 ≤ b → b < s + 58 → hI σ' b = hI σ b) (h3 : hI σ' s 6 = hI σ s 6) : OBJ s z σ L σ' L :=
  ⟨fun i M m a b _ => ⟨i, M, a, by rw [← h1]; exact b, mSame.rf M⟩, fun p hp => Or.inl (by rw [h2 _ (by omega) (by omega)]), fun j M m a b _ => ⟨j, M, a, by rw [h1]; exact b, mSame.rf M⟩, by rw [h3]; exact Int.le_refl _⟩
theorem FrA.rec {l s r : Nat} {σ σ' : Sg} {c : Rcpe} (hs : s + 58 ≤ 652) (h : FrA l s σ σ') (hr : 652 ≤ r) (hc : RRec σ r c) : RRec σ' r c := hc.fr (fun b hb => ⟨by rw [h.1], (h.2.2.1 b (by omega) (by omega)).1, (h.2.2.1 b (by omega) (by omega)).2⟩)
theorem fitA_mem {A : AF} : ∀ (ids : List Int) (S : SS) (p : Nat), (fitA A ids S).2 = some p → ∃ M, (fitA A ids S).1.2.1[p]? = some M
  | [], S, p, h => by rw [fitA] at h; cases h
  | i :: t, S, p, h => by
    rw [fitA] at h ⊢
    cases hf : S.2.1.find? (fun M => mSer M == i) with
    | none =>
      rw [hf] at h
      exact fitA_mem t S p h
    | some M =>
      rw [hf] at h
      simp only [] at h ⊢
      split
      · rename_i hb
        rw [if_pos hb] at h
        have h : plS (okA A i (mLk M) S).1.2.1 i = some p := h
        unfold plS at h
        rw [List.findIdx?_eq_some_iff_getElem] at h
        obtain ⟨h1, -, -⟩ := h
        exact ⟨_, List.getElem?_eq_getElem h1⟩
      · rename_i hb
        rw [if_neg hb] at h
        exact fitA_mem t _ p h
section ASKX
variable {G : GT} {d k n s l : Nat} {σ : Sg} {Q : Option AV → Sg → Prop}
/-- what holds while a loaf is baked, from the state behind the search -/
def IvA (s l : Nat) (S1 : SS) (σ1 : Sg) (S : SS) (σ : Sg) : Prop := AskPre s S σ ∧ FrA (l + 1) s σ1 σ ∧ OBJ s (S1.1 815) σ1 S1.2.1 σ S.2.1
theorem FrA.s121 {l s : Nat} {σ : Sg} {x : Int} (hl : l ≤ 6) : FrA l s σ (wI σ 121 2 x) := ⟨rfl, rfl, fun a h _ => ⟨by funext i; rw [hI_w, if_neg (by omega)], rfl⟩, fun _ _ _ => rfl, by rw [hI_w, if_neg (by omega)], fun j _ _ => ⟨by funext i; rw [hI_w, if_neg (by omega)], by funext i; rw [hI_w, if_neg (by omega)], fun a _ => by funext i; rw [hI_w, if_neg (by omega)]⟩⟩
set_option maxHeartbeats 8000000 in
theorem sp_reckon_ask {r : Nat} {S1 : SS} {c : Rcpe} (hs : (s + 58 ≤ 121 ∨ 156 ≤ s) ∧ s + 58 ≤ 652) (hA : AC G s l (d - 3)) (hp : AskPre s S1 σ) (hl : l < 6) (hz : S1.1 815 + (Wn l : Int) ≤ 2147483647) (hc : WFc l c) (hRq : RRec σ r c) (hr : 652 ≤ r) (hdp : 5 ≤ d)
    (hQ : ∀ σ', AskPre s (runG (lkG (valA (askF l)) (fun _ t => t)) c c.length 0 [] [] 0 S1).1 σ' → FrA (l + 1) s σ σ' → OBJ s (S1.1 815) σ S1.2.1 σ' (runG (lkG (valA (askF l)) (fun _ t => t)) c c.length 0 [] [] 0 S1).1.2.1 → RM σ' (138 + 3 * l) (l, 100, (runG (lkG (valA (askF l)) (fun _ t => t)) c c.length 0 [] [] 0 S1).2.2.1, 0, 0, (runG (lkG (valA (askF l)) (fun _ t => t)) c c.length 0 [] [] 0 S1).2.1) → Q (some (Vi (runG (lkG (valA (askF l)) (fun _ t => t)) c c.length 0 [] [] 0 S1).2.2.2)) σ') : WA G d 0 0 mX0_reckon 0 [Va 121, Vi (l : Int), Va r, Vu, Vu, Vu, Vu, Vu, Vu, Vu, Vu] [] σ Q := by
  have hPA := askF_g l (by omega)
  have hB : ∀ (S' : SS) (σ' : Sg), IvA s l S1 σ S' σ' → ShB σ' := fun S' σ' h => h.1.1
  have hfr : ∀ (S' : SS) (σ2 σ3 : Sg), IvA s l S1 σ S' σ2 → AskPre s S' σ3 → FrA (l + 1) s σ2 σ3 → hR σ3 (s + 4) = hR σ2 (s + 4) → (∀ b, s ≤ b → b < s + 58 → hI σ3 b = hI σ2 b) → IvA s l S1 σ S' σ3 :=
    fun S' σ2 σ3 h a b c e => ⟨a, h.2.1.tr b, h.2.2.tr (OBJ.st c e) (Int.le_refl (S1.1 815)) hp.2.2.2.1.2.2.2 hp.pos⟩
  have hst : ∀ (S' : SS) (σ2 σ3 : Sg), IvA s l S1 σ S' σ2 → σ3.2 = σ2.2 → (∀ b, b ≠ 125 + l → (b < 138 + 3 * l ∨ 141 + 3 * l ≤ b) → hI σ3 b = hI σ2 b) → IvA s l S1 σ S' σ3 := by
    intro S' σ2 σ3 h e hb
    refine hfr S' σ2 σ3 h (h.1.b hs e (fun b h1 => hb b (by omega) (by omega)) (by rw [hb 121 (by omega) (by omega)])) (FrA.b e (fun b h1 => ?_) (by omega)) (by show σ3.2.1 _ = σ2.2.1 _; rw [e]) (fun b h1 h2 => hb b (by omega) (by omega))
    by_cases e1 : b = 125 + l
    · exact absurd ⟨l, by omega, Or.inl e1⟩ h1
    · by_cases e2 : 138 + 3 * l ≤ b ∧ b < 141 + 3 * l
      · exact absurd ⟨l, by omega, Or.inr (Or.inr e2)⟩ h1
      · exact hb b e1 (by omega)
  refine sp_X0_reckon (Iv := IvA s l S1 σ) (V := VK l) (DV := fun d S => WFl l d ∧ Grow S1 S (cD d)) (t0 := S1) hl hB hst ?_ ?_ hc.1 hRq hr ⟨hp, FrA.rf, OBJ.rf⟩ ⟨⟨fun x hx => (by cases hx), List.nodup_nil⟩, (Grow.rf hp.2.2.2.2.1).le (Nat.zero_le _)⟩ (by omega) (fun σ' hI9 hM9 => hQ σ' hI9.1 hI9.2.1 hI9.2.2 hM9)
  · intro t σ2 d9 key n9 Q' hIv hDV hVk hRM hQ'
    have hkr : ∀ key, VK l key → i32 key := by
      intro key hk
      rcases hk with e | e <;> constructor <;> omega
    refine sp_X0_lookedUp (va := valA (askF l)) (mk := fun _ t => t) (Iv := IvA s l S1 σ) (V := VK l) (DV := fun d S => WFl l d ∧ Grow S1 S (cD d)) hl hB hst ?_ (fun _ _ _ _ => rfl) hkr ?_ ?_ ?_ hIv hDV hVk hRM (by omega) hQ'
    · intro S' σ3 key2 h _ _
      refine hfr S' σ3 _ h ?_ (FrA.s121 (by omega)) rfl (fun b h1 h2 => by funext i; rw [hI_w, if_neg (by omega)])
      exact h.1.b hs rfl (fun b h1 => by funext i; rw [hI_w, if_neg (by omega)]) (by rw [hI_w, if_neg (by omega)])
    · intro d2 S' h
      have h1 := WFl_len h.1
      refine ⟨by omega, fun x hx => ⟨(h.1.1 x hx).1, ?_⟩⟩
      have := (h.1.1 x hx).2
      constructor <;> omega
    · intro d2 S' key2 h hk2
      exact (lkG_g hl hPA key2 d2 S' hk2 h).1
    · intro S' σ3 key2 d2 Q2 hI2 hD2 hno hk2 hQ2
      have hW2 : WFl l (d2 ++ [(key2, 0)]) := by
        refine ⟨fun x hx => ?_, ?_⟩
        · rcases List.mem_append.mp hx with e | e
          · exact hD2.1.1 x e
          · rw [List.mem_singleton.mp e]
            exact ⟨hk2, (by decide : (0 : Int) ≤ 0), (by decide : (0 : Int) ≤ 100)⟩
        · rw [List.map_append, List.nodup_append]
          refine ⟨hD2.1.2, by simp, fun a ha b hb => ?_⟩
          obtain ⟨x, hx, rfl⟩ := List.mem_map.mp ha
          have hb : b = key2 := by simpa using hb
          rw [hb]
          have := List.find?_eq_none.mp hno x hx
          simpa using this
      have hcd := cD_W hW2
      have hcd2 : cD (d2 ++ [(key2, 0)]) = cD d2 + wt key2 := by
        unfold cD
        rw [List.map_append, List.sum_append]
        simp
      have hg2 := hD2.2.2.2.2.1
      have hva := valA_g hPA hk2 hI2.1.2.2.2.2.1
      refine sp_valueNow_ask (by exact hA) hI2.1 hk2 (by omega) (by omega) (by omega) (fun σ4 hp4 hf4 ho4 => ?_)
      refine hQ2 σ4 ⟨hp4, hI2.2.1.tr (hf4.mono (by omega)), hI2.2.2.tr ho4 hD2.2.2.2.1 hp.2.2.2.1.2.2.2 hp.pos⟩ ⟨hf4.1, fun b hb => ?_, fun b hb => hf4.2.2.1 b (by omega) (by omega)⟩ (by constructor <;> omega)
      have h6 := hf4.2.2.2.2.2 l (Nat.le_refl l) hl
      rcases hb with e | e
      · rw [e]; exact h6.1
      · exact h6.2.2 b e
  · intro x hx
    have h1 := hc.2 x hx
    exact ⟨by constructor <;> omega, by omega, by omega, h1.2.2.1⟩
end ASKX
