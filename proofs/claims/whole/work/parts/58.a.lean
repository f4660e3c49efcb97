/-! from the constructors' world to the one world -/
theorem arrV_cg {cI : ClassId} {N : Nat} {f g : Nat → Value} (h : ∀ j, j < N → f j = g j) : arrV cI N f = arrV cI N g := by
  unfold arrV
  have e : (fun j : Fin N => f j.val) = fun j : Fin N => g j.val := funext fun j => h j.val j.isLt
  rw [e]
def swPs (c : Nat) : Nat := if c < 20 then c + 3 else if c < 120 then c + 5 else if c ≤ 122 then c - 120 else if c ≤ 124 then c - 100 else c
theorem swPs_inj {i j : Nat} (hi : i < 159) (hj : j < 159) (h : swPs i = swPs j) : i = j := by
  revert h
  unfold swPs
  repeat' split
  all_goals (intro h; omega)
theorem sw_tie {D : va_G} {cA : Nat → ClassId} {b a bm bo : Nat} {p hs qm : Nat → Nat} {q qs : Nat → Nat → Nat} {H : Heap} {A : Nat → Prop} (hP : va_P D vwCl (swT cA b p q a hs qs bm qm bo) H) (hD : va_D A (swT cA b p q a hs qs bm qm bo)) :
    va_P D vwCl (sk_ws (swAd b p q a hs qs bm qm bo) cA M00) H ∧ sk_inj (swAd b p q a hs qs bm qm bo) ∧ ∀ c, c < 159 → A (swAd b p q a hs qs bm qm bo c) := by
  have w124 : (swT cA b p q a hs qs bm qm bo)[24]? = some (swAd b p q a hs qs bm qm bo 124, .inl (cA 14, 10, .inr (.inr (.inr (.inr (rfI hs 10)))))) := wt_124
  have at' : ∀ c, c < 159 → ∃ e, (swT cA b p q a hs qs bm qm bo)[swPs c]? = some (swAd b p q a hs qs bm qm bo c, e) ∧ va_at D vwCl (swAd b p q a hs qs bm qm bo c, sk_ce (swAd b p q a hs qs bm qm bo) cA M00 c) H := fun c hc => by
    by_cases hne : c = 124
    · subst hne
      refine ⟨_, w124, ?_⟩
      have h1 : H[swAd b p q a hs qs bm qm bo 124]? = some (arrV (cA 14) 10 (fun j => va_rf (rfI hs 10 j))) := hP _ _ w124
      show H[swAd b p q a hs qs bm qm bo 124]? = some (arrV (cA 14) 10 (fun j => va_rf ((sk_rf 124 j).map (swAd b p q a hs qs bm qm bo))))
      rw [h1]
      congr 1
    · exact ⟨_, wt_all c hc hne, hP _ _ (wt_all c hc hne)⟩
  refine ⟨fun k x hx => ?_, fun i j hi hj e => ?_, fun c hc => ?_⟩
  · obtain ⟨h1, rfl⟩ := sk_at_lt hx
    exact (at' k h1).choose_spec.2
  · obtain ⟨x, hx, -⟩ := at' i hi
    obtain ⟨y, hy, -⟩ := at' j hj
    exact swPs_inj hi hj (hD.1 _ _ _ _ hx hy e)
  · obtain ⟨x, hx, -⟩ := at' c hc
    exact hD.2 _ _ hx
