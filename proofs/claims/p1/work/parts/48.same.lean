/-! A call that leaves its world alone leaves the caller's alone; the kept graphs' array. -/
theorem ab_put_same : ∀ (is : List Nat) (cs w : List ab_C), cs.map some = is.map (fun i => w[i]?) → ab_put w is cs = w
  | [], cs, w, _ => by simp [ab_put]
  | i :: is, [], w, h => by simp [ab_put]
  | i :: is, c :: cs, w, h => by
    have h1 : some c = w[i]? := (List.cons.inj h).1
    have h2 : cs.map some = is.map (fun i => w[i]?) := (List.cons.inj h).2
    have e : w.set i c = w := by
      apply List.ext_getElem?
      intro k
      rw [List.getElem?_set]
      split
      · rename_i hk
        subst hk
        split
        · exact h1
        · rename_i hlt
          rw [List.getElem?_eq_none (by omega)]
      · rfl
    rw [ab_put, e]
    exact ab_put_same is cs w h2
theorem ab_fits.same {is fo : List Nat} {wc w : List ab_C} (h : ab_fits is fo wc w) : ab_put w is (wc.map (ab_rc (ab_rho is fo w.length))) = w := ab_put_same is _ w h
def kf (T : Nat → Nat) (kc : Nat) : Nat → Option Nat := fun j => if j < kc then some (T j) else none
theorem kf_map {T : Nat → Nat} {kc : Nat} {r : Nat → Nat} {S : Nat → Nat} (h : ∀ j, j < kc → r (S j) = T j) : (fun j => (kf S kc j).map r) = kf T kc := by
  funext j
  unfold kf
  by_cases hj : j < kc
  · rw [if_pos hj, if_pos hj, Option.map_some, h j hj]
  · rw [if_neg hj, if_neg hj]; rfl
