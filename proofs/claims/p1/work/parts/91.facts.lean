/-! The law's world by facts: what a call leaves where. -/
theorem put_out : ∀ {is : List Nat} {cs w : List ab_C} {i : Nat}, i ∉ is → (ab_put w is cs)[i]? = w[i]?
  | [], cs, w, i, _ => by rw [show ab_put w [] cs = w by simp [ab_put]]
  | k :: is, [], w, i, _ => by rw [show ab_put w (k :: is) [] = w by simp [ab_put]]
  | k :: is, c :: cs, w, i, h => by
    rw [show ab_put w (k :: is) (c :: cs) = ab_put (w.set k c) is cs from rfl, put_out (fun q => h (List.mem_cons_of_mem _ q)), List.getElem?_set_ne (fun q => h (by rw [q]; exact List.mem_cons_self ..))]
theorem put_in : ∀ {is : List Nat} {cs w : List ab_C} {j i : Nat} {c : ab_C}, is.Nodup → is[j]? = some i → i < w.length → cs[j]? = some c → (ab_put w is cs)[i]? = some c
  | [], cs, w, j, i, c, _, h, _, _ => by simp at h
  | k :: is, [], w, j, i, c, _, _, _, h => by simp at h
  | k :: is, x :: cs, w, 0, i, c, hn, hi, hw, hc => by
    have e1 : k = i := Option.some.inj hi
    have e2 : x = c := Option.some.inj hc
    subst e1; subst e2
    rw [show ab_put w (k :: is) (x :: cs) = ab_put (w.set k x) is cs from rfl, put_out (List.nodup_cons.mp hn).1, List.getElem?_set_self hw]
  | k :: is, x :: cs, w, j + 1, i, c, hn, hi, hw, hc => by
    rw [show ab_put w (k :: is) (x :: cs) = ab_put (w.set k x) is cs from rfl]
    exact put_in (List.nodup_cons.mp hn).2 hi (by rw [List.length_set]; exact hw) hc
theorem nd_of : ∀ {is : List Nat}, is.Nodup → va_nd is = true
  | [], _ => rfl
  | a :: l, h => by
    obtain ⟨h1, h2⟩ := List.nodup_cons.mp h
    simp [va_nd, nd_of h2, h1]
/-- a call's world, out of facts -/
theorem fits_of {is fo : List Nat} {wc w : List ab_C} (h : ∀ (j : Nat) (c : ab_C), wc[j]? = some c → ∃ i, is[j]? = some i ∧ w[i]? = some (ab_rc (ab_rho is fo w.length) c)) (hl : wc.length = is.length) : ab_fits is fo wc w := by
  unfold ab_fits
  apply List.ext_getElem?
  intro j
  rw [List.getElem?_map, List.getElem?_map, List.getElem?_map]
  cases hc : wc[j]? with
  | none =>
    have : is[j]? = none := List.getElem?_eq_none (by have := List.getElem?_eq_none_iff.mp hc; omega)
    rw [this]
    rfl
  | some c =>
    obtain ⟨i, h1, h2⟩ := h j c hc
    rw [h1]
    show some (some _) = some (w[i]?)
    rw [h2]
