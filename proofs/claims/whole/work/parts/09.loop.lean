theorem gup_gup (u : gW) (n : Nat) (e e' : va_E) : gup (gup u n e) n e' = gup u n e' := by
  funext k
  simp only [gup]
  split <;> rfl
theorem gup_id {u : gW} {n : Nat} {e : va_E} (h : u n = some e) : gup u n e = u := by
  funext k
  simp only [gup]
  split
  · next hk => rw [hk, h]
  · rfl
theorem gup_comm {u : gW} {n k : Nat} {e e' : va_E} (h : n ≠ k) : gup (gup u n e) k e' = gup (gup u k e') n e := by
  funext j
  simp only [gup]
  by_cases h1 : j = k
  · have : ¬ j = n := fun h2 => h (h2.symm.trans h1)
    simp [h1, Ne.symm h]
  · simp [h1]
section GLOOP
variable {Z : gZ} {R : Room} {nL : Nat} {E : gE} {ad : Nat → Nat} {sz cells slots pc : Nat} {st : List Value}
theorem GW_eq {u u2 : gW} {lv lv2 : List (Nat × Value)} (hu : u = u2) (hl : lv = lv2) (k : GW Z R nL E ad u2 sz lv2 cells slots pc st) : GW Z R nL E ad u sz lv cells slots pc st := by rw [hu, hl]; exact k
theorem g_loop (N : Nat) (P : Nat → Prop) (w : Nat → gW) (lv : Nat → List (Nat × Value)) (hs : ∀ i, i < N → P i → (P (i + 1) → GW Z R nL E ad (w (i + 1)) sz (lv (i + 1)) cells slots pc st) → GW Z R nL E ad (w i) sz (lv i) cells slots pc st) (hx : P N → GW Z R nL E ad (w N) sz (lv N) cells slots pc st) : ∀ i, i ≤ N → P i → GW Z R nL E ad (w i) sz (lv i) cells slots pc st := by
  have H : ∀ n i, i + n = N → P i → GW Z R nL E ad (w i) sz (lv i) cells slots pc st := by
    intro n
    induction n with
    | zero => intro i h hp; have e : i = N := by omega
              subst e; exact hx hp
    | succ n ih => intro i h hp; exact hs i (by omega) hp (ih (i + 1) (by omega))
  exact fun i h => H (N - i) i (by omega)
end GLOOP
theorem ge12 {i : Nat} (h : i < 12) : ¬ (12 : Int32) ≤ nI i := (show ∀ i, i < 12 → ¬ (12 : Int32) ≤ nI i by decide +kernel) i h
theorem in12 {i : Nat} (h : i < 12) : vp_in (nI i) 12 := vp_in_nI h (by decide)
theorem cl12 {i : Nat} (h : i < 12) : (nI i).toNatClampNeg = i := nI_clamp (by omega)
/-- the first i places of an array are all v -/
def fillI (f : Nat → Int32) (v : Int32) (i : Nat) : Nat → Int32 := fun j => if j < i then v else f j
def fillL (f : Nat → Int64) (v : Int64) (i : Nat) : Nat → Int64 := fun j => if j < i then v else f j
theorem fillI_0 (f : Nat → Int32) (v : Int32) : fillI f v 0 = f := by funext j; simp [fillI]
theorem fillL_0 (f : Nat → Int64) (v : Int64) : fillL f v 0 = f := by funext j; simp [fillL]
theorem fillI_s (f : Nat → Int32) (v : Int32) (i : Nat) : upd (fillI f v i) i v = fillI f v (i + 1) := by
  funext j
  simp only [upd, fillI]
  repeat' split
  all_goals first | rfl | omega
theorem fillL_s (f : Nat → Int64) (v : Int64) (i : Nat) : vp_updL (fillL f v i) i v = fillL f v (i + 1) := by
  funext j
  simp only [vp_updL, fillL]
  repeat' split
  all_goals first | rfl | omega
theorem in12x {x : Int32} (h0 : ¬ x < 0) (h : x < 12) : vp_in x 12 := by
  rw [vp_in_iff]
  rw [Int32.lt_iff_toInt_lt] at h0 h
  have e1 : (0 : Int32).toInt = 0 := by decide
  have e2 : (12 : Int32).toInt = 12 := by decide
  omega
/-- the first i places are g's, the others f's -/
def mapL (f g : Nat → Int64) (i : Nat) : Nat → Int64 := fun j => if j < i then g j else f j
def mapI (f g : Nat → Int32) (i : Nat) : Nat → Int32 := fun j => if j < i then g j else f j
theorem mapL_0 (f g : Nat → Int64) : mapL f g 0 = f := by funext j; simp [mapL]
theorem mapI_0 (f g : Nat → Int32) : mapI f g 0 = f := by funext j; simp [mapI]
theorem mapL_at (f g : Nat → Int64) (i : Nat) : mapL f g i i = f i := by simp [mapL]
theorem mapI_at (f g : Nat → Int32) (i : Nat) : mapI f g i i = f i := by simp [mapI]
theorem mapL_s {f g : Nat → Int64} {i : Nat} {x : Int64} (h : x = g i) : vp_updL (mapL f g i) i x = mapL f g (i + 1) := by
  funext j
  simp only [vp_updL, mapL]
  by_cases h1 : j = i
  · subst h1; simp [h]
  · by_cases h2 : j < i
    · simp [h1, h2, show j < i + 1 by omega]
    · simp [h1, h2, show ¬ j < i + 1 by omega]
theorem mapI_s {f g : Nat → Int32} {i : Nat} {x : Int32} (h : x = g i) : upd (mapI f g i) i x = mapI f g (i + 1) := by
  funext j
  simp only [upd, mapI]
  by_cases h1 : j = i
  · subst h1; simp [h]
  · by_cases h2 : j < i
    · simp [h1, h2, show j < i + 1 by omega]
    · simp [h1, h2, show ¬ j < i + 1 by omega]
theorem mapL_k {f g : Nat → Int64} {i : Nat} (h : g i = f i) : mapL f g (i + 1) = mapL f g i := by
  funext j
  simp only [mapL]
  by_cases h1 : j = i
  · subst h1; simp [h]
  · by_cases h2 : j < i
    · simp [h2, show j < i + 1 by omega]
    · simp [h2, show ¬ j < i + 1 by omega]
/-- sums -/
def sumL (f : Nat → Int64) : Nat → Int64
  | 0 => 0
  | i + 1 => sumL f i + f i
