/-! ===== the first state ===== -/
def z0 : zSt := (fun k _ _ => if k = 2 ∨ k = 4 then -1 else 0, fun _ _ f => if f = 13 ∨ f = 4 then 1 else 0, fun a => if a = 22 then m1 6 else if a = 24 then m1 4 else if a = 30 then m1 3 else fun _ => 0)
theorem m1_at : ∀ n j, j < n → m1 n j = -1
  | 0, j, h => absurd h (by omega)
  | n + 1, j, h => by
    rw [m1, upd_at]
    by_cases e : j = n
    · rw [if_pos e]
    · rw [if_neg e]
      exact m1_at n j (by omega)
theorem RR_0 : RR z0 := by
  refine ⟨⟨⟨rfl, fun _ _ => rfl⟩, rfl, rfl, rfl⟩, fun j hj => ⟨?_, Or.inl rfl⟩, fun j hj => ⟨?_, Or.inl rfl⟩, fun f _ => s9_0, Or.inl ⟨rfl, rfl, rfl, fun _ _ => rfl, fun k hk => ⟨rfl, ?_⟩⟩⟩
  · exact m1_at 6 j hj
  · exact m1_at 4 j hj
  · exact m1_at 3 k hk
/-! the addresses -/
def adT (a b : Nat → Nat) (t r : Nat) : List (List Nat) := [[a 0], [a 7, a 8, a 10], [a 34, a 37, a 40, a 4], [a 9], [a 14, a 16, a 18, a 20, a 22, a 24, a 26, a 28, a 30, a 32], [b 0],
  [a 15, a 17, a 19, a 21, a 23, a 25, a 27, a 29, a 31, a 33, a 35, a 38, a 41, a 5, a 36, a 39, a 42, a 6, a 11, a 12, a 13, b 1, b 2, b 3, b 4, b 6, b 7, b 8, b 9, b 10, b 11, b 12, b 13], [b 5], [a 1, a 2], [a 3], [], [t], [r]]
def adF (a b : Nat → Nat) (t r : Nat) : Nat → Nat → Nat := fun k j => ((adT a b t r).getD k []).getD j 0
def pl : List Nat := [0, 7, 8, 10, 34, 37, 40, 4, 9, 14, 16, 18, 20, 22, 24, 26, 28, 30, 32, 43, 15, 17, 19, 21, 23, 25, 27, 29, 31, 33, 35, 38, 41, 5, 36, 39, 42, 6, 11, 12, 13, 44, 45, 46, 47, 49, 50, 51, 52, 53, 54, 55, 56, 48, 1, 2, 3]
def plA : List Nat := [0, 7, 8, 10, 34, 37, 40, 4, 9, 14, 16, 18, 20, 22, 24, 26, 28, 30, 32, 43, 15, 17, 19, 21, 23, 25, 27, 29, 31, 33, 35, 38, 41, 5, 36, 39, 42, 6, 11, 12, 13, 44, 45, 46, 47, 49, 50, 51, 52, 53, 54, 55, 56, 48]
theorem upN_at (A : Nat → Nat) : ∀ n j, j < n → upN A n j = some (A j)
  | 0, j, h => absurd h (by omega)
  | n + 1, j, h => by
    show (if j = n then some (A n) else upN A n j) = _
    by_cases e : j = n
    · rw [if_pos e, e]
    · rw [if_neg e]
      exact upN_at A n j (by omega)
theorem cell_q {cA : ClassId} {n : Nat} {f g : Nat → Option Nat} (h : ∀ i, i < n → f i = g i) : vp_cell cA (n, .inr (.inr (.inr (.inr f)))) = vp_cell cA (n, .inr (.inr (.inr (.inr g)))) := by
  rw [vp_cell_q, vp_cell_q]
  unfold arrV
  congr 2
  funext j
  show va_rf (f j.val) = va_rf (g j.val)
  rw [h j.val j.isLt]
def zidA : List (Nat × Nat) := [(0, 0), (1, 0), (1, 1), (1, 2), (2, 0), (2, 1), (2, 2), (2, 3), (3, 0), (4, 0), (4, 1), (4, 2), (4, 3), (4, 4), (4, 5), (4, 6), (4, 7), (4, 8), (4, 9), (5, 0),
  (6, 0), (6, 1), (6, 2), (6, 3), (6, 4), (6, 5), (6, 6), (6, 7), (6, 8), (6, 9), (6, 10), (6, 11), (6, 12), (6, 13), (6, 14), (6, 15), (6, 16), (6, 17), (6, 18), (6, 19), (6, 20), (6, 21), (6, 22), (6, 23), (6, 24), (6, 25), (6, 26), (6, 27), (6, 28), (6, 29), (6, 30), (6, 31), (6, 32), (7, 0)]
theorem zids_eq : zids = zidA ++ [(8, 0), (8, 1), (9, 0)] := by decide +kernel
theorem zw_A (G : zG) (a b : Nat → Nat) (t r : Nat) : plA.filterMap (fun i => (wX G a ++ wM G b)[i]?) = zidA.map (fun q => (adF a b t r q.1 q.2, ze G (adF a b t r) z0 q.1 q.2)) := rfl
theorem P_one {D : va_G} {cl : List vw_C} {H : Heap} {q : Nat × va_E} (h : va_at D cl q H) : va_P D cl [q] H := by
  intro k x hx
  have hz : k < 1 := (List.getElem?_eq_some_iff.mp hx).1
  rw [show k = 0 by omega] at hx
  cases hx
  exact h
theorem zP0 {G : zG} {a b : Nat → Nat} {H : Heap} (t r : Nat) (hP : va_P G.1 vwCl (wX G a ++ wM G b) H) : va_P G.1 vwCl (zw G (adF a b t r) z0) H := by
  unfold zw
  rw [zids_eq, List.map_append]
  refine (hP.sub plA (zw_A G a b t r)).app ?_
  have h1 : va_at G.1 vwCl (a 1, ze G (adF a b t r) z0 8 0) H := by
    have h := hP 1 (a 1, aR G 6 (upN (fun i => a (14 + 2 * i)) 6)) rfl
    refine Eq.trans (show H[a 1]? = _ from h) (congrArg some (cell_q fun i hi => ?_))
    rw [upN_at _ 6 i hi]
    rcases (show i = 0 ∨ i = 1 ∨ i = 2 ∨ i = 3 ∨ i = 4 ∨ i = 5 by omega) with rfl | rfl | rfl | rfl | rfl | rfl <;> rfl
  have h2 : va_at G.1 vwCl (a 2, ze G (adF a b t r) z0 8 1) H := by
    have h := hP 2 (a 2, aR G 4 (upN (fun i => a (26 + 2 * i)) 4)) rfl
    refine Eq.trans (show H[a 2]? = _ from h) (congrArg some (cell_q fun i hi => ?_))
    rw [upN_at _ 4 i hi]
    rcases (show i = 0 ∨ i = 1 ∨ i = 2 ∨ i = 3 by omega) with rfl | rfl | rfl | rfl <;> rfl
  have h3 : va_at G.1 vwCl (a 3, ze G (adF a b t r) z0 9 0) H := by
    have h := hP 3 (a 3, aP G 3 (upN (fun i => a (34 + 3 * i)) 3)) rfl
    refine Eq.trans (show H[a 3]? = _ from h) (congrArg some (cell_q fun i hi => ?_))
    rw [upN_at _ 3 i hi]
    rcases (show i = 0 ∨ i = 1 ∨ i = 2 by omega) with rfl | rfl | rfl <;> rfl
  exact (P_one h1).app ((P_one h2).app (P_one h3))
theorem zad_eq (G : zG) (a b : Nat → Nat) (t r : Nat) : (pl.filterMap (fun i => (wX G a ++ wM G b)[i]?)).map Prod.fst = zids.map (fun q => adF a b t r q.1 q.2) := by
  rw [zids_eq]
  rfl
theorem zI0 {G : zG} {a b : Nat → Nat} {A : Nat → Prop} (t r : Nat) (hD : va_D A (wX G a ++ wM G b)) : zInj (adF a b t r) ∧ ∀ q, zA (adF a b t r) q → A q := by
  have hL : va_D A (pl.filterMap (fun i => (wX G a ++ wM G b)[i]?)) := hD.sub pl (by decide) rfl
  have key : ∀ k j, zok k j → ∃ (i : Nat) (e : va_E), zids[i]? = some (k, j) ∧ (pl.filterMap (fun i => (wX G a ++ wM G b)[i]?))[i]? = some (adF a b t r k j, e) := fun k j hk => by
    obtain ⟨i, hi⟩ := zids_at hk
    have h2 : ((pl.filterMap (fun i => (wX G a ++ wM G b)[i]?)).map Prod.fst)[i]? = some (adF a b t r k j) := by
      rw [zad_eq G a b t r, List.getElem?_map, hi]
      rfl
    rw [List.getElem?_map] at h2
    cases hz : (pl.filterMap (fun i => (wX G a ++ wM G b)[i]?))[i]? with
    | none => rw [hz] at h2; cases h2
    | some x =>
      rw [hz] at h2
      obtain ⟨u, v⟩ := x
      have h3 : u = adF a b t r k j := Option.some.inj h2
      subst h3
      exact ⟨i, v, hi, hz⟩
  refine ⟨fun k j k' j' h1 h2 e => ?_, fun q hq => ?_⟩
  · obtain ⟨i, v, a1, a2⟩ := key k j h1
    obtain ⟨i', v', b1, b2⟩ := key k' j' h2
    have := hL.1 i i' _ _ a2 b2 e
    subst this
    have h3 := Option.some.inj (a1.symm.trans b1)
    exact ⟨congrArg Prod.fst h3, congrArg Prod.snd h3⟩
  · obtain ⟨k, j, h1, rfl⟩ := hq
    obtain ⟨i, v, _, a2⟩ := key k j h1
    exact hL.2 i _ a2
