/-! AN AGENT as a mathematical value: its numbers (0 number, 1 script, 2 place, 3 fuel, 4 hops, 5 said, 6 wait, 7 cloned), its stack, its pairs; what an instruction does to it -/
abbrev ag_T : Type := (Nat → Nat) × List bf_V × List (bf_V × bf_V)
def ag_fn (prs : List (bf_V × bf_V)) : Nat → bf_V × bf_V := fun k => prs.getD k (.inl 0, .inl 0)
def ag_can (A : ag_T) : ag_T := (A.1, bf_canS (ag_fn A.2.2) 9 A.2.1, bf_canP (ag_fn A.2.2) 9 A.2.1)
def ag_in (n : Nat) (v : bf_V) : Prop := bf_in (fun k => k < n) v
/-- its rows have room, its values speak of its own pairs -/
def ag_ok (A : ag_T) : Prop := A.2.1.length ≤ 6 ∧ A.2.2.length ≤ 8 ∧ (∀ v ∈ A.2.1, ag_in A.2.2.length v) ∧ (∀ q ∈ A.2.2, ag_in A.2.2.length q.1 ∧ ag_in A.2.2.length q.2)
/-- the class's traveller at o holds the agent -/
def hc_A (M : fm_M) (o : Nat) (A : ag_T) : Prop := (∀ k, k < 8 → M.1 o k = nI (A.1 k)) ∧ M.1 o 8 = nI A.2.1.length ∧ M.1 o 9 = nI A.2.2.length ∧ (∀ k v, A.2.1[k]? = some v → M.2.1 (o + 1) k = e64 v) ∧ (∀ k q, A.2.2[k]? = some q → M.2.1 (o + 2) k = e64 q.1 ∧ M.2.1 (o + 3) k = e64 q.2)
/-- the reference's agent r holds it, but for the numbers of its pairs (and its wait, where F says that nobody looks at it) -/
def hr_A (M : fm_M) (r : Nat) (F : Nat → Prop) (A : ag_T) : Prop := (∀ k, 1 ≤ k → k < 8 → F k → M.1 (604 + k) r = nI (A.1 k)) ∧ M.1 612 r = nI A.2.1.length ∧ ∃ g : Nat → Nat, (∀ a, a < A.2.2.length → g a < 9) ∧ bf_inj (fun a => a < A.2.2.length) g ∧ (∀ k v, A.2.1[k]? = some v → M.2.1 613 (6 * r + k) = e64 (bf_map g v)) ∧ (∀ k q, A.2.2[k]? = some q → M.2.1 615 (9 * r + g k) = e64 (bf_map g q.1) ∧ M.2.1 616 (9 * r + g k) = e64 (bf_map g q.2))
def ag_sz (c : Nat) : Nat := if c = 1 ∨ c = 5 ∨ c = 7 ∨ c = 10 ∨ c = 11 then 2 else 1
def ag_tk (c : Nat) : Nat := ([0, 0, 2, 2, 2, 0, 1, 0, 1, 1, 0, 1, 1, 1, 2, 1, 1, 2, 2, 2] : List Nat).getD c 0
def ag_gv (c : Nat) : Nat := ([0, 1, 1, 1, 1, 1, 0, 1, 0, 0, 0, 0, 1, 0, 1, 1, 1, 0, 0, 1] : List Nat).getD c 0
def ag_lo (c : Nat) : Nat := ([0, 0, 1, 1, 1, 0, 0, 0, 1, 1, 0, 1, 1, 1, 0, 2, 2, 2, 2, 0] : List Nat).getD c 0
def ag_up (c : Nat) : Nat := ([0, 0, 1, 1, 1, 0, 0, 0, 1, 1, 0, 1, 1, 1, 0, 2, 2, 0, 0, 0] : List Nat).getD c 0
def ag_read (sc : List Nat) (pl : Nat) : Option (Nat × Nat) := match sc[pl]? with
  | none => none
  | some c => if 19 < c then none else if ag_sz c = 2 then (match sc[pl + 1]? with
    | none => none
    | some y => some (c, y)) else some (c, 0)
def ag_kind (v : bf_V) (k : Nat) : Bool := match v with
  | .inl _ => k != 2
  | .inr _ => k != 1
def ag_low (c : Nat) (A : ag_T) : bf_V := A.2.1.getD (A.2.1.length - ag_tk c) (.inl 0)
def ag_upp (A : ag_T) : bf_V := A.2.1.getD (A.2.1.length - 1) (.inl 0)
def ag_int (v : bf_V) : Int32 := match v with
  | .inl y => y
  | .inr _ => 0
def ag_prn (v : bf_V) : Nat := match v with
  | .inl _ => 0
  | .inr k => k
def ag_takes (c : Nat) (A : ag_T) : Bool := decide (ag_tk c ≤ A.2.1.length) && decide (A.2.1.length - ag_tk c + ag_gv c ≤ 6) && (ag_tk c == 0 || (ag_kind (ag_low c A) (ag_lo c) && ag_kind (ag_upp A) (ag_up c)))
def ag_bnd (c y : Nat) (A : ag_T) : Bool := match c with
  | 5 => decide (y < A.2.1.length)
  | 7 => decide (y < 8)
  | 8 => decide (A.1 5 < 16)
  | 9 => decide (0 ≤ ag_int (ag_upp A)) && decide (ag_int (ag_upp A) < 4)
  | 13 => decide (0 ≤ ag_int (ag_upp A)) && decide (ag_int (ag_upp A) ≤ 20)
  | 14 => decide (A.2.2.length < 8)
  | _ => true
/-- what the instruction does, ahead of the numbering: what it asks (0 nothing, 1 say, 2 go, 3 clone, 4 end), with what, and the agent -/
def ag_do (c y : Nat) (tb : Nat → Int32) (here : Nat) (N : Nat → Nat) (stk : List bf_V) (prs : List (bf_V × bf_V)) (lo up : bf_V) : Nat × Int32 × ag_T := match c with
  | 0 => (4, 0, N, stk, prs)
  | 1 => (0, 0, N, stk ++ [.inl (nI y).toInt8.toInt32], prs)
  | 2 => (0, 0, N, stk ++ [.inl (ag_int lo + ag_int up)], prs)
  | 3 => (0, 0, N, stk ++ [.inl (ag_int lo - ag_int up)], prs)
  | 4 => (0, 0, N, stk ++ [.inl (ag_int lo * ag_int up)], prs)
  | 5 => (0, 0, N, stk ++ [stk.getD (stk.length - 1 - y) (.inl 0)], prs)
  | 7 => (0, 0, N, stk ++ [.inl (tb y)], prs)
  | 8 => (1, ag_int up, va_up N 5 (N 5 + 1), stk, prs)
  | 9 => if ag_int up = nI here then (0, 0, N, stk, prs) else (2, ag_int up, va_up N 4 (N 4 + 1), stk, prs)
  | 10 => (0, 0, va_up N 2 y, stk, prs)
  | 11 => (0, 0, if ag_int up = 0 then N else va_up N 2 y, stk, prs)
  | 12 => if 4 ≤ N 0 ∨ N 7 ≠ 0 ∨ ag_int up < 1 ∨ nI (N 3) < ag_int up then (0, 0, N, stk ++ [.inl (-1)], prs) else (3, ag_int up, va_up (va_up N 3 (N 3 - (ag_int up).toInt.toNat)) 7 1, stk ++ [.inl 0], prs)
  | 13 => (0, 0, va_up N 6 (ag_int up).toInt.toNat, stk, prs)
  | 14 => (0, 0, N, stk ++ [.inr prs.length], prs ++ [(lo, up)])
  | 15 => (0, 0, N, stk ++ [(ag_fn prs (ag_prn lo)).1], prs)
  | 16 => (0, 0, N, stk ++ [(ag_fn prs (ag_prn lo)).2], prs)
  | 17 => (0, 0, N, stk, prs.set (ag_prn lo) (up, (ag_fn prs (ag_prn lo)).2))
  | 18 => (0, 0, N, stk, prs.set (ag_prn lo) ((ag_fn prs (ag_prn lo)).1, up))
  | 19 => (0, 0, N, stk ++ [.inl (if lo = up then 1 else 0)], prs)
  | _ => (0, 0, N, stk, prs)
/-- one instruction: its fuel is gone in any case; 5: it fails -/
def ag_step (sc : List Nat) (tb : Nat → Int32) (here : Nat) (A : ag_T) : Nat × Int32 × ag_T :=
  let N1 := va_up A.1 3 (A.1 3 - 1)
  match ag_read sc (A.1 2) with
  | none => (5, 0, N1, A.2)
  | some (c, y) => if ag_takes c A && ag_bnd c y A then
      let d := ag_do c y tb here (va_up N1 2 (A.1 2 + ag_sz c)) (A.2.1.take (A.2.1.length - ag_tk c)) A.2.2 (ag_low c A) (ag_upp A)
      (d.1, d.2.1, ag_can d.2.2)
    else (5, 0, N1, A.2)
