/-! the second machine's steps -/
/-- how many cells and slots a constructor takes -/
def cz (c : Nat) : Nat × Nat := match c with
  | 0 => (16, 0)
  | _ => (0, 0)
section AlS
variable {β : Type}
def al_new (lim : Nat × Nat) (S : al_S) (sl : Nat) (κ : al_S → Option β) (k : Nat × Nat) : Option β :=
  bif Nat.ble (S.1 + 1) lim.1 && (Nat.ble (S.2.1 + sl) lim.2 && Nat.ble (S.1 + 1) 1000000) then κ (S.1 + 1, S.2.1 + sl, (S.1, k) :: S.2.2.1, S.2.2.2.1, S.2.2.2.2) else none
end AlS
