
def fa_fill {α : Type} (f g : Nat → α) (i : Nat) : Nat → α := fun k => if k < i then f k else g k
def rI : rT := (fun j => ([0, 0, 0, 0, 0, 8, 0, 5, 1, 0, 1] : List Int32).getD j 0, fun _ _ => 0, fun _ => none)
def sI : sT := (fun j => ([0, -1, 0] : List Int32).getD j 0, fun _ => 0)
def oI : oT := (fun _ => 0, fun _ _ => 0)
def vI : vT := (fun _ => 0, fun _ => 0, none)
def eI : e2T := (fun j => ([0, -1, 0, 0, 0, 0, 0] : List Int32).getD j 0, fun _ => 0)
def nI0 : nT := (fun j => ([0, 0, 0, 0, 0, 0, 0, 0, 0, 0, -1, 0] : List Int32).getD j 0, fun _ => 0)
def t_words : Nat → Int32 := fun j => ([99, 111, 109, 101, 114, 32, 0, 100, 111, 117, 98, 116, 32, 0, 119, 97, 121, 32, 0, 102, 111, 103, 32, 0, 116, 111, 108, 108, 32, 0, 112, 117, 115, 104, 32, 0] : List Int32).getD j 0
def t_numbers : Nat → Int32 := fun j => ([6, 2, 1, 1, 1, 1] : List Int32).getD j 0
def t_mosts : Nat → Int32 := fun j => ([6, 9, 30, 9, 9, 99] : List Int32).getD j 0
def mI : mT := (fun j => if j = 1 then 8 else if j = 3 then 5 else if j = 4 then 1 else if j = 6 then 1 else if j = 7 then -1 else 0, fun j => if j = 22 then fa_fill t_words (fun _ => 0) 36 else if j = 23 then fa_fill t_numbers (fun _ => 0) 6 else if j = 24 then fa_fill t_mosts (fun _ => 0) 6 else fun _ => 0, fun _ _ => 0)
