theorem en_sw_nat {ρ : Type} (x : Int32) (g : en_O → Option ρ) (d : Option en_O) (f : Nat → Option en_O) : ∀ l, en_sw x (d.bind g) (fun j => (f j).bind g) l = (en_sw x d f l).bind g
  | [] => rfl
  | p :: l => by
    simp only [en_sw]
    split
    · rfl
    · exact en_sw_nat x g d f l
