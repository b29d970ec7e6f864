/-! conditions that a walk carries along -/
theorem x_okt {c A B : Prop} [inst : Decidable c] (h : if c then A else B) (z : c) : A := by rwa [if_pos z] at h
theorem x_okf {c A B : Prop} [inst : Decidable c] (h : if c then A else B) (z : ¬ c) : B := by rwa [if_neg z] at h
theorem x_lete {α : Type} {v : α} {g : α → Prop} (h : x_let v g) : g v := h
