/-! ===== words of one list among another's, shown place by place ===== -/
theorem fw_n {B : List Cond} : ∀ w ∈ ([] : List Cond), w ∈ B := fun _ h => absurd h List.not_mem_nil
theorem fw_c {B l : List Cond} {a : Cond} (h : a ∈ B) (t : ∀ w ∈ l, w ∈ B) : ∀ w ∈ a :: l, w ∈ B := List.forall_mem_cons.mpr ⟨h, t⟩
theorem fw_a {B k l : List Cond} (h : ∀ w ∈ k, w ∈ B) (t : ∀ w ∈ l, w ∈ B) : ∀ w ∈ k ++ l, w ∈ B := List.forall_mem_append.mpr ⟨h, t⟩
theorem fw_l {w : Cond} {k l : List Cond} (h : w ∈ k) : w ∈ k ++ l := List.mem_append.mpr (Or.inl h)
theorem fw_r {w : Cond} {k l : List Cond} (h : w ∈ l) : w ∈ k ++ l := List.mem_append.mpr (Or.inr h)
theorem fw_h {w : Cond} {l : List Cond} : w ∈ w :: l := List.Mem.head _
theorem fw_t {w b : Cond} {l : List Cond} (h : w ∈ l) : w ∈ b :: l := List.Mem.tail _ h
