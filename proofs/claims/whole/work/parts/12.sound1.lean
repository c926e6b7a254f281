abbrev Zc : Type := Nat × Zl × List Zv × Zh
def z_n (e : Ze) (pc : Nat) (ls : Zl) (st : List Zv) (h : Zh) : Option Zc := z_st e pc ls st h (fun a b c d => some (a, b, c, d))
section ZB
variable {β : Type}
theorem z_rd_b (h : Zh) (kd a : Nat) (i : Int) (K : Int → Option β) : z_rd h kd a i K = (z_rd h kd a i some).bind K := by
  unfold z_rd; repeat' split
  all_goals first | rfl | simp_all
theorem z_len_b (h : Zh) (a : Nat) (K : Int → Option β) : z_len h a K = (z_len h a some).bind K := by
  unfold z_len; repeat' split
  all_goals first | rfl | simp_all
theorem z_wr_b (h : Zh) (kd a : Nat) (i v : Int) (K : Zh → Option β) : z_wr h kd a i v K = (z_wr h kd a i v some).bind K := by
  unfold z_wr; repeat' split
  all_goals first | rfl | simp_all
theorem z_get_b (h : Zh) (a x y z : Nat) (K : Zv → Option β) : z_get h a x y z K = (z_get h a x y z some).bind K := by
  unfold z_get; repeat' split
  all_goals first | rfl | simp_all
theorem z_puti_b (h : Zh) (a x y z : Nat) (v : Int) (K : Zh → Option β) : z_puti h a x y z v K = (z_puti h a x y z v some).bind K := by
  unfold z_puti; repeat' split
  all_goals first | rfl | simp_all
theorem z_putr_b (h : Zh) (a x y z r : Nat) (K : Zh → Option β) : z_putr h a x y z r K = (z_putr h a x y z r some).bind K := by
  unfold z_putr; repeat' split
  all_goals first | rfl | simp_all
theorem z_rdq_b (h : Zh) (a : Nat) (i : Int) (K : Nat → Option β) : z_rdq h a i K = (z_rdq h a i some).bind K := by
  unfold z_rdq; repeat' split
  all_goals first | rfl | simp_all
theorem z_wrq_b (h : Zh) (a r : Nat) (i : Int) (K : Zh → Option β) : z_wrq h a r i K = (z_wrq h a r i some).bind K := by
  unfold z_wrq; repeat' split
  all_goals first | rfl | simp_all
theorem z_sw_b (x : Int) (K : Nat → Option β) (d : Nat) : ∀ (l : List Nat) (lo : Int), z_sw x lo K d l = (z_sw x lo some d l).bind K
  | [], lo => rfl
  | t :: ts, lo => by
    unfold z_sw
    split
    · rfl
    · exact z_sw_b x K d ts (lo + 1)
set_option maxHeartbeats 4000000 in
theorem z_st_b (e : Ze) (pc : Nat) (ls : Zl) (st : List Zv) (h : Zh) (K : Zk β) : z_st e pc ls st h K = (z_n e pc ls st h).bind (fun q => K q.1 q.2.1 q.2.2.1 q.2.2.2) := by
  obtain ⟨i, len, x, y, z⟩ := e
  cases i
  all_goals first
    | rfl
    | (simp only [z_n, z_st]
       repeat' split
       all_goals first
         | rfl
                  | (rw [z_rd_b (β := Zc), z_rd_b (β := β)]; cases z_rd h _ _ _ some <;> rfl)
         | (rw [z_len_b (β := Zc), z_len_b (β := β)]; cases z_len h _ some <;> rfl)
         | (rw [z_wr_b (β := Zc), z_wr_b (β := β)]; cases z_wr h _ _ _ _ some <;> rfl)
         | (rw [z_get_b (β := Zc), z_get_b (β := β)]; cases z_get h _ _ _ _ some <;> rfl)
         | (rw [z_puti_b (β := Zc), z_puti_b (β := β)]; cases z_puti h _ _ _ _ _ some <;> rfl)
         | (rw [z_putr_b (β := Zc), z_putr_b (β := β)]; cases z_putr h _ _ _ _ _ some <;> rfl)
         | (rw [z_rdq_b (β := Zc), z_rdq_b (β := β)]; cases z_rdq h _ _ some <;> rfl)
         | (rw [z_wrq_b (β := Zc), z_wrq_b (β := β)]; cases z_wrq h _ _ _ some <;> rfl)
         | (rw [z_sw_b (β := Zc), z_sw_b (β := β)]; cases z_sw _ _ some _ _ <;> rfl)
         | simp_all)
end ZB
