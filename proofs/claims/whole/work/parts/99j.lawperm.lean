/-! the blocks of the law's world, in other orders -/
theorem perm_c {α : Type} {l1 l2 : List α} (h : ∀ (inst : DecidableEq α) (x : α), l1.count x = l2.count x) : l1.Perm l2 := by
  classical
  exact List.perm_iff_count.mpr (fun x => h _ x)
theorem pm_nf (n r q d e o t u v f m : va_W) : (n ++ (r ++ (q ++ (d ++ (e ++ (o ++ (t ++ (u ++ (v ++ (f ++ m)))))))))).Perm ((n ++ f) ++ (r ++ (q ++ (d ++ (e ++ (o ++ (t ++ (u ++ (v ++ m))))))))) := perm_c fun inst x => by
  simp only [List.count_append] <;> omega
theorem pm_m (n r q d e o t u v f m : va_W) : (n ++ (r ++ (q ++ (d ++ (e ++ (o ++ (t ++ (u ++ (v ++ (f ++ m)))))))))).Perm ((m) ++ (n ++ (r ++ (q ++ (d ++ (e ++ (o ++ (t ++ (u ++ (v ++ f)))))))))) := perm_c fun inst x => by
  simp only [List.count_append] <;> omega
theorem pm_nrf (n r q d e o t u v f m : va_W) : (n ++ (r ++ (q ++ (d ++ (e ++ (o ++ (t ++ (u ++ (v ++ (f ++ m)))))))))).Perm ((n ++ r ++ f) ++ (q ++ (d ++ (e ++ (o ++ (t ++ (u ++ (v ++ m)))))))) := perm_c fun inst x => by
  simp only [List.count_append] <;> omega
theorem pm_nr (n r q d e o t u v f m : va_W) : (n ++ (r ++ (q ++ (d ++ (e ++ (o ++ (t ++ (u ++ (v ++ (f ++ m)))))))))).Perm ((n ++ r) ++ (q ++ (d ++ (e ++ (o ++ (t ++ (u ++ (v ++ (f ++ m))))))))) := perm_c fun inst x => by
  simp only [List.count_append] <;> omega
theorem pm_nrdef (n r q d e o t u v f m : va_W) : (n ++ (r ++ (q ++ (d ++ (e ++ (o ++ (t ++ (u ++ (v ++ (f ++ m)))))))))).Perm ((n ++ r ++ d ++ e ++ f) ++ (q ++ (o ++ (t ++ (u ++ (v ++ m)))))) := perm_c fun inst x => by
  simp only [List.count_append] <;> omega
theorem pm_n (n r q d e o t u v f m : va_W) : (n ++ (r ++ (q ++ (d ++ (e ++ (o ++ (t ++ (u ++ (v ++ (f ++ m)))))))))).Perm ((n) ++ (r ++ (q ++ (d ++ (e ++ (o ++ (t ++ (u ++ (v ++ (f ++ m)))))))))) := perm_c fun inst x => by
  simp only [List.count_append] <;> omega
theorem pm_nrof (n r q d e o t u v f m : va_W) : (n ++ (r ++ (q ++ (d ++ (e ++ (o ++ (t ++ (u ++ (v ++ (f ++ m)))))))))).Perm ((n ++ r ++ o ++ f) ++ (q ++ (d ++ (e ++ (t ++ (u ++ (v ++ m))))))) := perm_c fun inst x => by
  simp only [List.count_append] <;> omega
theorem pm_nrtu (n r q d e o t u v f m : va_W) : (n ++ (r ++ (q ++ (d ++ (e ++ (o ++ (t ++ (u ++ (v ++ (f ++ m)))))))))).Perm ((n ++ r ++ t ++ u) ++ (q ++ (d ++ (e ++ (o ++ (v ++ (f ++ m))))))) := perm_c fun inst x => by
  simp only [List.count_append] <;> omega
theorem pm_nro (n r q d e o t u v f m : va_W) : (n ++ (r ++ (q ++ (d ++ (e ++ (o ++ (t ++ (u ++ (v ++ (f ++ m)))))))))).Perm ((n ++ r ++ o) ++ (q ++ (d ++ (e ++ (t ++ (u ++ (v ++ (f ++ m)))))))) := perm_c fun inst x => by
  simp only [List.count_append] <;> omega
theorem pm_nrv (n r q d e o t u v f m : va_W) : (n ++ (r ++ (q ++ (d ++ (e ++ (o ++ (t ++ (u ++ (v ++ (f ++ m)))))))))).Perm ((n ++ r ++ v) ++ (q ++ (d ++ (e ++ (o ++ (t ++ (u ++ (f ++ m)))))))) := perm_c fun inst x => by
  simp only [List.count_append] <;> omega
theorem pm_nv (n r q d e o t u v f m : va_W) : (n ++ (r ++ (q ++ (d ++ (e ++ (o ++ (t ++ (u ++ (v ++ (f ++ m)))))))))).Perm ((n ++ v) ++ (r ++ (q ++ (d ++ (e ++ (o ++ (t ++ (u ++ (f ++ m))))))))) := perm_c fun inst x => by
  simp only [List.count_append] <;> omega
theorem pm_nrq (n r q d e o t u v f m : va_W) : (n ++ (r ++ (q ++ (d ++ (e ++ (o ++ (t ++ (u ++ (v ++ (f ++ m)))))))))).Perm ((n ++ r ++ q) ++ (d ++ (e ++ (o ++ (t ++ (u ++ (v ++ (f ++ m)))))))) := perm_c fun inst x => by
  simp only [List.count_append] <;> omega
theorem pm_nrqf (n r q d e o t u v f m : va_W) : (n ++ (r ++ (q ++ (d ++ (e ++ (o ++ (t ++ (u ++ (v ++ (f ++ m)))))))))).Perm ((n ++ r ++ q ++ f) ++ (d ++ (e ++ (o ++ (t ++ (u ++ (v ++ m))))))) := perm_c fun inst x => by
  simp only [List.count_append] <;> omega
