-- ===== PART A: goes FIRST, ahead of the names: the tables' words, and 'selects' of the private methods out of them =====
/-- a private method of a class that the tables say can be made, by its rows of tables_1 -/
def lw_okq (q : MethodName × Nat) : Prop := (q.1.cls ≠ "java/lang/invoke/MethodHandle" ∧ q.1.cls ≠ "java/lang/invoke/VarHandle") ∧ Cond.instantiable q.1.cls q.2 ∈ tables_1 ∧ Cond.privateMethod q.1 ∈ tables_1 ∧ Cond.instanceMethod q.1 ∈ tables_1
theorem zmt1 {w : Jvm.Cond} (i : Nat) (h : tables_1_1[i]? = some w) : w ∈ tables_1 := by
  have h1 := List.mem_of_getElem? h
  unfold tables_1
  simp only [List.mem_append]
  exact (Or.inl h1)
theorem zmt2 {w : Jvm.Cond} (i : Nat) (h : tables_1_2[i]? = some w) : w ∈ tables_1 := by
  have h1 := List.mem_of_getElem? h
  unfold tables_1
  simp only [List.mem_append]
  exact (Or.inr (Or.inl h1))
theorem zmt3 {w : Jvm.Cond} (i : Nat) (h : tables_1_3[i]? = some w) : w ∈ tables_1 := by
  have h1 := List.mem_of_getElem? h
  unfold tables_1
  simp only [List.mem_append]
  exact (Or.inr (Or.inr (Or.inl h1)))
theorem zmt4 {w : Jvm.Cond} (i : Nat) (h : tables_1_4[i]? = some w) : w ∈ tables_1 := by
  have h1 := List.mem_of_getElem? h
  unfold tables_1
  simp only [List.mem_append]
  exact (Or.inr (Or.inr (Or.inr (Or.inl h1))))
theorem zmt5 {w : Jvm.Cond} (i : Nat) (h : tables_1_5[i]? = some w) : w ∈ tables_1 := by
  have h1 := List.mem_of_getElem? h
  unfold tables_1
  simp only [List.mem_append]
  exact (Or.inr (Or.inr (Or.inr (Or.inr (Or.inl h1)))))
theorem zmt6 {w : Jvm.Cond} (i : Nat) (h : tables_1_6[i]? = some w) : w ∈ tables_1 := by
  have h1 := List.mem_of_getElem? h
  unfold tables_1
  simp only [List.mem_append]
  exact (Or.inr (Or.inr (Or.inr (Or.inr (Or.inr (Or.inl h1))))))
theorem zmt7 {w : Jvm.Cond} (i : Nat) (h : tables_1_7[i]? = some w) : w ∈ tables_1 := by
  have h1 := List.mem_of_getElem? h
  unfold tables_1
  simp only [List.mem_append]
  exact (Or.inr (Or.inr (Or.inr (Or.inr (Or.inr (Or.inr (Or.inl h1)))))))
theorem zmt8 {w : Jvm.Cond} (i : Nat) (h : tables_1_8[i]? = some w) : w ∈ tables_1 := by
  have h1 := List.mem_of_getElem? h
  unfold tables_1
  simp only [List.mem_append]
  exact (Or.inr (Or.inr (Or.inr (Or.inr (Or.inr (Or.inr (Or.inr (Or.inl h1))))))))
theorem zmt9 {w : Jvm.Cond} (i : Nat) (h : tables_1_9[i]? = some w) : w ∈ tables_1 := by
  have h1 := List.mem_of_getElem? h
  unfold tables_1
  simp only [List.mem_append]
  exact (Or.inr (Or.inr (Or.inr (Or.inr (Or.inr (Or.inr (Or.inr (Or.inr (h1)))))))))
theorem lw_p0 : lw_okq (⟨"GammaShelf$Intake", "clear", "()V"⟩, 11) := ⟨⟨by decide +kernel, by decide +kernel⟩, zmt1 192 rfl, zmt3 27 rfl, zmt3 28 rfl⟩
theorem lw_p1 : lw_okq (⟨"GammaShelf$Tape", "readLetters", "(I)V"⟩, 4) := ⟨⟨by decide +kernel, by decide +kernel⟩, zmt1 36 rfl, zmt3 49 rfl, zmt3 50 rfl⟩
theorem lw_p2 : lw_okq (⟨"GammaShelf$Tape", "shorten", "()V"⟩, 4) := ⟨⟨by decide +kernel, by decide +kernel⟩, zmt1 36 rfl, zmt3 57 rfl, zmt3 58 rfl⟩
theorem lw_p3 : lw_okq (⟨"GammaShelf$Tape", "hasDigit", "()Z"⟩, 4) := ⟨⟨by decide +kernel, by decide +kernel⟩, zmt1 36 rfl, zmt3 61 rfl, zmt3 62 rfl⟩
theorem lw_p4 : lw_okq (⟨"GammaShelf$Tape", "endsBy", "(Ljava/lang/String;)Z"⟩, 4) := ⟨⟨by decide +kernel, by decide +kernel⟩, zmt1 36 rfl, zmt3 66 rfl, zmt3 67 rfl⟩
theorem lw_p5 : lw_okq (⟨"GammaShelf$Intake", "keep", "(JI)Z"⟩, 11) := ⟨⟨by decide +kernel, by decide +kernel⟩, zmt1 192 rfl, zmt3 128 rfl, zmt3 129 rfl⟩
theorem lw_p6 : lw_okq (⟨"GammaShelf$Intake", "bitsFor", "(II)I"⟩, 11) := ⟨⟨by decide +kernel, by decide +kernel⟩, zmt1 192 rfl, zmt3 175 rfl, zmt3 176 rfl⟩
theorem lw_p7 : lw_okq (⟨"GammaShelf$Postings", "appendBit", "(II)V"⟩, 12) := ⟨⟨by decide +kernel, by decide +kernel⟩, zmt1 115 rfl, zmt3 232 rfl, zmt3 233 rfl⟩
theorem lw_p8 : lw_okq (⟨"GammaShelf$Postings", "addChunk", "(II)Z"⟩, 12) := ⟨⟨by decide +kernel, by decide +kernel⟩, zmt1 115 rfl, zmt3 236 rfl, zmt3 237 rfl⟩
theorem lw_p9 : lw_okq (⟨"GammaShelf$Reader", "gamma", "()I"⟩, 9) := ⟨⟨by decide +kernel, by decide +kernel⟩, zmt1 158 rfl, zmt4 67 rfl, zmt4 68 rfl⟩
theorem lw_p10 : lw_okq (⟨"GammaShelf$Reader", "oneBit", "()I"⟩, 9) := ⟨⟨by decide +kernel, by decide +kernel⟩, zmt1 158 rfl, zmt4 71 rfl, zmt4 72 rfl⟩
theorem lw_p11 : lw_okq (⟨"GammaShelf$Parser", "next", "()V"⟩, 12) := ⟨⟨by decide +kernel, by decide +kernel⟩, zmt2 35 rfl, zmt4 166 rfl, zmt4 167 rfl⟩
theorem lw_p12 : lw_okq (⟨"GammaShelf$Parser", "settleNear", "()V"⟩, 12) := ⟨⟨by decide +kernel, by decide +kernel⟩, zmt2 35 rfl, zmt4 170 rfl, zmt4 171 rfl⟩
theorem lw_p13 : lw_okq (⟨"GammaShelf$Parser", "fail", "(II)V"⟩, 12) := ⟨⟨by decide +kernel, by decide +kernel⟩, zmt2 35 rfl, zmt4 174 rfl, zmt4 175 rfl⟩
theorem lw_p14 : lw_okq (⟨"GammaShelf$Parser", "sortOfRun", "()I"⟩, 12) := ⟨⟨by decide +kernel, by decide +kernel⟩, zmt2 35 rfl, zmt4 191 rfl, zmt4 192 rfl⟩
theorem lw_p15 : lw_okq (⟨"GammaShelf$Parser", "readQuery", "()V"⟩, 12) := ⟨⟨by decide +kernel, by decide +kernel⟩, zmt2 35 rfl, zmt4 205 rfl, zmt4 206 rfl⟩
def lw_privs_1 : List (MethodName × Nat) := [(⟨"GammaShelf$Intake", "clear", "()V"⟩, 11), (⟨"GammaShelf$Tape", "readLetters", "(I)V"⟩, 4), (⟨"GammaShelf$Tape", "shorten", "()V"⟩, 4), (⟨"GammaShelf$Tape", "hasDigit", "()Z"⟩, 4), (⟨"GammaShelf$Tape", "endsBy", "(Ljava/lang/String;)Z"⟩, 4), (⟨"GammaShelf$Intake", "keep", "(JI)Z"⟩, 11), (⟨"GammaShelf$Intake", "bitsFor", "(II)I"⟩, 11), (⟨"GammaShelf$Postings", "appendBit", "(II)V"⟩, 12), (⟨"GammaShelf$Postings", "addChunk", "(II)Z"⟩, 12), (⟨"GammaShelf$Reader", "gamma", "()I"⟩, 9), (⟨"GammaShelf$Reader", "oneBit", "()I"⟩, 9), (⟨"GammaShelf$Parser", "next", "()V"⟩, 12), (⟨"GammaShelf$Parser", "settleNear", "()V"⟩, 12), (⟨"GammaShelf$Parser", "fail", "(II)V"⟩, 12), (⟨"GammaShelf$Parser", "sortOfRun", "()I"⟩, 12), (⟨"GammaShelf$Parser", "readQuery", "()V"⟩, 12)]
theorem lw_r1 : ∀ q ∈ lw_privs_1, lw_okq q := List.forall_mem_cons.mpr ⟨lw_p0, List.forall_mem_cons.mpr ⟨lw_p1, List.forall_mem_cons.mpr ⟨lw_p2, List.forall_mem_cons.mpr ⟨lw_p3, List.forall_mem_cons.mpr ⟨lw_p4, List.forall_mem_cons.mpr ⟨lw_p5, List.forall_mem_cons.mpr ⟨lw_p6, List.forall_mem_cons.mpr ⟨lw_p7, List.forall_mem_cons.mpr ⟨lw_p8, List.forall_mem_cons.mpr ⟨lw_p9, List.forall_mem_cons.mpr ⟨lw_p10, List.forall_mem_cons.mpr ⟨lw_p11, List.forall_mem_cons.mpr ⟨lw_p12, List.forall_mem_cons.mpr ⟨lw_p13, List.forall_mem_cons.mpr ⟨lw_p14, List.forall_mem_cons.mpr ⟨lw_p15, fun _ h => absurd h List.not_mem_nil⟩⟩⟩⟩⟩⟩⟩⟩⟩⟩⟩⟩⟩⟩⟩⟩
theorem lw_p16 : lw_okq (⟨"GammaShelf$Parser", "readAll", "()V"⟩, 12) := ⟨⟨by decide +kernel, by decide +kernel⟩, zmt2 35 rfl, zmt4 209 rfl, zmt4 210 rfl⟩
theorem lw_p17 : lw_okq (⟨"GammaShelf$Parser", "readNots", "()Z"⟩, 12) := ⟨⟨by decide +kernel, by decide +kernel⟩, zmt2 35 rfl, zmt4 213 rfl, zmt4 214 rfl⟩
theorem lw_p18 : lw_okq (⟨"GammaShelf$Parser", "readNear", "()V"⟩, 12) := ⟨⟨by decide +kernel, by decide +kernel⟩, zmt2 35 rfl, zmt4 217 rfl, zmt4 218 rfl⟩
theorem lw_p19 : lw_okq (⟨"GammaShelf$Parser", "readUnit", "()Z"⟩, 12) := ⟨⟨by decide +kernel, by decide +kernel⟩, zmt2 35 rfl, zmt4 221 rfl, zmt4 222 rfl⟩
theorem lw_p20 : lw_okq (⟨"GammaShelf$Parser", "readBare", "(I)Z"⟩, 12) := ⟨⟨by decide +kernel, by decide +kernel⟩, zmt2 35 rfl, zmt4 225 rfl, zmt4 226 rfl⟩
theorem lw_p21 : lw_okq (⟨"GammaShelf$Parser", "readGroup", "()V"⟩, 12) := ⟨⟨by decide +kernel, by decide +kernel⟩, zmt2 35 rfl, zmt4 229 rfl, zmt4 230 rfl⟩
theorem lw_p22 : lw_okq (⟨"GammaShelf$Parser", "take", "(I)V"⟩, 12) := ⟨⟨by decide +kernel, by decide +kernel⟩, zmt2 35 rfl, zmt4 233 rfl, zmt4 234 rfl⟩
theorem lw_p23 : lw_okq (⟨"GammaShelf$Parser", "readMarks", "()V"⟩, 12) := ⟨⟨by decide +kernel, by decide +kernel⟩, zmt2 35 rfl, zmt4 237 rfl, zmt4 238 rfl⟩
theorem lw_p24 : lw_okq (⟨"GammaShelf$Parser", "testLeafRoom", "()V"⟩, 12) := ⟨⟨by decide +kernel, by decide +kernel⟩, zmt2 35 rfl, zmt5 1 rfl, zmt5 2 rfl⟩
theorem lw_p25 : lw_okq (⟨"GammaShelf$Parser", "readInt", "(I)I"⟩, 12) := ⟨⟨by decide +kernel, by decide +kernel⟩, zmt2 35 rfl, zmt5 10 rfl, zmt5 11 rfl⟩
theorem lw_p26 : lw_okq (⟨"GammaShelf$Parser", "readPhrase", "(I)V"⟩, 12) := ⟨⟨by decide +kernel, by decide +kernel⟩, zmt2 35 rfl, zmt5 30 rfl, zmt5 31 rfl⟩
theorem lw_p27 : lw_okq (⟨"GammaShelf$Parser", "closePhrase", "(III)V"⟩, 12) := ⟨⟨by decide +kernel, by decide +kernel⟩, zmt2 35 rfl, zmt5 39 rfl, zmt5 40 rfl⟩
theorem lw_p28 : lw_okq (⟨"GammaShelf$Parser", "wantedWord", "(I)I"⟩, 12) := ⟨⟨by decide +kernel, by decide +kernel⟩, zmt2 35 rfl, zmt5 44 rfl, zmt5 45 rfl⟩
theorem lw_p29 : lw_okq (⟨"GammaShelf$Parser", "readToken", "(I)V"⟩, 12) := ⟨⟨by decide +kernel, by decide +kernel⟩, zmt2 35 rfl, zmt5 54 rfl, zmt5 55 rfl⟩
theorem lw_p30 : lw_okq (⟨"GammaShelf$Parser", "readApart", "()I"⟩, 12) := ⟨⟨by decide +kernel, by decide +kernel⟩, zmt2 35 rfl, zmt5 71 rfl, zmt5 72 rfl⟩
theorem lw_p31 : lw_okq (⟨"GammaShelf$Parser", "goesOn", "()Z"⟩, 12) := ⟨⟨by decide +kernel, by decide +kernel⟩, zmt2 35 rfl, zmt5 79 rfl, zmt5 80 rfl⟩
def lw_privs_2 : List (MethodName × Nat) := [(⟨"GammaShelf$Parser", "readAll", "()V"⟩, 12), (⟨"GammaShelf$Parser", "readNots", "()Z"⟩, 12), (⟨"GammaShelf$Parser", "readNear", "()V"⟩, 12), (⟨"GammaShelf$Parser", "readUnit", "()Z"⟩, 12), (⟨"GammaShelf$Parser", "readBare", "(I)Z"⟩, 12), (⟨"GammaShelf$Parser", "readGroup", "()V"⟩, 12), (⟨"GammaShelf$Parser", "take", "(I)V"⟩, 12), (⟨"GammaShelf$Parser", "readMarks", "()V"⟩, 12), (⟨"GammaShelf$Parser", "testLeafRoom", "()V"⟩, 12), (⟨"GammaShelf$Parser", "readInt", "(I)I"⟩, 12), (⟨"GammaShelf$Parser", "readPhrase", "(I)V"⟩, 12), (⟨"GammaShelf$Parser", "closePhrase", "(III)V"⟩, 12), (⟨"GammaShelf$Parser", "wantedWord", "(I)I"⟩, 12), (⟨"GammaShelf$Parser", "readToken", "(I)V"⟩, 12), (⟨"GammaShelf$Parser", "readApart", "()I"⟩, 12), (⟨"GammaShelf$Parser", "goesOn", "()Z"⟩, 12)]
theorem lw_r2 : ∀ q ∈ lw_privs_2, lw_okq q := List.forall_mem_cons.mpr ⟨lw_p16, List.forall_mem_cons.mpr ⟨lw_p17, List.forall_mem_cons.mpr ⟨lw_p18, List.forall_mem_cons.mpr ⟨lw_p19, List.forall_mem_cons.mpr ⟨lw_p20, List.forall_mem_cons.mpr ⟨lw_p21, List.forall_mem_cons.mpr ⟨lw_p22, List.forall_mem_cons.mpr ⟨lw_p23, List.forall_mem_cons.mpr ⟨lw_p24, List.forall_mem_cons.mpr ⟨lw_p25, List.forall_mem_cons.mpr ⟨lw_p26, List.forall_mem_cons.mpr ⟨lw_p27, List.forall_mem_cons.mpr ⟨lw_p28, List.forall_mem_cons.mpr ⟨lw_p29, List.forall_mem_cons.mpr ⟨lw_p30, List.forall_mem_cons.mpr ⟨lw_p31, fun _ h => absurd h List.not_mem_nil⟩⟩⟩⟩⟩⟩⟩⟩⟩⟩⟩⟩⟩⟩⟩⟩
theorem lw_p32 : lw_okq (⟨"GammaShelf$Finder", "prepare", "()V"⟩, 17) := ⟨⟨by decide +kernel, by decide +kernel⟩, zmt2 78 rfl, zmt5 88 rfl, zmt5 89 rfl⟩
theorem lw_p33 : lw_okq (⟨"GammaShelf$Page", "want", "(I)V"⟩, 10) := ⟨⟨by decide +kernel, by decide +kernel⟩, zmt2 95 rfl, zmt5 116 rfl, zmt5 117 rfl⟩
theorem lw_p34 : lw_okq (⟨"GammaShelf$Page", "see", "(II)V"⟩, 10) := ⟨⟨by decide +kernel, by decide +kernel⟩, zmt2 95 rfl, zmt5 141 rfl, zmt5 142 rfl⟩
theorem lw_p35 : lw_okq (⟨"GammaShelf$Finder", "matchLeaves", "(I)V"⟩, 17) := ⟨⟨by decide +kernel, by decide +kernel⟩, zmt2 78 rfl, zmt5 145 rfl, zmt5 146 rfl⟩
theorem lw_p36 : lw_okq (⟨"GammaShelf$Finder", "matchPlaces", "(II)V"⟩, 17) := ⟨⟨by decide +kernel, by decide +kernel⟩, zmt2 78 rfl, zmt5 156 rfl, zmt5 157 rfl⟩
theorem lw_p37 : lw_okq (⟨"GammaShelf$Page", "gatherPhrase", "(IILGammaShelf$Places;)V"⟩, 10) := ⟨⟨by decide +kernel, by decide +kernel⟩, zmt2 95 rfl, zmt5 173 rfl, zmt5 174 rfl⟩
theorem lw_p38 : lw_okq (⟨"GammaShelf$Page", "standsFrom", "(III)Z"⟩, 10) := ⟨⟨by decide +kernel, by decide +kernel⟩, zmt2 95 rfl, zmt5 177 rfl, zmt5 178 rfl⟩
theorem lw_p39 : lw_okq (⟨"GammaShelf$Page", "wordAt", "(I)I"⟩, 10) := ⟨⟨by decide +kernel, by decide +kernel⟩, zmt2 95 rfl, zmt5 181 rfl, zmt5 182 rfl⟩
theorem lw_p40 : lw_okq (⟨"GammaShelf$Page", "gatherWords", "(IILGammaShelf$Places;)V"⟩, 10) := ⟨⟨by decide +kernel, by decide +kernel⟩, zmt2 95 rfl, zmt5 189 rfl, zmt5 190 rfl⟩
theorem lw_p41 : lw_okq (⟨"GammaShelf$Finder", "works", "()Z"⟩, 17) := ⟨⟨by decide +kernel, by decide +kernel⟩, zmt2 78 rfl, zmt5 211 rfl, zmt5 212 rfl⟩
theorem lw_p42 : lw_okq (⟨"GammaShelf$Finder", "areNear", "(III)Z"⟩, 17) := ⟨⟨by decide +kernel, by decide +kernel⟩, zmt2 78 rfl, zmt5 219 rfl, zmt5 220 rfl⟩
theorem lw_p43 : lw_okq (⟨"GammaShelf$Finder", "keep", "(I)V"⟩, 17) := ⟨⟨by decide +kernel, by decide +kernel⟩, zmt2 78 rfl, zmt5 238 rfl, zmt5 239 rfl⟩
theorem lw_p44 : lw_okq (⟨"GammaShelf$Places", "tenFrom", "(I)I"⟩, 1) := ⟨⟨by decide +kernel, by decide +kernel⟩, zmt2 85 rfl, zmt6 15 rfl, zmt6 16 rfl⟩
theorem lw_p45 : lw_okq (⟨"GammaShelf$Finder", "score", "(I)I"⟩, 17) := ⟨⟨by decide +kernel, by decide +kernel⟩, zmt2 78 rfl, zmt6 20 rfl, zmt6 21 rfl⟩
theorem lw_p46 : lw_okq (⟨"GammaShelf$Finder", "putInRank", "(I)V"⟩, 17) := ⟨⟨by decide +kernel, by decide +kernel⟩, zmt2 78 rfl, zmt6 33 rfl, zmt6 34 rfl⟩
theorem lw_p47 : lw_okq (⟨"GammaShelf$Words", "nextCosts", "(II)I"⟩, 8) := ⟨⟨by decide +kernel, by decide +kernel⟩, zmt1 56 rfl, zmt6 70 rfl, zmt6 71 rfl⟩
def lw_privs_3 : List (MethodName × Nat) := [(⟨"GammaShelf$Finder", "prepare", "()V"⟩, 17), (⟨"GammaShelf$Page", "want", "(I)V"⟩, 10), (⟨"GammaShelf$Page", "see", "(II)V"⟩, 10), (⟨"GammaShelf$Finder", "matchLeaves", "(I)V"⟩, 17), (⟨"GammaShelf$Finder", "matchPlaces", "(II)V"⟩, 17), (⟨"GammaShelf$Page", "gatherPhrase", "(IILGammaShelf$Places;)V"⟩, 10), (⟨"GammaShelf$Page", "standsFrom", "(III)Z"⟩, 10), (⟨"GammaShelf$Page", "wordAt", "(I)I"⟩, 10), (⟨"GammaShelf$Page", "gatherWords", "(IILGammaShelf$Places;)V"⟩, 10), (⟨"GammaShelf$Finder", "works", "()Z"⟩, 17), (⟨"GammaShelf$Finder", "areNear", "(III)Z"⟩, 17), (⟨"GammaShelf$Finder", "keep", "(I)V"⟩, 17), (⟨"GammaShelf$Places", "tenFrom", "(I)I"⟩, 1), (⟨"GammaShelf$Finder", "score", "(I)I"⟩, 17), (⟨"GammaShelf$Finder", "putInRank", "(I)V"⟩, 17), (⟨"GammaShelf$Words", "nextCosts", "(II)I"⟩, 8)]
theorem lw_r3 : ∀ q ∈ lw_privs_3, lw_okq q := List.forall_mem_cons.mpr ⟨lw_p32, List.forall_mem_cons.mpr ⟨lw_p33, List.forall_mem_cons.mpr ⟨lw_p34, List.forall_mem_cons.mpr ⟨lw_p35, List.forall_mem_cons.mpr ⟨lw_p36, List.forall_mem_cons.mpr ⟨lw_p37, List.forall_mem_cons.mpr ⟨lw_p38, List.forall_mem_cons.mpr ⟨lw_p39, List.forall_mem_cons.mpr ⟨lw_p40, List.forall_mem_cons.mpr ⟨lw_p41, List.forall_mem_cons.mpr ⟨lw_p42, List.forall_mem_cons.mpr ⟨lw_p43, List.forall_mem_cons.mpr ⟨lw_p44, List.forall_mem_cons.mpr ⟨lw_p45, List.forall_mem_cons.mpr ⟨lw_p46, List.forall_mem_cons.mpr ⟨lw_p47, fun _ h => absurd h List.not_mem_nil⟩⟩⟩⟩⟩⟩⟩⟩⟩⟩⟩⟩⟩⟩⟩⟩
theorem lw_p48 : lw_okq (⟨"java/lang/Throwable", "fillInStackTrace", "(I)Ljava/lang/Throwable;"⟩, 6) := ⟨⟨by decide +kernel, by decide +kernel⟩, zmt6 121 rfl, zmt6 119 rfl, zmt6 120 rfl⟩
theorem lw_p49 : lw_okq (⟨"GammaShelf$Finder", "addAlike", "(ILGammaShelf$Reader;)V"⟩, 17) := ⟨⟨by decide +kernel, by decide +kernel⟩, zmt2 78 rfl, zmt7 0 rfl, zmt7 1 rfl⟩
theorem lw_p50 : lw_okq (⟨"GammaShelfModel", "lay", "(I)V"⟩, 75) := ⟨⟨by decide +kernel, by decide +kernel⟩, zmt7 8 rfl, zmt8 31 rfl, zmt8 32 rfl⟩
theorem lw_p51 : lw_okq (⟨"GammaShelfModel", "runEnd", "(II)I"⟩, 75) := ⟨⟨by decide +kernel, by decide +kernel⟩, zmt7 8 rfl, zmt8 55 rfl, zmt8 56 rfl⟩
theorem lw_p52 : lw_okq (⟨"GammaShelfModel", "takeWord", "(II)V"⟩, 75) := ⟨⟨by decide +kernel, by decide +kernel⟩, zmt7 8 rfl, zmt8 59 rfl, zmt8 60 rfl⟩
theorem lw_p53 : lw_okq (⟨"GammaShelfModel", "takeBytes", "(II)V"⟩, 75) := ⟨⟨by decide +kernel, by decide +kernel⟩, zmt7 8 rfl, zmt8 63 rfl, zmt8 64 rfl⟩
theorem lw_p54 : lw_okq (⟨"GammaShelfModel", "endsBy", "(IIII)Z"⟩, 75) := ⟨⟨by decide +kernel, by decide +kernel⟩, zmt7 8 rfl, zmt8 70 rfl, zmt8 71 rfl⟩
theorem lw_p55 : lw_okq (⟨"GammaShelfModel", "findStop", "()I"⟩, 75) := ⟨⟨by decide +kernel, by decide +kernel⟩, zmt7 8 rfl, zmt8 74 rfl, zmt8 75 rfl⟩
theorem lw_p56 : lw_okq (⟨"GammaShelfModel", "isSame", "([BII)Z"⟩, 75) := ⟨⟨by decide +kernel, by decide +kernel⟩, zmt7 8 rfl, zmt8 78 rfl, zmt8 79 rfl⟩
theorem lw_p57 : lw_okq (⟨"GammaShelfModel", "find", "()I"⟩, 75) := ⟨⟨by decide +kernel, by decide +kernel⟩, zmt7 8 rfl, zmt8 82 rfl, zmt8 83 rfl⟩
theorem lw_p58 : lw_okq (⟨"GammaShelfModel", "newWord", "()I"⟩, 75) := ⟨⟨by decide +kernel, by decide +kernel⟩, zmt7 8 rfl, zmt8 86 rfl, zmt8 87 rfl⟩
theorem lw_p59 : lw_okq (⟨"GammaShelfModel", "taken", "()I"⟩, 75) := ⟨⟨by decide +kernel, by decide +kernel⟩, zmt7 8 rfl, zmt8 91 rfl, zmt8 92 rfl⟩
theorem lw_p60 : lw_okq (⟨"GammaShelfModel", "measure", "()V"⟩, 75) := ⟨⟨by decide +kernel, by decide +kernel⟩, zmt7 8 rfl, zmt8 95 rfl, zmt8 96 rfl⟩
theorem lw_p61 : lw_okq (⟨"GammaShelfModel", "countUnlike", "(I)I"⟩, 75) := ⟨⟨by decide +kernel, by decide +kernel⟩, zmt7 8 rfl, zmt8 108 rfl, zmt8 109 rfl⟩
theorem lw_p62 : lw_okq (⟨"GammaShelfModel", "tally", "(I[I)V"⟩, 75) := ⟨⟨by decide +kernel, by decide +kernel⟩, zmt7 8 rfl, zmt8 112 rfl, zmt8 113 rfl⟩
theorem lw_p63 : lw_okq (⟨"GammaShelfModel", "stands", "(I)Z"⟩, 75) := ⟨⟨by decide +kernel, by decide +kernel⟩, zmt7 8 rfl, zmt8 120 rfl, zmt8 121 rfl⟩
def lw_privs_4 : List (MethodName × Nat) := [(⟨"java/lang/Throwable", "fillInStackTrace", "(I)Ljava/lang/Throwable;"⟩, 6), (⟨"GammaShelf$Finder", "addAlike", "(ILGammaShelf$Reader;)V"⟩, 17), (⟨"GammaShelfModel", "lay", "(I)V"⟩, 75), (⟨"GammaShelfModel", "runEnd", "(II)I"⟩, 75), (⟨"GammaShelfModel", "takeWord", "(II)V"⟩, 75), (⟨"GammaShelfModel", "takeBytes", "(II)V"⟩, 75), (⟨"GammaShelfModel", "endsBy", "(IIII)Z"⟩, 75), (⟨"GammaShelfModel", "findStop", "()I"⟩, 75), (⟨"GammaShelfModel", "isSame", "([BII)Z"⟩, 75), (⟨"GammaShelfModel", "find", "()I"⟩, 75), (⟨"GammaShelfModel", "newWord", "()I"⟩, 75), (⟨"GammaShelfModel", "taken", "()I"⟩, 75), (⟨"GammaShelfModel", "measure", "()V"⟩, 75), (⟨"GammaShelfModel", "countUnlike", "(I)I"⟩, 75), (⟨"GammaShelfModel", "tally", "(I[I)V"⟩, 75), (⟨"GammaShelfModel", "stands", "(I)Z"⟩, 75)]
theorem lw_r4 : ∀ q ∈ lw_privs_4, lw_okq q := List.forall_mem_cons.mpr ⟨lw_p48, List.forall_mem_cons.mpr ⟨lw_p49, List.forall_mem_cons.mpr ⟨lw_p50, List.forall_mem_cons.mpr ⟨lw_p51, List.forall_mem_cons.mpr ⟨lw_p52, List.forall_mem_cons.mpr ⟨lw_p53, List.forall_mem_cons.mpr ⟨lw_p54, List.forall_mem_cons.mpr ⟨lw_p55, List.forall_mem_cons.mpr ⟨lw_p56, List.forall_mem_cons.mpr ⟨lw_p57, List.forall_mem_cons.mpr ⟨lw_p58, List.forall_mem_cons.mpr ⟨lw_p59, List.forall_mem_cons.mpr ⟨lw_p60, List.forall_mem_cons.mpr ⟨lw_p61, List.forall_mem_cons.mpr ⟨lw_p62, List.forall_mem_cons.mpr ⟨lw_p63, fun _ h => absurd h List.not_mem_nil⟩⟩⟩⟩⟩⟩⟩⟩⟩⟩⟩⟩⟩⟩⟩⟩
theorem lw_p64 : lw_okq (⟨"GammaShelfModel", "isThere", "(I)Z"⟩, 75) := ⟨⟨by decide +kernel, by decide +kernel⟩, zmt7 8 rfl, zmt8 124 rfl, zmt8 125 rfl⟩
theorem lw_p65 : lw_okq (⟨"GammaShelfModel", "drop", "(I)V"⟩, 75) := ⟨⟨by decide +kernel, by decide +kernel⟩, zmt7 8 rfl, zmt8 136 rfl, zmt8 137 rfl⟩
theorem lw_p66 : lw_okq (⟨"GammaShelfModel", "takesToken", "()Z"⟩, 75) := ⟨⟨by decide +kernel, by decide +kernel⟩, zmt7 8 rfl, zmt8 144 rfl, zmt8 145 rfl⟩
theorem lw_p67 : lw_okq (⟨"GammaShelfModel", "runFrom", "(II)I"⟩, 75) := ⟨⟨by decide +kernel, by decide +kernel⟩, zmt7 8 rfl, zmt8 148 rfl, zmt8 149 rfl⟩
theorem lw_p68 : lw_okq (⟨"GammaShelfModel", "refuse", "()I"⟩, 75) := ⟨⟨by decide +kernel, by decide +kernel⟩, zmt7 8 rfl, zmt8 156 rfl, zmt8 157 rfl⟩
theorem lw_p69 : lw_okq (⟨"GammaShelfModel", "lookAt", "()V"⟩, 75) := ⟨⟨by decide +kernel, by decide +kernel⟩, zmt7 8 rfl, zmt8 164 rfl, zmt8 165 rfl⟩
theorem lw_p70 : lw_okq (⟨"GammaShelfModel", "keepers", "(I)I"⟩, 75) := ⟨⟨by decide +kernel, by decide +kernel⟩, zmt7 8 rfl, zmt8 168 rfl, zmt8 169 rfl⟩
theorem lw_p71 : lw_okq (⟨"GammaShelfModel", "timesOf", "(II)I"⟩, 75) := ⟨⟨by decide +kernel, by decide +kernel⟩, zmt7 8 rfl, zmt8 172 rfl, zmt8 173 rfl⟩
theorem lw_p72 : lw_okq (⟨"GammaShelfModel", "lookedWord", "()I"⟩, 75) := ⟨⟨by decide +kernel, by decide +kernel⟩, zmt7 8 rfl, zmt8 180 rfl, zmt8 181 rfl⟩
theorem lw_p73 : lw_okq (⟨"GammaShelfModel", "layOut", "(IZ)I"⟩, 75) := ⟨⟨by decide +kernel, by decide +kernel⟩, zmt7 8 rfl, zmt8 184 rfl, zmt8 185 rfl⟩
theorem lw_p74 : lw_okq (⟨"GammaShelfModel", "put", "(I)V"⟩, 75) := ⟨⟨by decide +kernel, by decide +kernel⟩, zmt7 8 rfl, zmt8 188 rfl, zmt8 189 rfl⟩
theorem lw_p75 : lw_okq (⟨"GammaShelfModel", "holders", "(I)I"⟩, 75) := ⟨⟨by decide +kernel, by decide +kernel⟩, zmt7 8 rfl, zmt8 195 rfl, zmt8 196 rfl⟩
theorem lw_p76 : lw_okq (⟨"GammaShelfModel", "ahead", "(I)I"⟩, 75) := ⟨⟨by decide +kernel, by decide +kernel⟩, zmt7 8 rfl, zmt8 199 rfl, zmt8 200 rfl⟩
theorem lw_p77 : lw_okq (⟨"GammaShelfModel", "order", "(II)I"⟩, 75) := ⟨⟨by decide +kernel, by decide +kernel⟩, zmt7 8 rfl, zmt8 203 rfl, zmt8 204 rfl⟩
theorem lw_p78 : lw_okq (⟨"GammaShelfModel", "standing", "()I"⟩, 75) := ⟨⟨by decide +kernel, by decide +kernel⟩, zmt7 8 rfl, zmt8 215 rfl, zmt8 216 rfl⟩
theorem lw_p79 : lw_okq (⟨"GammaShelfModel", "allBits", "()I"⟩, 75) := ⟨⟨by decide +kernel, by decide +kernel⟩, zmt7 8 rfl, zmt8 219 rfl, zmt8 220 rfl⟩
def lw_privs_5 : List (MethodName × Nat) := [(⟨"GammaShelfModel", "isThere", "(I)Z"⟩, 75), (⟨"GammaShelfModel", "drop", "(I)V"⟩, 75), (⟨"GammaShelfModel", "takesToken", "()Z"⟩, 75), (⟨"GammaShelfModel", "runFrom", "(II)I"⟩, 75), (⟨"GammaShelfModel", "refuse", "()I"⟩, 75), (⟨"GammaShelfModel", "lookAt", "()V"⟩, 75), (⟨"GammaShelfModel", "keepers", "(I)I"⟩, 75), (⟨"GammaShelfModel", "timesOf", "(II)I"⟩, 75), (⟨"GammaShelfModel", "lookedWord", "()I"⟩, 75), (⟨"GammaShelfModel", "layOut", "(IZ)I"⟩, 75), (⟨"GammaShelfModel", "put", "(I)V"⟩, 75), (⟨"GammaShelfModel", "holders", "(I)I"⟩, 75), (⟨"GammaShelfModel", "ahead", "(I)I"⟩, 75), (⟨"GammaShelfModel", "order", "(II)I"⟩, 75), (⟨"GammaShelfModel", "standing", "()I"⟩, 75), (⟨"GammaShelfModel", "allBits", "()I"⟩, 75)]
theorem lw_r5 : ∀ q ∈ lw_privs_5, lw_okq q := List.forall_mem_cons.mpr ⟨lw_p64, List.forall_mem_cons.mpr ⟨lw_p65, List.forall_mem_cons.mpr ⟨lw_p66, List.forall_mem_cons.mpr ⟨lw_p67, List.forall_mem_cons.mpr ⟨lw_p68, List.forall_mem_cons.mpr ⟨lw_p69, List.forall_mem_cons.mpr ⟨lw_p70, List.forall_mem_cons.mpr ⟨lw_p71, List.forall_mem_cons.mpr ⟨lw_p72, List.forall_mem_cons.mpr ⟨lw_p73, List.forall_mem_cons.mpr ⟨lw_p74, List.forall_mem_cons.mpr ⟨lw_p75, List.forall_mem_cons.mpr ⟨lw_p76, List.forall_mem_cons.mpr ⟨lw_p77, List.forall_mem_cons.mpr ⟨lw_p78, List.forall_mem_cons.mpr ⟨lw_p79, fun _ h => absurd h List.not_mem_nil⟩⟩⟩⟩⟩⟩⟩⟩⟩⟩⟩⟩⟩⟩⟩⟩
theorem lw_p80 : lw_okq (⟨"GammaShelfModel", "sort", "()V"⟩, 75) := ⟨⟨by decide +kernel, by decide +kernel⟩, zmt7 8 rfl, zmt8 227 rfl, zmt8 228 rfl⟩
theorem lw_p81 : lw_okq (⟨"GammaShelfModel", "look1", "()V"⟩, 75) := ⟨⟨by decide +kernel, by decide +kernel⟩, zmt7 8 rfl, zmt8 235 rfl, zmt8 236 rfl⟩
theorem lw_p82 : lw_okq (⟨"GammaShelfModel", "isBlank", "(I)Z"⟩, 75) := ⟨⟨by decide +kernel, by decide +kernel⟩, zmt7 8 rfl, zmt8 239 rfl, zmt9 0 rfl⟩
theorem lw_p83 : lw_okq (⟨"GammaShelfModel", "byteAt", "(I)I"⟩, 75) := ⟨⟨by decide +kernel, by decide +kernel⟩, zmt7 8 rfl, zmt9 3 rfl, zmt9 4 rfl⟩
theorem lw_p84 : lw_okq (⟨"GammaShelfModel", "query", "()I"⟩, 75) := ⟨⟨by decide +kernel, by decide +kernel⟩, zmt7 8 rfl, zmt9 7 rfl, zmt9 8 rfl⟩
theorem lw_p85 : lw_okq (⟨"GammaShelfModel", "all", "()I"⟩, 75) := ⟨⟨by decide +kernel, by decide +kernel⟩, zmt7 8 rfl, zmt9 11 rfl, zmt9 12 rfl⟩
theorem lw_p86 : lw_okq (⟨"GammaShelfModel", "nots", "()I"⟩, 75) := ⟨⟨by decide +kernel, by decide +kernel⟩, zmt7 8 rfl, zmt9 15 rfl, zmt9 16 rfl⟩
theorem lw_p87 : lw_okq (⟨"GammaShelfModel", "isNot", "()Z"⟩, 75) := ⟨⟨by decide +kernel, by decide +kernel⟩, zmt7 8 rfl, zmt9 19 rfl, zmt9 20 rfl⟩
theorem lw_p88 : lw_okq (⟨"GammaShelfModel", "isRun", "(IIIII)Z"⟩, 75) := ⟨⟨by decide +kernel, by decide +kernel⟩, zmt7 8 rfl, zmt9 23 rfl, zmt9 24 rfl⟩
theorem lw_p89 : lw_okq (⟨"GammaShelfModel", "wrong", "(II)LGammaShelfModel$Stop;"⟩, 75) := ⟨⟨by decide +kernel, by decide +kernel⟩, zmt7 8 rfl, zmt9 27 rfl, zmt9 28 rfl⟩
theorem lw_p90 : lw_okq (⟨"GammaShelfModel", "near", "()I"⟩, 75) := ⟨⟨by decide +kernel, by decide +kernel⟩, zmt7 8 rfl, zmt9 31 rfl, zmt9 32 rfl⟩
theorem lw_p91 : lw_okq (⟨"GammaShelfModel", "unit", "()I"⟩, 75) := ⟨⟨by decide +kernel, by decide +kernel⟩, zmt7 8 rfl, zmt9 35 rfl, zmt9 36 rfl⟩
theorem lw_p92 : lw_okq (⟨"GammaShelfModel", "isField", "()Z"⟩, 75) := ⟨⟨by decide +kernel, by decide +kernel⟩, zmt7 8 rfl, zmt9 39 rfl, zmt9 40 rfl⟩
theorem lw_p93 : lw_okq (⟨"GammaShelfModel", "bare", "()I"⟩, 75) := ⟨⟨by decide +kernel, by decide +kernel⟩, zmt7 8 rfl, zmt9 43 rfl, zmt9 44 rfl⟩
theorem lw_p94 : lw_okq (⟨"GammaShelfModel", "isSign", "(I)Z"⟩, 75) := ⟨⟨by decide +kernel, by decide +kernel⟩, zmt7 8 rfl, zmt9 47 rfl, zmt9 48 rfl⟩
theorem lw_p95 : lw_okq (⟨"GammaShelfModel", "marksOf", "()I"⟩, 75) := ⟨⟨by decide +kernel, by decide +kernel⟩, zmt7 8 rfl, zmt9 51 rfl, zmt9 52 rfl⟩
def lw_privs_6 : List (MethodName × Nat) := [(⟨"GammaShelfModel", "sort", "()V"⟩, 75), (⟨"GammaShelfModel", "look1", "()V"⟩, 75), (⟨"GammaShelfModel", "isBlank", "(I)Z"⟩, 75), (⟨"GammaShelfModel", "byteAt", "(I)I"⟩, 75), (⟨"GammaShelfModel", "query", "()I"⟩, 75), (⟨"GammaShelfModel", "all", "()I"⟩, 75), (⟨"GammaShelfModel", "nots", "()I"⟩, 75), (⟨"GammaShelfModel", "isNot", "()Z"⟩, 75), (⟨"GammaShelfModel", "isRun", "(IIIII)Z"⟩, 75), (⟨"GammaShelfModel", "wrong", "(II)LGammaShelfModel$Stop;"⟩, 75), (⟨"GammaShelfModel", "near", "()I"⟩, 75), (⟨"GammaShelfModel", "unit", "()I"⟩, 75), (⟨"GammaShelfModel", "isField", "()Z"⟩, 75), (⟨"GammaShelfModel", "bare", "()I"⟩, 75), (⟨"GammaShelfModel", "isSign", "(I)Z"⟩, 75), (⟨"GammaShelfModel", "marksOf", "()I"⟩, 75)]
theorem lw_r6 : ∀ q ∈ lw_privs_6, lw_okq q := List.forall_mem_cons.mpr ⟨lw_p80, List.forall_mem_cons.mpr ⟨lw_p81, List.forall_mem_cons.mpr ⟨lw_p82, List.forall_mem_cons.mpr ⟨lw_p83, List.forall_mem_cons.mpr ⟨lw_p84, List.forall_mem_cons.mpr ⟨lw_p85, List.forall_mem_cons.mpr ⟨lw_p86, List.forall_mem_cons.mpr ⟨lw_p87, List.forall_mem_cons.mpr ⟨lw_p88, List.forall_mem_cons.mpr ⟨lw_p89, List.forall_mem_cons.mpr ⟨lw_p90, List.forall_mem_cons.mpr ⟨lw_p91, List.forall_mem_cons.mpr ⟨lw_p92, List.forall_mem_cons.mpr ⟨lw_p93, List.forall_mem_cons.mpr ⟨lw_p94, List.forall_mem_cons.mpr ⟨lw_p95, fun _ h => absurd h List.not_mem_nil⟩⟩⟩⟩⟩⟩⟩⟩⟩⟩⟩⟩⟩⟩⟩⟩
theorem lw_p96 : lw_okq (⟨"GammaShelfModel", "leaf", "(I)I"⟩, 75) := ⟨⟨by decide +kernel, by decide +kernel⟩, zmt7 8 rfl, zmt9 55 rfl, zmt9 56 rfl⟩
theorem lw_p97 : lw_okq (⟨"GammaShelfModel", "whole", "()I"⟩, 75) := ⟨⟨by decide +kernel, by decide +kernel⟩, zmt7 8 rfl, zmt9 59 rfl, zmt9 60 rfl⟩
theorem lw_p98 : lw_okq (⟨"GammaShelfModel", "wholeFrom", "(I)I"⟩, 75) := ⟨⟨by decide +kernel, by decide +kernel⟩, zmt7 8 rfl, zmt9 63 rfl, zmt9 64 rfl⟩
theorem lw_p99 : lw_okq (⟨"GammaShelfModel", "leafNode", "(I)I"⟩, 75) := ⟨⟨by decide +kernel, by decide +kernel⟩, zmt7 8 rfl, zmt9 67 rfl, zmt9 68 rfl⟩
theorem lw_p100 : lw_okq (⟨"GammaShelfModel", "node", "(IIII)I"⟩, 75) := ⟨⟨by decide +kernel, by decide +kernel⟩, zmt7 8 rfl, zmt9 71 rfl, zmt9 72 rfl⟩
theorem lw_p101 : lw_okq (⟨"GammaShelfModel", "phrase", "()I"⟩, 75) := ⟨⟨by decide +kernel, by decide +kernel⟩, zmt7 8 rfl, zmt9 75 rfl, zmt9 76 rfl⟩
theorem lw_p102 : lw_okq (⟨"GammaShelfModel", "want", "()V"⟩, 75) := ⟨⟨by decide +kernel, by decide +kernel⟩, zmt7 8 rfl, zmt9 79 rfl, zmt9 80 rfl⟩
theorem lw_p103 : lw_okq (⟨"GammaShelfModel", "begins", "()Z"⟩, 75) := ⟨⟨by decide +kernel, by decide +kernel⟩, zmt7 8 rfl, zmt9 83 rfl, zmt9 84 rfl⟩
theorem lw_p104 : lw_okq (⟨"GammaShelfModel", "isOr", "()Z"⟩, 75) := ⟨⟨by decide +kernel, by decide +kernel⟩, zmt7 8 rfl, zmt9 87 rfl, zmt9 88 rfl⟩
theorem lw_p105 : lw_okq (⟨"GammaShelfModel", "isAnd", "()Z"⟩, 75) := ⟨⟨by decide +kernel, by decide +kernel⟩, zmt7 8 rfl, zmt9 91 rfl, zmt9 92 rfl⟩
theorem lw_p106 : lw_okq (⟨"GammaShelfModel", "isNear", "()Z"⟩, 75) := ⟨⟨by decide +kernel, by decide +kernel⟩, zmt7 8 rfl, zmt9 95 rfl, zmt9 96 rfl⟩
theorem lw_p107 : lw_okq (⟨"GammaShelfModel", "token", "()I"⟩, 75) := ⟨⟨by decide +kernel, by decide +kernel⟩, zmt7 8 rfl, zmt9 99 rfl, zmt9 100 rfl⟩
theorem lw_p108 : lw_okq (⟨"GammaShelfModel", "hasPlaces", "(I)Z"⟩, 75) := ⟨⟨by decide +kernel, by decide +kernel⟩, zmt7 8 rfl, zmt9 103 rfl, zmt9 104 rfl⟩
theorem lw_p109 : lw_okq (⟨"GammaShelfModel", "prepare", "()V"⟩, 75) := ⟨⟨by decide +kernel, by decide +kernel⟩, zmt7 8 rfl, zmt9 107 rfl, zmt9 108 rfl⟩
theorem lw_p110 : lw_okq (⟨"GammaShelfModel", "isStopped", "(I)Z"⟩, 75) := ⟨⟨by decide +kernel, by decide +kernel⟩, zmt7 8 rfl, zmt9 111 rfl, zmt9 112 rfl⟩
theorem lw_p111 : lw_okq (⟨"GammaShelfModel", "beginsBy", "(II)Z"⟩, 75) := ⟨⟨by decide +kernel, by decide +kernel⟩, zmt7 8 rfl, zmt9 115 rfl, zmt9 116 rfl⟩
def lw_privs_7 : List (MethodName × Nat) := [(⟨"GammaShelfModel", "leaf", "(I)I"⟩, 75), (⟨"GammaShelfModel", "whole", "()I"⟩, 75), (⟨"GammaShelfModel", "wholeFrom", "(I)I"⟩, 75), (⟨"GammaShelfModel", "leafNode", "(I)I"⟩, 75), (⟨"GammaShelfModel", "node", "(IIII)I"⟩, 75), (⟨"GammaShelfModel", "phrase", "()I"⟩, 75), (⟨"GammaShelfModel", "want", "()V"⟩, 75), (⟨"GammaShelfModel", "begins", "()Z"⟩, 75), (⟨"GammaShelfModel", "isOr", "()Z"⟩, 75), (⟨"GammaShelfModel", "isAnd", "()Z"⟩, 75), (⟨"GammaShelfModel", "isNear", "()Z"⟩, 75), (⟨"GammaShelfModel", "token", "()I"⟩, 75), (⟨"GammaShelfModel", "hasPlaces", "(I)Z"⟩, 75), (⟨"GammaShelfModel", "prepare", "()V"⟩, 75), (⟨"GammaShelfModel", "isStopped", "(I)Z"⟩, 75), (⟨"GammaShelfModel", "beginsBy", "(II)Z"⟩, 75)]
theorem lw_r7 : ∀ q ∈ lw_privs_7, lw_okq q := List.forall_mem_cons.mpr ⟨lw_p96, List.forall_mem_cons.mpr ⟨lw_p97, List.forall_mem_cons.mpr ⟨lw_p98, List.forall_mem_cons.mpr ⟨lw_p99, List.forall_mem_cons.mpr ⟨lw_p100, List.forall_mem_cons.mpr ⟨lw_p101, List.forall_mem_cons.mpr ⟨lw_p102, List.forall_mem_cons.mpr ⟨lw_p103, List.forall_mem_cons.mpr ⟨lw_p104, List.forall_mem_cons.mpr ⟨lw_p105, List.forall_mem_cons.mpr ⟨lw_p106, List.forall_mem_cons.mpr ⟨lw_p107, List.forall_mem_cons.mpr ⟨lw_p108, List.forall_mem_cons.mpr ⟨lw_p109, List.forall_mem_cons.mpr ⟨lw_p110, List.forall_mem_cons.mpr ⟨lw_p111, fun _ h => absurd h List.not_mem_nil⟩⟩⟩⟩⟩⟩⟩⟩⟩⟩⟩⟩⟩⟩⟩⟩
theorem lw_p112 : lw_okq (⟨"GammaShelfModel", "note", "(IZI)V"⟩, 75) := ⟨⟨by decide +kernel, by decide +kernel⟩, zmt7 8 rfl, zmt9 119 rfl, zmt9 120 rfl⟩
theorem lw_p113 : lw_okq (⟨"GammaShelfModel", "weighed", "(II)I"⟩, 75) := ⟨⟨by decide +kernel, by decide +kernel⟩, zmt7 8 rfl, zmt9 123 rfl, zmt9 124 rfl⟩
theorem lw_p114 : lw_okq (⟨"GammaShelfModel", "isLeft", "(II)Z"⟩, 75) := ⟨⟨by decide +kernel, by decide +kernel⟩, zmt7 8 rfl, zmt9 127 rfl, zmt9 128 rfl⟩
theorem lw_p115 : lw_okq (⟨"GammaShelfModel", "matches", "(III)Z"⟩, 75) := ⟨⟨by decide +kernel, by decide +kernel⟩, zmt7 8 rfl, zmt9 131 rfl, zmt9 132 rfl⟩
theorem lw_p116 : lw_okq (⟨"GammaShelfModel", "isPhrase", "(III)Z"⟩, 75) := ⟨⟨by decide +kernel, by decide +kernel⟩, zmt7 8 rfl, zmt9 135 rfl, zmt9 136 rfl⟩
theorem lw_p117 : lw_okq (⟨"GammaShelfModel", "isMatched", "(II)Z"⟩, 75) := ⟨⟨by decide +kernel, by decide +kernel⟩, zmt7 8 rfl, zmt9 139 rfl, zmt9 140 rfl⟩
theorem lw_p118 : lw_okq (⟨"GammaShelfModel", "areNear", "(IIIIII)Z"⟩, 75) := ⟨⟨by decide +kernel, by decide +kernel⟩, zmt7 8 rfl, zmt9 143 rfl, zmt9 144 rfl⟩
theorem lw_p119 : lw_okq (⟨"GammaShelfModel", "standsAt", "(III)Z"⟩, 75) := ⟨⟨by decide +kernel, by decide +kernel⟩, zmt7 8 rfl, zmt9 147 rfl, zmt9 148 rfl⟩
theorem lw_p120 : lw_okq (⟨"GammaShelfModel", "hasPlace", "(II)Z"⟩, 75) := ⟨⟨by decide +kernel, by decide +kernel⟩, zmt7 8 rfl, zmt9 152 rfl, zmt9 153 rfl⟩
theorem lw_p121 : lw_okq (⟨"GammaShelfModel", "score", "(II)I"⟩, 75) := ⟨⟨by decide +kernel, by decide +kernel⟩, zmt7 8 rfl, zmt9 156 rfl, zmt9 157 rfl⟩
theorem lw_p122 : lw_okq (⟨"GammaShelfModel", "take", "(II)V"⟩, 75) := ⟨⟨by decide +kernel, by decide +kernel⟩, zmt7 8 rfl, zmt9 160 rfl, zmt9 161 rfl⟩
theorem lw_p123 : lw_okq (⟨"GammaShelfModel", "shown", "(I)I"⟩, 75) := ⟨⟨by decide +kernel, by decide +kernel⟩, zmt7 8 rfl, zmt9 164 rfl, zmt9 165 rfl⟩
theorem lw_p124 : lw_okq (⟨"GammaShelfModel", "isShown", "(II)Z"⟩, 75) := ⟨⟨by decide +kernel, by decide +kernel⟩, zmt7 8 rfl, zmt9 168 rfl, zmt9 169 rfl⟩
theorem lw_p125 : lw_okq (⟨"GammaShelfModel", "hold", "()V"⟩, 75) := ⟨⟨by decide +kernel, by decide +kernel⟩, zmt7 8 rfl, zmt9 193 rfl, zmt9 194 rfl⟩
theorem lw_p126 : lw_okq (⟨"GammaShelfModel", "distance", "(I)I"⟩, 75) := ⟨⟨by decide +kernel, by decide +kernel⟩, zmt7 8 rfl, zmt9 197 rfl, zmt9 198 rfl⟩
theorem lw_p127 : lw_okq (⟨"GammaShelfModel", "alike", "(II)I"⟩, 75) := ⟨⟨by decide +kernel, by decide +kernel⟩, zmt7 8 rfl, zmt9 205 rfl, zmt9 206 rfl⟩
def lw_privs_8 : List (MethodName × Nat) := [(⟨"GammaShelfModel", "note", "(IZI)V"⟩, 75), (⟨"GammaShelfModel", "weighed", "(II)I"⟩, 75), (⟨"GammaShelfModel", "isLeft", "(II)Z"⟩, 75), (⟨"GammaShelfModel", "matches", "(III)Z"⟩, 75), (⟨"GammaShelfModel", "isPhrase", "(III)Z"⟩, 75), (⟨"GammaShelfModel", "isMatched", "(II)Z"⟩, 75), (⟨"GammaShelfModel", "areNear", "(IIIIII)Z"⟩, 75), (⟨"GammaShelfModel", "standsAt", "(III)Z"⟩, 75), (⟨"GammaShelfModel", "hasPlace", "(II)Z"⟩, 75), (⟨"GammaShelfModel", "score", "(II)I"⟩, 75), (⟨"GammaShelfModel", "take", "(II)V"⟩, 75), (⟨"GammaShelfModel", "shown", "(I)I"⟩, 75), (⟨"GammaShelfModel", "isShown", "(II)Z"⟩, 75), (⟨"GammaShelfModel", "hold", "()V"⟩, 75), (⟨"GammaShelfModel", "distance", "(I)I"⟩, 75), (⟨"GammaShelfModel", "alike", "(II)I"⟩, 75)]
theorem lw_r8 : ∀ q ∈ lw_privs_8, lw_okq q := List.forall_mem_cons.mpr ⟨lw_p112, List.forall_mem_cons.mpr ⟨lw_p113, List.forall_mem_cons.mpr ⟨lw_p114, List.forall_mem_cons.mpr ⟨lw_p115, List.forall_mem_cons.mpr ⟨lw_p116, List.forall_mem_cons.mpr ⟨lw_p117, List.forall_mem_cons.mpr ⟨lw_p118, List.forall_mem_cons.mpr ⟨lw_p119, List.forall_mem_cons.mpr ⟨lw_p120, List.forall_mem_cons.mpr ⟨lw_p121, List.forall_mem_cons.mpr ⟨lw_p122, List.forall_mem_cons.mpr ⟨lw_p123, List.forall_mem_cons.mpr ⟨lw_p124, List.forall_mem_cons.mpr ⟨lw_p125, List.forall_mem_cons.mpr ⟨lw_p126, List.forall_mem_cons.mpr ⟨lw_p127, fun _ h => absurd h List.not_mem_nil⟩⟩⟩⟩⟩⟩⟩⟩⟩⟩⟩⟩⟩⟩⟩⟩
def lw_privs : List (MethodName × Nat) := lw_privs_1 ++ (lw_privs_2 ++ (lw_privs_3 ++ (lw_privs_4 ++ (lw_privs_5 ++ (lw_privs_6 ++ (lw_privs_7 ++ (lw_privs_8)))))))
def lw_tbl : List Cond := k2_sels lw_privs ++ tables_1
theorem lw_privs_ok : ∀ q ∈ lw_privs, lw_okq q := by
  show ∀ q ∈ lw_privs_1 ++ (lw_privs_2 ++ (lw_privs_3 ++ (lw_privs_4 ++ (lw_privs_5 ++ (lw_privs_6 ++ (lw_privs_7 ++ (lw_privs_8))))))), lw_okq q
  exact List.forall_mem_append.mpr ⟨lw_r1, List.forall_mem_append.mpr ⟨lw_r2, List.forall_mem_append.mpr ⟨lw_r3, List.forall_mem_append.mpr ⟨lw_r4, List.forall_mem_append.mpr ⟨lw_r5, List.forall_mem_append.mpr ⟨lw_r6, List.forall_mem_append.mpr ⟨lw_r7, lw_r8⟩⟩⟩⟩⟩⟩⟩
