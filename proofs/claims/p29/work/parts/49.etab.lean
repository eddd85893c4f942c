section
/-! all contracts -/
def k_L (X : pH → Prop) (l : List (List eK)) : Prop := ∀ ks ∈ l, ∀ k ∈ ks, k_G eG X eKT eDX 4000 k
theorem kt_0 {X : pH → Prop} (h182 : ∀ d, k_I eG X eKT d → k_S eG X kk_182 d) (h183 : ∀ d, k_I eG X eKT d → k_S eG X kk_183 d) (h184 : ∀ d, k_I eG X eKT d → k_S eG X kk_184 d) (h185 : ∀ d, k_I eG X eKT d → k_S eG X kk_185 d) (h186 : ∀ d, k_I eG X eKT d → k_S eG X kk_186 d) (h187 : ∀ d, k_I eG X eKT d → k_S eG X kk_187 d) : k_L X et_0 := List.forall_mem_cons.mpr ⟨(fun _ h => absurd h List.not_mem_nil), List.forall_mem_cons.mpr ⟨(List.forall_mem_cons.mpr ⟨Or.inl ⟨kc_169, eh_169⟩, fun _ h => absurd h List.not_mem_nil⟩), List.forall_mem_cons.mpr ⟨(List.forall_mem_cons.mpr ⟨Or.inl ⟨kc_78, eh_78⟩, fun _ h => absurd h List.not_mem_nil⟩), List.forall_mem_cons.mpr ⟨(fun _ h => absurd h List.not_mem_nil), List.forall_mem_cons.mpr ⟨(List.forall_mem_cons.mpr ⟨Or.inl ⟨kc_74, eh_74⟩, fun _ h => absurd h List.not_mem_nil⟩), List.forall_mem_cons.mpr ⟨(fun _ h => absurd h List.not_mem_nil), List.forall_mem_cons.mpr ⟨(fun _ h => absurd h List.not_mem_nil), List.forall_mem_cons.mpr ⟨(List.forall_mem_cons.mpr ⟨Or.inl ⟨kc_159, eh_159⟩, fun _ h => absurd h List.not_mem_nil⟩), List.forall_mem_cons.mpr ⟨(List.forall_mem_cons.mpr ⟨Or.inl ⟨kc_90, eh_90⟩, fun _ h => absurd h List.not_mem_nil⟩), List.forall_mem_cons.mpr ⟨(fun _ h => absurd h List.not_mem_nil), List.forall_mem_cons.mpr ⟨(List.forall_mem_cons.mpr ⟨Or.inl ⟨kc_70, eh_70⟩, List.forall_mem_cons.mpr ⟨Or.inl ⟨kc_151, eh_151⟩, fun _ h => absurd h List.not_mem_nil⟩⟩), List.forall_mem_cons.mpr ⟨(fun _ h => absurd h List.not_mem_nil), List.forall_mem_cons.mpr ⟨(List.forall_mem_cons.mpr ⟨Or.inl ⟨kc_166, eh_166⟩, fun _ h => absurd h List.not_mem_nil⟩), List.forall_mem_cons.mpr ⟨(List.forall_mem_cons.mpr ⟨Or.inl ⟨kc_103, eh_103⟩, fun _ h => absurd h List.not_mem_nil⟩), List.forall_mem_cons.mpr ⟨(fun _ h => absurd h List.not_mem_nil), List.forall_mem_cons.mpr ⟨(List.forall_mem_cons.mpr ⟨Or.inl ⟨kc_165, eh_165⟩, fun _ h => absurd h List.not_mem_nil⟩), List.forall_mem_cons.mpr ⟨(List.forall_mem_cons.mpr ⟨Or.inl ⟨kc_170, eh_170⟩, fun _ h => absurd h List.not_mem_nil⟩), List.forall_mem_cons.mpr ⟨(List.forall_mem_cons.mpr ⟨Or.inl ⟨kc_102, eh_102⟩, fun _ h => absurd h List.not_mem_nil⟩), List.forall_mem_cons.mpr ⟨(fun _ h => absurd h List.not_mem_nil), List.forall_mem_cons.mpr ⟨(fun _ h => absurd h List.not_mem_nil), List.forall_mem_cons.mpr ⟨(fun _ h => absurd h List.not_mem_nil), List.forall_mem_cons.mpr ⟨(fun _ h => absurd h List.not_mem_nil), List.forall_mem_cons.mpr ⟨(fun _ h => absurd h List.not_mem_nil), List.forall_mem_cons.mpr ⟨(List.forall_mem_cons.mpr ⟨Or.inl ⟨kc_158, eh_158⟩, fun _ h => absurd h List.not_mem_nil⟩), List.forall_mem_cons.mpr ⟨(fun _ h => absurd h List.not_mem_nil), List.forall_mem_cons.mpr ⟨(fun _ h => absurd h List.not_mem_nil), List.forall_mem_cons.mpr ⟨(fun _ h => absurd h List.not_mem_nil), List.forall_mem_cons.mpr ⟨(fun _ h => absurd h List.not_mem_nil), List.forall_mem_cons.mpr ⟨(fun _ h => absurd h List.not_mem_nil), List.forall_mem_cons.mpr ⟨(fun _ h => absurd h List.not_mem_nil), List.forall_mem_cons.mpr ⟨(fun _ h => absurd h List.not_mem_nil), List.forall_mem_cons.mpr ⟨(fun _ h => absurd h List.not_mem_nil), fun _ h => absurd h List.not_mem_nil⟩⟩⟩⟩⟩⟩⟩⟩⟩⟩⟩⟩⟩⟩⟩⟩⟩⟩⟩⟩⟩⟩⟩⟩⟩⟩⟩⟩⟩⟩⟩⟩
theorem kt_1 {X : pH → Prop} (h182 : ∀ d, k_I eG X eKT d → k_S eG X kk_182 d) (h183 : ∀ d, k_I eG X eKT d → k_S eG X kk_183 d) (h184 : ∀ d, k_I eG X eKT d → k_S eG X kk_184 d) (h185 : ∀ d, k_I eG X eKT d → k_S eG X kk_185 d) (h186 : ∀ d, k_I eG X eKT d → k_S eG X kk_186 d) (h187 : ∀ d, k_I eG X eKT d → k_S eG X kk_187 d) : k_L X et_1 := List.forall_mem_cons.mpr ⟨(fun _ h => absurd h List.not_mem_nil), List.forall_mem_cons.mpr ⟨(fun _ h => absurd h List.not_mem_nil), List.forall_mem_cons.mpr ⟨(fun _ h => absurd h List.not_mem_nil), List.forall_mem_cons.mpr ⟨(fun _ h => absurd h List.not_mem_nil), List.forall_mem_cons.mpr ⟨(fun _ h => absurd h List.not_mem_nil), List.forall_mem_cons.mpr ⟨(fun _ h => absurd h List.not_mem_nil), List.forall_mem_cons.mpr ⟨(List.forall_mem_cons.mpr ⟨Or.inl ⟨kc_162, eh_162⟩, List.forall_mem_cons.mpr ⟨Or.inl ⟨kc_163, eh_163⟩, fun _ h => absurd h List.not_mem_nil⟩⟩), List.forall_mem_cons.mpr ⟨(fun _ h => absurd h List.not_mem_nil), List.forall_mem_cons.mpr ⟨(List.forall_mem_cons.mpr ⟨Or.inl ⟨kc_154, eh_154⟩, List.forall_mem_cons.mpr ⟨Or.inl ⟨kc_155, eh_155⟩, fun _ h => absurd h List.not_mem_nil⟩⟩), List.forall_mem_cons.mpr ⟨(fun _ h => absurd h List.not_mem_nil), List.forall_mem_cons.mpr ⟨(fun _ h => absurd h List.not_mem_nil), List.forall_mem_cons.mpr ⟨(fun _ h => absurd h List.not_mem_nil), List.forall_mem_cons.mpr ⟨(fun _ h => absurd h List.not_mem_nil), List.forall_mem_cons.mpr ⟨(fun _ h => absurd h List.not_mem_nil), List.forall_mem_cons.mpr ⟨(List.forall_mem_cons.mpr ⟨Or.inl ⟨kc_128, eh_128⟩, List.forall_mem_cons.mpr ⟨Or.inl ⟨kc_150, eh_150⟩, fun _ h => absurd h List.not_mem_nil⟩⟩), List.forall_mem_cons.mpr ⟨(fun _ h => absurd h List.not_mem_nil), List.forall_mem_cons.mpr ⟨(fun _ h => absurd h List.not_mem_nil), List.forall_mem_cons.mpr ⟨(List.forall_mem_cons.mpr ⟨Or.inl ⟨kc_141, eh_141⟩, fun _ h => absurd h List.not_mem_nil⟩), List.forall_mem_cons.mpr ⟨(List.forall_mem_cons.mpr ⟨Or.inl ⟨kc_138, eh_138⟩, fun _ h => absurd h List.not_mem_nil⟩), List.forall_mem_cons.mpr ⟨(fun _ h => absurd h List.not_mem_nil), List.forall_mem_cons.mpr ⟨(List.forall_mem_cons.mpr ⟨Or.inl ⟨kc_143, eh_143⟩, fun _ h => absurd h List.not_mem_nil⟩), List.forall_mem_cons.mpr ⟨(List.forall_mem_cons.mpr ⟨Or.inl ⟨kc_145, eh_145⟩, fun _ h => absurd h List.not_mem_nil⟩), List.forall_mem_cons.mpr ⟨(List.forall_mem_cons.mpr ⟨Or.inl ⟨kc_132, eh_132⟩, fun _ h => absurd h List.not_mem_nil⟩), List.forall_mem_cons.mpr ⟨(List.forall_mem_cons.mpr ⟨Or.inl ⟨kc_136, eh_136⟩, fun _ h => absurd h List.not_mem_nil⟩), List.forall_mem_cons.mpr ⟨(fun _ h => absurd h List.not_mem_nil), List.forall_mem_cons.mpr ⟨(List.forall_mem_cons.mpr ⟨Or.inl ⟨kc_181, eh_181⟩, fun _ h => absurd h List.not_mem_nil⟩), List.forall_mem_cons.mpr ⟨(fun _ h => absurd h List.not_mem_nil), List.forall_mem_cons.mpr ⟨(fun _ h => absurd h List.not_mem_nil), List.forall_mem_cons.mpr ⟨(List.forall_mem_cons.mpr ⟨Or.inl ⟨kc_171, eh_171⟩, fun _ h => absurd h List.not_mem_nil⟩), List.forall_mem_cons.mpr ⟨(List.forall_mem_cons.mpr ⟨Or.inl ⟨kc_175, eh_175⟩, fun _ h => absurd h List.not_mem_nil⟩), List.forall_mem_cons.mpr ⟨(List.forall_mem_cons.mpr ⟨Or.inl ⟨kc_179, eh_179⟩, fun _ h => absurd h List.not_mem_nil⟩), List.forall_mem_cons.mpr ⟨(List.forall_mem_cons.mpr ⟨Or.inl ⟨kc_172, eh_172⟩, fun _ h => absurd h List.not_mem_nil⟩), fun _ h => absurd h List.not_mem_nil⟩⟩⟩⟩⟩⟩⟩⟩⟩⟩⟩⟩⟩⟩⟩⟩⟩⟩⟩⟩⟩⟩⟩⟩⟩⟩⟩⟩⟩⟩⟩⟩
theorem kt_2 {X : pH → Prop} (h182 : ∀ d, k_I eG X eKT d → k_S eG X kk_182 d) (h183 : ∀ d, k_I eG X eKT d → k_S eG X kk_183 d) (h184 : ∀ d, k_I eG X eKT d → k_S eG X kk_184 d) (h185 : ∀ d, k_I eG X eKT d → k_S eG X kk_185 d) (h186 : ∀ d, k_I eG X eKT d → k_S eG X kk_186 d) (h187 : ∀ d, k_I eG X eKT d → k_S eG X kk_187 d) : k_L X et_2 := List.forall_mem_cons.mpr ⟨(List.forall_mem_cons.mpr ⟨Or.inl ⟨kc_176, eh_176⟩, fun _ h => absurd h List.not_mem_nil⟩), List.forall_mem_cons.mpr ⟨(fun _ h => absurd h List.not_mem_nil), List.forall_mem_cons.mpr ⟨(fun _ h => absurd h List.not_mem_nil), List.forall_mem_cons.mpr ⟨(List.forall_mem_cons.mpr ⟨Or.inl ⟨kc_129, eh_129⟩, fun _ h => absurd h List.not_mem_nil⟩), List.forall_mem_cons.mpr ⟨(List.forall_mem_cons.mpr ⟨Or.inl ⟨kc_160, eh_160⟩, fun _ h => absurd h List.not_mem_nil⟩), List.forall_mem_cons.mpr ⟨(fun _ h => absurd h List.not_mem_nil), List.forall_mem_cons.mpr ⟨(fun _ h => absurd h List.not_mem_nil), List.forall_mem_cons.mpr ⟨(List.forall_mem_cons.mpr ⟨Or.inl ⟨kc_149, eh_149⟩, List.forall_mem_cons.mpr ⟨Or.inl ⟨kc_164, eh_164⟩, fun _ h => absurd h List.not_mem_nil⟩⟩), List.forall_mem_cons.mpr ⟨(fun _ h => absurd h List.not_mem_nil), List.forall_mem_cons.mpr ⟨(fun _ h => absurd h List.not_mem_nil), List.forall_mem_cons.mpr ⟨(fun _ h => absurd h List.not_mem_nil), List.forall_mem_cons.mpr ⟨(fun _ h => absurd h List.not_mem_nil), List.forall_mem_cons.mpr ⟨(List.forall_mem_cons.mpr ⟨Or.inl ⟨kc_137, eh_137⟩, fun _ h => absurd h List.not_mem_nil⟩), List.forall_mem_cons.mpr ⟨(List.forall_mem_cons.mpr ⟨Or.inl ⟨kc_139, eh_139⟩, fun _ h => absurd h List.not_mem_nil⟩), List.forall_mem_cons.mpr ⟨(List.forall_mem_cons.mpr ⟨Or.inl ⟨kc_133, eh_133⟩, fun _ h => absurd h List.not_mem_nil⟩), List.forall_mem_cons.mpr ⟨(List.forall_mem_cons.mpr ⟨Or.inl ⟨kc_82, eh_82⟩, List.forall_mem_cons.mpr ⟨Or.inl ⟨kc_130, eh_130⟩, fun _ h => absurd h List.not_mem_nil⟩⟩), List.forall_mem_cons.mpr ⟨(fun _ h => absurd h List.not_mem_nil), List.forall_mem_cons.mpr ⟨(fun _ h => absurd h List.not_mem_nil), List.forall_mem_cons.mpr ⟨(List.forall_mem_cons.mpr ⟨Or.inl ⟨kc_85, eh_85⟩, fun _ h => absurd h List.not_mem_nil⟩), List.forall_mem_cons.mpr ⟨(List.forall_mem_cons.mpr ⟨Or.inl ⟨kc_86, eh_86⟩, fun _ h => absurd h List.not_mem_nil⟩), List.forall_mem_cons.mpr ⟨(fun _ h => absurd h List.not_mem_nil), List.forall_mem_cons.mpr ⟨(List.forall_mem_cons.mpr ⟨Or.inl ⟨kc_81, eh_81⟩, fun _ h => absurd h List.not_mem_nil⟩), List.forall_mem_cons.mpr ⟨(fun _ h => absurd h List.not_mem_nil), List.forall_mem_cons.mpr ⟨(fun _ h => absurd h List.not_mem_nil), List.forall_mem_cons.mpr ⟨(List.forall_mem_cons.mpr ⟨Or.inl ⟨kc_156, eh_156⟩, List.forall_mem_cons.mpr ⟨Or.inl ⟨kc_157, eh_157⟩, fun _ h => absurd h List.not_mem_nil⟩⟩), List.forall_mem_cons.mpr ⟨(fun _ h => absurd h List.not_mem_nil), List.forall_mem_cons.mpr ⟨(fun _ h => absurd h List.not_mem_nil), List.forall_mem_cons.mpr ⟨(List.forall_mem_cons.mpr ⟨Or.inl ⟨kc_131, eh_131⟩, List.forall_mem_cons.mpr ⟨Or.inl ⟨kc_144, eh_144⟩, fun _ h => absurd h List.not_mem_nil⟩⟩), List.forall_mem_cons.mpr ⟨(List.forall_mem_cons.mpr ⟨Or.inl ⟨kc_127, eh_127⟩, List.forall_mem_cons.mpr ⟨Or.inl ⟨kc_142, eh_142⟩, fun _ h => absurd h List.not_mem_nil⟩⟩), List.forall_mem_cons.mpr ⟨(fun _ h => absurd h List.not_mem_nil), List.forall_mem_cons.mpr ⟨(List.forall_mem_cons.mpr ⟨Or.inl ⟨kc_135, eh_135⟩, List.forall_mem_cons.mpr ⟨Or.inl ⟨kc_147, eh_147⟩, fun _ h => absurd h List.not_mem_nil⟩⟩), List.forall_mem_cons.mpr ⟨(List.forall_mem_cons.mpr ⟨Or.inl ⟨kc_134, eh_134⟩, List.forall_mem_cons.mpr ⟨Or.inl ⟨kc_146, eh_146⟩, fun _ h => absurd h List.not_mem_nil⟩⟩), fun _ h => absurd h List.not_mem_nil⟩⟩⟩⟩⟩⟩⟩⟩⟩⟩⟩⟩⟩⟩⟩⟩⟩⟩⟩⟩⟩⟩⟩⟩⟩⟩⟩⟩⟩⟩⟩⟩
theorem kt_3 {X : pH → Prop} (h182 : ∀ d, k_I eG X eKT d → k_S eG X kk_182 d) (h183 : ∀ d, k_I eG X eKT d → k_S eG X kk_183 d) (h184 : ∀ d, k_I eG X eKT d → k_S eG X kk_184 d) (h185 : ∀ d, k_I eG X eKT d → k_S eG X kk_185 d) (h186 : ∀ d, k_I eG X eKT d → k_S eG X kk_186 d) (h187 : ∀ d, k_I eG X eKT d → k_S eG X kk_187 d) : k_L X et_3 := List.forall_mem_cons.mpr ⟨(List.forall_mem_cons.mpr ⟨Or.inl ⟨kc_140, eh_140⟩, List.forall_mem_cons.mpr ⟨Or.inl ⟨kc_148, eh_148⟩, fun _ h => absurd h List.not_mem_nil⟩⟩), List.forall_mem_cons.mpr ⟨(fun _ h => absurd h List.not_mem_nil), List.forall_mem_cons.mpr ⟨(fun _ h => absurd h List.not_mem_nil), List.forall_mem_cons.mpr ⟨(List.forall_mem_cons.mpr ⟨Or.inl ⟨kc_161, eh_161⟩, fun _ h => absurd h List.not_mem_nil⟩), List.forall_mem_cons.mpr ⟨(List.forall_mem_cons.mpr ⟨Or.inl ⟨kc_177, eh_177⟩, fun _ h => absurd h List.not_mem_nil⟩), List.forall_mem_cons.mpr ⟨(List.forall_mem_cons.mpr ⟨Or.inl ⟨kc_153, eh_153⟩, fun _ h => absurd h List.not_mem_nil⟩), List.forall_mem_cons.mpr ⟨(fun _ h => absurd h List.not_mem_nil), List.forall_mem_cons.mpr ⟨(List.forall_mem_cons.mpr ⟨Or.inl ⟨kc_178, eh_178⟩, fun _ h => absurd h List.not_mem_nil⟩), List.forall_mem_cons.mpr ⟨(fun _ h => absurd h List.not_mem_nil), List.forall_mem_cons.mpr ⟨(List.forall_mem_cons.mpr ⟨Or.inl ⟨kc_180, eh_180⟩, fun _ h => absurd h List.not_mem_nil⟩), List.forall_mem_cons.mpr ⟨(List.forall_mem_cons.mpr ⟨Or.inl ⟨kc_174, eh_174⟩, fun _ h => absurd h List.not_mem_nil⟩), List.forall_mem_cons.mpr ⟨(fun _ h => absurd h List.not_mem_nil), List.forall_mem_cons.mpr ⟨(fun _ h => absurd h List.not_mem_nil), List.forall_mem_cons.mpr ⟨(List.forall_mem_cons.mpr ⟨Or.inl ⟨kc_65, eh_65⟩, fun _ h => absurd h List.not_mem_nil⟩), List.forall_mem_cons.mpr ⟨(List.forall_mem_cons.mpr ⟨Or.inl ⟨kc_61, eh_61⟩, fun _ h => absurd h List.not_mem_nil⟩), List.forall_mem_cons.mpr ⟨(List.forall_mem_cons.mpr ⟨Or.inl ⟨kc_40, eh_40⟩, fun _ h => absurd h List.not_mem_nil⟩), List.forall_mem_cons.mpr ⟨(List.forall_mem_cons.mpr ⟨Or.inl ⟨kc_80, eh_80⟩, fun _ h => absurd h List.not_mem_nil⟩), List.forall_mem_cons.mpr ⟨(fun _ h => absurd h List.not_mem_nil), List.forall_mem_cons.mpr ⟨(List.forall_mem_cons.mpr ⟨Or.inl ⟨kc_76, eh_76⟩, fun _ h => absurd h List.not_mem_nil⟩), List.forall_mem_cons.mpr ⟨(List.forall_mem_cons.mpr ⟨Or.inl ⟨kc_63, eh_63⟩, fun _ h => absurd h List.not_mem_nil⟩), List.forall_mem_cons.mpr ⟨(List.forall_mem_cons.mpr ⟨Or.inl ⟨kc_6, eh_6⟩, fun _ h => absurd h List.not_mem_nil⟩), List.forall_mem_cons.mpr ⟨(List.forall_mem_cons.mpr ⟨Or.inl ⟨kc_38, eh_38⟩, fun _ h => absurd h List.not_mem_nil⟩), List.forall_mem_cons.mpr ⟨(List.forall_mem_cons.mpr ⟨Or.inl ⟨kc_24, eh_24⟩, fun _ h => absurd h List.not_mem_nil⟩), List.forall_mem_cons.mpr ⟨(List.forall_mem_cons.mpr ⟨Or.inl ⟨kc_0, eh_0⟩, fun _ h => absurd h List.not_mem_nil⟩), List.forall_mem_cons.mpr ⟨(List.forall_mem_cons.mpr ⟨Or.inl ⟨kc_8, eh_8⟩, fun _ h => absurd h List.not_mem_nil⟩), List.forall_mem_cons.mpr ⟨(List.forall_mem_cons.mpr ⟨Or.inl ⟨kc_52, eh_52⟩, fun _ h => absurd h List.not_mem_nil⟩), List.forall_mem_cons.mpr ⟨(List.forall_mem_cons.mpr ⟨Or.inl ⟨kc_21, eh_21⟩, fun _ h => absurd h List.not_mem_nil⟩), List.forall_mem_cons.mpr ⟨(fun _ h => absurd h List.not_mem_nil), List.forall_mem_cons.mpr ⟨(fun _ h => absurd h List.not_mem_nil), List.forall_mem_cons.mpr ⟨(fun _ h => absurd h List.not_mem_nil), List.forall_mem_cons.mpr ⟨(List.forall_mem_cons.mpr ⟨Or.inl ⟨kc_57, eh_57⟩, fun _ h => absurd h List.not_mem_nil⟩), List.forall_mem_cons.mpr ⟨(List.forall_mem_cons.mpr ⟨Or.inl ⟨kc_50, eh_50⟩, fun _ h => absurd h List.not_mem_nil⟩), fun _ h => absurd h List.not_mem_nil⟩⟩⟩⟩⟩⟩⟩⟩⟩⟩⟩⟩⟩⟩⟩⟩⟩⟩⟩⟩⟩⟩⟩⟩⟩⟩⟩⟩⟩⟩⟩⟩
theorem kt_4 {X : pH → Prop} (h182 : ∀ d, k_I eG X eKT d → k_S eG X kk_182 d) (h183 : ∀ d, k_I eG X eKT d → k_S eG X kk_183 d) (h184 : ∀ d, k_I eG X eKT d → k_S eG X kk_184 d) (h185 : ∀ d, k_I eG X eKT d → k_S eG X kk_185 d) (h186 : ∀ d, k_I eG X eKT d → k_S eG X kk_186 d) (h187 : ∀ d, k_I eG X eKT d → k_S eG X kk_187 d) : k_L X et_4 := List.forall_mem_cons.mpr ⟨(List.forall_mem_cons.mpr ⟨Or.inl ⟨kc_12, eh_12⟩, fun _ h => absurd h List.not_mem_nil⟩), List.forall_mem_cons.mpr ⟨(List.forall_mem_cons.mpr ⟨Or.inl ⟨kc_23, eh_23⟩, fun _ h => absurd h List.not_mem_nil⟩), List.forall_mem_cons.mpr ⟨(List.forall_mem_cons.mpr ⟨Or.inl ⟨kc_32, eh_32⟩, fun _ h => absurd h List.not_mem_nil⟩), List.forall_mem_cons.mpr ⟨(List.forall_mem_cons.mpr ⟨Or.inl ⟨kc_48, eh_48⟩, fun _ h => absurd h List.not_mem_nil⟩), List.forall_mem_cons.mpr ⟨(List.forall_mem_cons.mpr ⟨Or.inl ⟨kc_34, eh_34⟩, fun _ h => absurd h List.not_mem_nil⟩), List.forall_mem_cons.mpr ⟨(List.forall_mem_cons.mpr ⟨Or.inl ⟨kc_46, eh_46⟩, fun _ h => absurd h List.not_mem_nil⟩), List.forall_mem_cons.mpr ⟨(List.forall_mem_cons.mpr ⟨Or.inl ⟨kc_10, eh_10⟩, fun _ h => absurd h List.not_mem_nil⟩), List.forall_mem_cons.mpr ⟨(fun _ h => absurd h List.not_mem_nil), List.forall_mem_cons.mpr ⟨(List.forall_mem_cons.mpr ⟨Or.inl ⟨kc_167, eh_167⟩, fun _ h => absurd h List.not_mem_nil⟩), List.forall_mem_cons.mpr ⟨(List.forall_mem_cons.mpr ⟨Or.inl ⟨kc_28, eh_28⟩, fun _ h => absurd h List.not_mem_nil⟩), List.forall_mem_cons.mpr ⟨(fun _ h => absurd h List.not_mem_nil), List.forall_mem_cons.mpr ⟨(List.forall_mem_cons.mpr ⟨Or.inl ⟨kc_4, eh_4⟩, fun _ h => absurd h List.not_mem_nil⟩), List.forall_mem_cons.mpr ⟨(List.forall_mem_cons.mpr ⟨Or.inl ⟨kc_54, eh_54⟩, fun _ h => absurd h List.not_mem_nil⟩), List.forall_mem_cons.mpr ⟨(fun _ h => absurd h List.not_mem_nil), List.forall_mem_cons.mpr ⟨(List.forall_mem_cons.mpr ⟨Or.inl ⟨kc_43, eh_43⟩, fun _ h => absurd h List.not_mem_nil⟩), List.forall_mem_cons.mpr ⟨(List.forall_mem_cons.mpr ⟨Or.inl ⟨kc_168, eh_168⟩, fun _ h => absurd h List.not_mem_nil⟩), List.forall_mem_cons.mpr ⟨(List.forall_mem_cons.mpr ⟨Or.inl ⟨kc_55, eh_55⟩, fun _ h => absurd h List.not_mem_nil⟩), List.forall_mem_cons.mpr ⟨(List.forall_mem_cons.mpr ⟨Or.inl ⟨kc_44, eh_44⟩, fun _ h => absurd h List.not_mem_nil⟩), List.forall_mem_cons.mpr ⟨(List.forall_mem_cons.mpr ⟨Or.inl ⟨kc_16, eh_16⟩, fun _ h => absurd h List.not_mem_nil⟩), List.forall_mem_cons.mpr ⟨(List.forall_mem_cons.mpr ⟨Or.inl ⟨kc_2, eh_2⟩, fun _ h => absurd h List.not_mem_nil⟩), List.forall_mem_cons.mpr ⟨(List.forall_mem_cons.mpr ⟨Or.inl ⟨kc_18, eh_18⟩, fun _ h => absurd h List.not_mem_nil⟩), List.forall_mem_cons.mpr ⟨(List.forall_mem_cons.mpr ⟨Or.inl ⟨kc_42, eh_42⟩, fun _ h => absurd h List.not_mem_nil⟩), List.forall_mem_cons.mpr ⟨(List.forall_mem_cons.mpr ⟨Or.inl ⟨kc_36, eh_36⟩, fun _ h => absurd h List.not_mem_nil⟩), List.forall_mem_cons.mpr ⟨(fun _ h => absurd h List.not_mem_nil), List.forall_mem_cons.mpr ⟨(List.forall_mem_cons.mpr ⟨Or.inl ⟨kc_126, eh_126⟩, fun _ h => absurd h List.not_mem_nil⟩), List.forall_mem_cons.mpr ⟨(List.forall_mem_cons.mpr ⟨Or.inl ⟨kc_152, eh_152⟩, fun _ h => absurd h List.not_mem_nil⟩), List.forall_mem_cons.mpr ⟨(List.forall_mem_cons.mpr ⟨Or.inl ⟨kc_97, eh_97⟩, fun _ h => absurd h List.not_mem_nil⟩), List.forall_mem_cons.mpr ⟨(fun _ h => absurd h List.not_mem_nil), List.forall_mem_cons.mpr ⟨(List.forall_mem_cons.mpr ⟨Or.inl ⟨kc_30, eh_30⟩, fun _ h => absurd h List.not_mem_nil⟩), List.forall_mem_cons.mpr ⟨(List.forall_mem_cons.mpr ⟨Or.inl ⟨kc_20, eh_20⟩, fun _ h => absurd h List.not_mem_nil⟩), List.forall_mem_cons.mpr ⟨(List.forall_mem_cons.mpr ⟨Or.inl ⟨kc_26, eh_26⟩, fun _ h => absurd h List.not_mem_nil⟩), List.forall_mem_cons.mpr ⟨(fun _ h => absurd h List.not_mem_nil), fun _ h => absurd h List.not_mem_nil⟩⟩⟩⟩⟩⟩⟩⟩⟩⟩⟩⟩⟩⟩⟩⟩⟩⟩⟩⟩⟩⟩⟩⟩⟩⟩⟩⟩⟩⟩⟩⟩
theorem kt_5 {X : pH → Prop} (h182 : ∀ d, k_I eG X eKT d → k_S eG X kk_182 d) (h183 : ∀ d, k_I eG X eKT d → k_S eG X kk_183 d) (h184 : ∀ d, k_I eG X eKT d → k_S eG X kk_184 d) (h185 : ∀ d, k_I eG X eKT d → k_S eG X kk_185 d) (h186 : ∀ d, k_I eG X eKT d → k_S eG X kk_186 d) (h187 : ∀ d, k_I eG X eKT d → k_S eG X kk_187 d) : k_L X et_5 := List.forall_mem_cons.mpr ⟨(List.forall_mem_cons.mpr ⟨Or.inl ⟨kc_59, eh_59⟩, fun _ h => absurd h List.not_mem_nil⟩), List.forall_mem_cons.mpr ⟨(fun _ h => absurd h List.not_mem_nil), List.forall_mem_cons.mpr ⟨(List.forall_mem_cons.mpr ⟨Or.inl ⟨kc_173, eh_173⟩, fun _ h => absurd h List.not_mem_nil⟩), List.forall_mem_cons.mpr ⟨(fun _ h => absurd h List.not_mem_nil), List.forall_mem_cons.mpr ⟨(List.forall_mem_cons.mpr ⟨Or.inl ⟨kc_14, eh_14⟩, fun _ h => absurd h List.not_mem_nil⟩), List.forall_mem_cons.mpr ⟨(List.forall_mem_cons.mpr ⟨Or.inl ⟨kc_98, eh_98⟩, fun _ h => absurd h List.not_mem_nil⟩), List.forall_mem_cons.mpr ⟨(List.forall_mem_cons.mpr ⟨Or.inl ⟨kc_68, eh_68⟩, fun _ h => absurd h List.not_mem_nil⟩), List.forall_mem_cons.mpr ⟨(List.forall_mem_cons.mpr ⟨Or.inl ⟨kc_69, eh_69⟩, fun _ h => absurd h List.not_mem_nil⟩), List.forall_mem_cons.mpr ⟨(List.forall_mem_cons.mpr ⟨Or.inl ⟨kc_79, eh_79⟩, fun _ h => absurd h List.not_mem_nil⟩), List.forall_mem_cons.mpr ⟨(fun _ h => absurd h List.not_mem_nil), List.forall_mem_cons.mpr ⟨(fun _ h => absurd h List.not_mem_nil), List.forall_mem_cons.mpr ⟨(List.forall_mem_cons.mpr ⟨Or.inl ⟨kc_89, eh_89⟩, fun _ h => absurd h List.not_mem_nil⟩), List.forall_mem_cons.mpr ⟨(fun _ h => absurd h List.not_mem_nil), List.forall_mem_cons.mpr ⟨(List.forall_mem_cons.mpr ⟨Or.inr h187, fun _ h => absurd h List.not_mem_nil⟩), List.forall_mem_cons.mpr ⟨(List.forall_mem_cons.mpr ⟨Or.inl ⟨kc_62, eh_62⟩, fun _ h => absurd h List.not_mem_nil⟩), List.forall_mem_cons.mpr ⟨(fun _ h => absurd h List.not_mem_nil), List.forall_mem_cons.mpr ⟨(fun _ h => absurd h List.not_mem_nil), List.forall_mem_cons.mpr ⟨(List.forall_mem_cons.mpr ⟨Or.inl ⟨kc_41, eh_41⟩, fun _ h => absurd h List.not_mem_nil⟩), List.forall_mem_cons.mpr ⟨(fun _ h => absurd h List.not_mem_nil), List.forall_mem_cons.mpr ⟨(List.forall_mem_cons.mpr ⟨Or.inl ⟨kc_72, eh_72⟩, List.forall_mem_cons.mpr ⟨Or.inl ⟨kc_83, eh_83⟩, List.forall_mem_cons.mpr ⟨Or.inl ⟨kc_84, eh_84⟩, List.forall_mem_cons.mpr ⟨Or.inl ⟨kc_99, eh_99⟩, List.forall_mem_cons.mpr ⟨Or.inl ⟨kc_100, eh_100⟩, List.forall_mem_cons.mpr ⟨Or.inl ⟨kc_105, eh_105⟩, List.forall_mem_cons.mpr ⟨Or.inl ⟨kc_106, eh_106⟩, List.forall_mem_cons.mpr ⟨Or.inl ⟨kc_107, eh_107⟩, List.forall_mem_cons.mpr ⟨Or.inl ⟨kc_108, eh_108⟩, List.forall_mem_cons.mpr ⟨Or.inl ⟨kc_109, eh_109⟩, List.forall_mem_cons.mpr ⟨Or.inl ⟨kc_110, eh_110⟩, List.forall_mem_cons.mpr ⟨Or.inl ⟨kc_111, eh_111⟩, List.forall_mem_cons.mpr ⟨Or.inl ⟨kc_112, eh_112⟩, List.forall_mem_cons.mpr ⟨Or.inl ⟨kc_113, eh_113⟩, List.forall_mem_cons.mpr ⟨Or.inl ⟨kc_114, eh_114⟩, List.forall_mem_cons.mpr ⟨Or.inl ⟨kc_115, eh_115⟩, List.forall_mem_cons.mpr ⟨Or.inl ⟨kc_116, eh_116⟩, List.forall_mem_cons.mpr ⟨Or.inl ⟨kc_117, eh_117⟩, List.forall_mem_cons.mpr ⟨Or.inl ⟨kc_118, eh_118⟩, List.forall_mem_cons.mpr ⟨Or.inl ⟨kc_119, eh_119⟩, List.forall_mem_cons.mpr ⟨Or.inl ⟨kc_120, eh_120⟩, List.forall_mem_cons.mpr ⟨Or.inl ⟨kc_121, eh_121⟩, List.forall_mem_cons.mpr ⟨Or.inl ⟨kc_122, eh_122⟩, List.forall_mem_cons.mpr ⟨Or.inl ⟨kc_123, eh_123⟩, List.forall_mem_cons.mpr ⟨Or.inl ⟨kc_124, eh_124⟩, List.forall_mem_cons.mpr ⟨Or.inl ⟨kc_125, eh_125⟩, fun _ h => absurd h List.not_mem_nil⟩⟩⟩⟩⟩⟩⟩⟩⟩⟩⟩⟩⟩⟩⟩⟩⟩⟩⟩⟩⟩⟩⟩⟩⟩⟩), List.forall_mem_cons.mpr ⟨(fun _ h => absurd h List.not_mem_nil), List.forall_mem_cons.mpr ⟨(List.forall_mem_cons.mpr ⟨Or.inl ⟨kc_77, eh_77⟩, fun _ h => absurd h List.not_mem_nil⟩), List.forall_mem_cons.mpr ⟨(List.forall_mem_cons.mpr ⟨Or.inl ⟨kc_64, eh_64⟩, fun _ h => absurd h List.not_mem_nil⟩), List.forall_mem_cons.mpr ⟨(List.forall_mem_cons.mpr ⟨Or.inl ⟨kc_7, eh_7⟩, fun _ h => absurd h List.not_mem_nil⟩), List.forall_mem_cons.mpr ⟨(List.forall_mem_cons.mpr ⟨Or.inl ⟨kc_39, eh_39⟩, fun _ h => absurd h List.not_mem_nil⟩), List.forall_mem_cons.mpr ⟨(fun _ h => absurd h List.not_mem_nil), List.forall_mem_cons.mpr ⟨(fun _ h => absurd h List.not_mem_nil), List.forall_mem_cons.mpr ⟨(List.forall_mem_cons.mpr ⟨Or.inl ⟨kc_25, eh_25⟩, fun _ h => absurd h List.not_mem_nil⟩), List.forall_mem_cons.mpr ⟨(fun _ h => absurd h List.not_mem_nil), List.forall_mem_cons.mpr ⟨(List.forall_mem_cons.mpr ⟨Or.inl ⟨kc_1, eh_1⟩, fun _ h => absurd h List.not_mem_nil⟩), List.forall_mem_cons.mpr ⟨(fun _ h => absurd h List.not_mem_nil), List.forall_mem_cons.mpr ⟨(List.forall_mem_cons.mpr ⟨Or.inl ⟨kc_92, eh_92⟩, fun _ h => absurd h List.not_mem_nil⟩), fun _ h => absurd h List.not_mem_nil⟩⟩⟩⟩⟩⟩⟩⟩⟩⟩⟩⟩⟩⟩⟩⟩⟩⟩⟩⟩⟩⟩⟩⟩⟩⟩⟩⟩⟩⟩⟩⟩
theorem kt_6 {X : pH → Prop} (h182 : ∀ d, k_I eG X eKT d → k_S eG X kk_182 d) (h183 : ∀ d, k_I eG X eKT d → k_S eG X kk_183 d) (h184 : ∀ d, k_I eG X eKT d → k_S eG X kk_184 d) (h185 : ∀ d, k_I eG X eKT d → k_S eG X kk_185 d) (h186 : ∀ d, k_I eG X eKT d → k_S eG X kk_186 d) (h187 : ∀ d, k_I eG X eKT d → k_S eG X kk_187 d) : k_L X et_6 := List.forall_mem_cons.mpr ⟨(fun _ h => absurd h List.not_mem_nil), List.forall_mem_cons.mpr ⟨(List.forall_mem_cons.mpr ⟨Or.inl ⟨kc_71, eh_71⟩, fun _ h => absurd h List.not_mem_nil⟩), List.forall_mem_cons.mpr ⟨(List.forall_mem_cons.mpr ⟨Or.inl ⟨kc_9, eh_9⟩, fun _ h => absurd h List.not_mem_nil⟩), List.forall_mem_cons.mpr ⟨(List.forall_mem_cons.mpr ⟨Or.inl ⟨kc_53, eh_53⟩, fun _ h => absurd h List.not_mem_nil⟩), List.forall_mem_cons.mpr ⟨(fun _ h => absurd h List.not_mem_nil), List.forall_mem_cons.mpr ⟨(fun _ h => absurd h List.not_mem_nil), List.forall_mem_cons.mpr ⟨(fun _ h => absurd h List.not_mem_nil), List.forall_mem_cons.mpr ⟨(fun _ h => absurd h List.not_mem_nil), List.forall_mem_cons.mpr ⟨(List.forall_mem_cons.mpr ⟨Or.inl ⟨kc_22, eh_22⟩, fun _ h => absurd h List.not_mem_nil⟩), List.forall_mem_cons.mpr ⟨(fun _ h => absurd h List.not_mem_nil), List.forall_mem_cons.mpr ⟨(fun _ h => absurd h List.not_mem_nil), List.forall_mem_cons.mpr ⟨(fun _ h => absurd h List.not_mem_nil), List.forall_mem_cons.mpr ⟨(fun _ h => absurd h List.not_mem_nil), List.forall_mem_cons.mpr ⟨(fun _ h => absurd h List.not_mem_nil), List.forall_mem_cons.mpr ⟨(fun _ h => absurd h List.not_mem_nil), List.forall_mem_cons.mpr ⟨(fun _ h => absurd h List.not_mem_nil), List.forall_mem_cons.mpr ⟨(fun _ h => absurd h List.not_mem_nil), List.forall_mem_cons.mpr ⟨(List.forall_mem_cons.mpr ⟨Or.inl ⟨kc_58, eh_58⟩, fun _ h => absurd h List.not_mem_nil⟩), List.forall_mem_cons.mpr ⟨(List.forall_mem_cons.mpr ⟨Or.inl ⟨kc_51, eh_51⟩, fun _ h => absurd h List.not_mem_nil⟩), List.forall_mem_cons.mpr ⟨(List.forall_mem_cons.mpr ⟨Or.inl ⟨kc_13, eh_13⟩, fun _ h => absurd h List.not_mem_nil⟩), List.forall_mem_cons.mpr ⟨(fun _ h => absurd h List.not_mem_nil), List.forall_mem_cons.mpr ⟨(fun _ h => absurd h List.not_mem_nil), List.forall_mem_cons.mpr ⟨(List.forall_mem_cons.mpr ⟨Or.inl ⟨kc_73, eh_73⟩, fun _ h => absurd h List.not_mem_nil⟩), List.forall_mem_cons.mpr ⟨(fun _ h => absurd h List.not_mem_nil), List.forall_mem_cons.mpr ⟨(List.forall_mem_cons.mpr ⟨Or.inr h186, fun _ h => absurd h List.not_mem_nil⟩), List.forall_mem_cons.mpr ⟨(List.forall_mem_cons.mpr ⟨Or.inl ⟨kc_33, eh_33⟩, fun _ h => absurd h List.not_mem_nil⟩), List.forall_mem_cons.mpr ⟨(List.forall_mem_cons.mpr ⟨Or.inl ⟨kc_49, eh_49⟩, fun _ h => absurd h List.not_mem_nil⟩), List.forall_mem_cons.mpr ⟨(List.forall_mem_cons.mpr ⟨Or.inl ⟨kc_35, eh_35⟩, fun _ h => absurd h List.not_mem_nil⟩), List.forall_mem_cons.mpr ⟨(List.forall_mem_cons.mpr ⟨Or.inl ⟨kc_47, eh_47⟩, fun _ h => absurd h List.not_mem_nil⟩), List.forall_mem_cons.mpr ⟨(List.forall_mem_cons.mpr ⟨Or.inl ⟨kc_11, eh_11⟩, fun _ h => absurd h List.not_mem_nil⟩), List.forall_mem_cons.mpr ⟨(fun _ h => absurd h List.not_mem_nil), List.forall_mem_cons.mpr ⟨(fun _ h => absurd h List.not_mem_nil), fun _ h => absurd h List.not_mem_nil⟩⟩⟩⟩⟩⟩⟩⟩⟩⟩⟩⟩⟩⟩⟩⟩⟩⟩⟩⟩⟩⟩⟩⟩⟩⟩⟩⟩⟩⟩⟩⟩
theorem kt_7 {X : pH → Prop} (h182 : ∀ d, k_I eG X eKT d → k_S eG X kk_182 d) (h183 : ∀ d, k_I eG X eKT d → k_S eG X kk_183 d) (h184 : ∀ d, k_I eG X eKT d → k_S eG X kk_184 d) (h185 : ∀ d, k_I eG X eKT d → k_S eG X kk_185 d) (h186 : ∀ d, k_I eG X eKT d → k_S eG X kk_186 d) (h187 : ∀ d, k_I eG X eKT d → k_S eG X kk_187 d) : k_L X et_7 := List.forall_mem_cons.mpr ⟨(fun _ h => absurd h List.not_mem_nil), List.forall_mem_cons.mpr ⟨(fun _ h => absurd h List.not_mem_nil), List.forall_mem_cons.mpr ⟨(List.forall_mem_cons.mpr ⟨Or.inl ⟨kc_93, eh_93⟩, fun _ h => absurd h List.not_mem_nil⟩), List.forall_mem_cons.mpr ⟨(List.forall_mem_cons.mpr ⟨Or.inl ⟨kc_75, eh_75⟩, fun _ h => absurd h List.not_mem_nil⟩), List.forall_mem_cons.mpr ⟨(List.forall_mem_cons.mpr ⟨Or.inl ⟨kc_29, eh_29⟩, fun _ h => absurd h List.not_mem_nil⟩), List.forall_mem_cons.mpr ⟨(fun _ h => absurd h List.not_mem_nil), List.forall_mem_cons.mpr ⟨(fun _ h => absurd h List.not_mem_nil), List.forall_mem_cons.mpr ⟨(List.forall_mem_cons.mpr ⟨Or.inl ⟨kc_5, eh_5⟩, fun _ h => absurd h List.not_mem_nil⟩), List.forall_mem_cons.mpr ⟨(fun _ h => absurd h List.not_mem_nil), List.forall_mem_cons.mpr ⟨(fun _ h => absurd h List.not_mem_nil), List.forall_mem_cons.mpr ⟨(fun _ h => absurd h List.not_mem_nil), List.forall_mem_cons.mpr ⟨(fun _ h => absurd h List.not_mem_nil), List.forall_mem_cons.mpr ⟨(fun _ h => absurd h List.not_mem_nil), List.forall_mem_cons.mpr ⟨(fun _ h => absurd h List.not_mem_nil), List.forall_mem_cons.mpr ⟨(fun _ h => absurd h List.not_mem_nil), List.forall_mem_cons.mpr ⟨(fun _ h => absurd h List.not_mem_nil), List.forall_mem_cons.mpr ⟨(fun _ h => absurd h List.not_mem_nil), List.forall_mem_cons.mpr ⟨(fun _ h => absurd h List.not_mem_nil), List.forall_mem_cons.mpr ⟨(fun _ h => absurd h List.not_mem_nil), List.forall_mem_cons.mpr ⟨(fun _ h => absurd h List.not_mem_nil), List.forall_mem_cons.mpr ⟨(fun _ h => absurd h List.not_mem_nil), List.forall_mem_cons.mpr ⟨(List.forall_mem_cons.mpr ⟨Or.inl ⟨kc_56, eh_56⟩, fun _ h => absurd h List.not_mem_nil⟩), List.forall_mem_cons.mpr ⟨(List.forall_mem_cons.mpr ⟨Or.inl ⟨kc_45, eh_45⟩, fun _ h => absurd h List.not_mem_nil⟩), List.forall_mem_cons.mpr ⟨(List.forall_mem_cons.mpr ⟨Or.inl ⟨kc_17, eh_17⟩, fun _ h => absurd h List.not_mem_nil⟩), List.forall_mem_cons.mpr ⟨(List.forall_mem_cons.mpr ⟨Or.inl ⟨kc_91, eh_91⟩, fun _ h => absurd h List.not_mem_nil⟩), List.forall_mem_cons.mpr ⟨(List.forall_mem_cons.mpr ⟨Or.inl ⟨kc_96, eh_96⟩, fun _ h => absurd h List.not_mem_nil⟩), List.forall_mem_cons.mpr ⟨(List.forall_mem_cons.mpr ⟨Or.inl ⟨kc_66, eh_66⟩, fun _ h => absurd h List.not_mem_nil⟩), List.forall_mem_cons.mpr ⟨(List.forall_mem_cons.mpr ⟨Or.inl ⟨kc_3, eh_3⟩, fun _ h => absurd h List.not_mem_nil⟩), List.forall_mem_cons.mpr ⟨(List.forall_mem_cons.mpr ⟨Or.inl ⟨kc_19, eh_19⟩, fun _ h => absurd h List.not_mem_nil⟩), List.forall_mem_cons.mpr ⟨(List.forall_mem_cons.mpr ⟨Or.inl ⟨kc_94, eh_94⟩, fun _ h => absurd h List.not_mem_nil⟩), List.forall_mem_cons.mpr ⟨(fun _ h => absurd h List.not_mem_nil), List.forall_mem_cons.mpr ⟨(fun _ h => absurd h List.not_mem_nil), fun _ h => absurd h List.not_mem_nil⟩⟩⟩⟩⟩⟩⟩⟩⟩⟩⟩⟩⟩⟩⟩⟩⟩⟩⟩⟩⟩⟩⟩⟩⟩⟩⟩⟩⟩⟩⟩⟩
theorem kt_8 {X : pH → Prop} (h182 : ∀ d, k_I eG X eKT d → k_S eG X kk_182 d) (h183 : ∀ d, k_I eG X eKT d → k_S eG X kk_183 d) (h184 : ∀ d, k_I eG X eKT d → k_S eG X kk_184 d) (h185 : ∀ d, k_I eG X eKT d → k_S eG X kk_185 d) (h186 : ∀ d, k_I eG X eKT d → k_S eG X kk_186 d) (h187 : ∀ d, k_I eG X eKT d → k_S eG X kk_187 d) : k_L X et_8 := List.forall_mem_cons.mpr ⟨(fun _ h => absurd h List.not_mem_nil), List.forall_mem_cons.mpr ⟨(fun _ h => absurd h List.not_mem_nil), List.forall_mem_cons.mpr ⟨(List.forall_mem_cons.mpr ⟨Or.inl ⟨kc_37, eh_37⟩, fun _ h => absurd h List.not_mem_nil⟩), List.forall_mem_cons.mpr ⟨(List.forall_mem_cons.mpr ⟨Or.inl ⟨kc_88, eh_88⟩, fun _ h => absurd h List.not_mem_nil⟩), List.forall_mem_cons.mpr ⟨(fun _ h => absurd h List.not_mem_nil), List.forall_mem_cons.mpr ⟨(List.forall_mem_cons.mpr ⟨Or.inr h185, fun _ h => absurd h List.not_mem_nil⟩), List.forall_mem_cons.mpr ⟨(List.forall_mem_cons.mpr ⟨Or.inr h182, List.forall_mem_cons.mpr ⟨Or.inr h183, List.forall_mem_cons.mpr ⟨Or.inr h184, fun _ h => absurd h List.not_mem_nil⟩⟩⟩), List.forall_mem_cons.mpr ⟨(List.forall_mem_cons.mpr ⟨Or.inl ⟨kc_31, eh_31⟩, fun _ h => absurd h List.not_mem_nil⟩), List.forall_mem_cons.mpr ⟨(fun _ h => absurd h List.not_mem_nil), List.forall_mem_cons.mpr ⟨(List.forall_mem_cons.mpr ⟨Or.inl ⟨kc_27, eh_27⟩, fun _ h => absurd h List.not_mem_nil⟩), List.forall_mem_cons.mpr ⟨(List.forall_mem_cons.mpr ⟨Or.inl ⟨kc_95, eh_95⟩, fun _ h => absurd h List.not_mem_nil⟩), List.forall_mem_cons.mpr ⟨(List.forall_mem_cons.mpr ⟨Or.inl ⟨kc_101, eh_101⟩, fun _ h => absurd h List.not_mem_nil⟩), List.forall_mem_cons.mpr ⟨(List.forall_mem_cons.mpr ⟨Or.inl ⟨kc_104, eh_104⟩, fun _ h => absurd h List.not_mem_nil⟩), List.forall_mem_cons.mpr ⟨(fun _ h => absurd h List.not_mem_nil), List.forall_mem_cons.mpr ⟨(List.forall_mem_cons.mpr ⟨Or.inl ⟨kc_60, eh_60⟩, fun _ h => absurd h List.not_mem_nil⟩), List.forall_mem_cons.mpr ⟨(List.forall_mem_cons.mpr ⟨Or.inl ⟨kc_67, eh_67⟩, fun _ h => absurd h List.not_mem_nil⟩), List.forall_mem_cons.mpr ⟨(fun _ h => absurd h List.not_mem_nil), List.forall_mem_cons.mpr ⟨(List.forall_mem_cons.mpr ⟨Or.inl ⟨kc_15, eh_15⟩, fun _ h => absurd h List.not_mem_nil⟩), List.forall_mem_cons.mpr ⟨(fun _ h => absurd h List.not_mem_nil), List.forall_mem_cons.mpr ⟨(List.forall_mem_cons.mpr ⟨Or.inl ⟨kc_87, eh_87⟩, fun _ h => absurd h List.not_mem_nil⟩), List.forall_mem_cons.mpr ⟨(fun _ h => absurd h List.not_mem_nil), fun _ h => absurd h List.not_mem_nil⟩⟩⟩⟩⟩⟩⟩⟩⟩⟩⟩⟩⟩⟩⟩⟩⟩⟩⟩⟩⟩
theorem kt_all {X : pH → Prop} (h182 : ∀ d, k_I eG X eKT d → k_S eG X kk_182 d) (h183 : ∀ d, k_I eG X eKT d → k_S eG X kk_183 d) (h184 : ∀ d, k_I eG X eKT d → k_S eG X kk_184 d) (h185 : ∀ d, k_I eG X eKT d → k_S eG X kk_185 d) (h186 : ∀ d, k_I eG X eKT d → k_S eG X kk_186 d) (h187 : ∀ d, k_I eG X eKT d → k_S eG X kk_187 d) : ∀ l ∈ et_A, k_L X l := List.forall_mem_cons.mpr ⟨kt_0 h182 h183 h184 h185 h186 h187, List.forall_mem_cons.mpr ⟨kt_1 h182 h183 h184 h185 h186 h187, List.forall_mem_cons.mpr ⟨kt_2 h182 h183 h184 h185 h186 h187, List.forall_mem_cons.mpr ⟨kt_3 h182 h183 h184 h185 h186 h187, List.forall_mem_cons.mpr ⟨kt_4 h182 h183 h184 h185 h186 h187, List.forall_mem_cons.mpr ⟨kt_5 h182 h183 h184 h185 h186 h187, List.forall_mem_cons.mpr ⟨kt_6 h182 h183 h184 h185 h186 h187, List.forall_mem_cons.mpr ⟨kt_7 h182 h183 h184 h185 h186 h187, List.forall_mem_cons.mpr ⟨kt_8 h182 h183 h184 h185 h186 h187, fun _ h => absurd h List.not_mem_nil⟩⟩⟩⟩⟩⟩⟩⟩⟩
theorem kt_at {X : pH → Prop} (h182 : ∀ d, k_I eG X eKT d → k_S eG X kk_182 d) (h183 : ∀ d, k_I eG X eKT d → k_S eG X kk_183 d) (h184 : ∀ d, k_I eG X eKT d → k_S eG X kk_184 d) (h185 : ∀ d, k_I eG X eKT d → k_S eG X kk_185 d) (h186 : ∀ d, k_I eG X eKT d → k_S eG X kk_186 d) (h187 : ∀ d, k_I eG X eKT d → k_S eG X kk_187 d) : ∀ y, ∀ k ∈ eKT y, k_G eG X eKT eDX 4000 k := by
  intro y k hk
  unfold eKT at hk
  split at hk
  · next l hl =>
    have h1 := kt_all h182 h183 h184 h185 h186 h187 l (List.mem_of_getElem? hl)
    rw [List.getD_eq_getElem?_getD] at hk
    cases hg : l[y % 32]? with
    | none => rw [hg] at hk; exact absurd hk List.not_mem_nil
    | some ks =>
      rw [hg] at hk
      exact h1 ks (List.mem_of_getElem? hg) k hk
  · exact absurd hk List.not_mem_nil
/-- every contract of the table holds at every depth -/
theorem kt_ok {X : pH → Prop} (h182 : ∀ d, k_I eG X eKT d → k_S eG X kk_182 d) (h183 : ∀ d, k_I eG X eKT d → k_S eG X kk_183 d) (h184 : ∀ d, k_I eG X eKT d → k_S eG X kk_184 d) (h185 : ∀ d, k_I eG X eKT d → k_S eG X kk_185 d) (h186 : ∀ d, k_I eG X eKT d → k_S eG X kk_186 d) (h187 : ∀ d, k_I eG X eKT d → k_S eG X kk_187 d) (hX : x_K X eDX) (d : Nat) : ∀ y, ∀ k ∈ eKT y, k_S eG X k d := k_all hX (kt_at h182 h183 h184 h185 h186 h187) d
end
section
/-! the library: indexOf of a text (String.indexOf and what it calls, Latin-1), printed in part by wip/e2/jdk.py -/
def jy_coder : MethodName := ⟨"java/lang/String", "coder", "()B"⟩
def jy_length : MethodName := ⟨"java/lang/String", "length", "()I"⟩
def jy_isL : MethodName := ⟨"java/lang/String", "isLatin1", "()Z"⟩
def jy_ixI : MethodName := ⟨"java/lang/String", "indexOf", "(I)I"⟩
def jy_ixII : MethodName := ⟨"java/lang/String", "indexOf", "(II)I"⟩
def jy_can : MethodName := ⟨"java/lang/StringLatin1", "canEncode", "(I)Z"⟩
def jy_ixL : MethodName := ⟨"java/lang/StringLatin1", "indexOf", "([BIII)I"⟩
def jy_ixC : MethodName := ⟨"java/lang/StringLatin1", "indexOfChar", "([BIII)I"⟩
def jy_bc : MethodName := ⟨"java/lang/Integer", "bitCount", "(I)I"⟩
def jy_ab : MethodName := ⟨"java/lang/Math", "abs", "(I)I"⟩
def jw_coder : List Cond := .code jy_coder prog_18_method_152_code 1 (some .byte) :: xe_T
def jw_length : List Cond := .code jy_length prog_18_method_54_code 1 (some .int) :: xe_T
def jw_isL : List Cond := .code jy_isL prog_18_method_154_code 1 (some .boolean) :: xe_T
def jw_ixI : List Cond := .code jy_ixI prog_18_method_79_code 2 (some .int) :: xe_T
def jw_ixII : List Cond := .code jy_ixII prog_18_method_80_code 3 (some .int) :: xe_T
def jw_can : List Cond := .code jy_can prog_19_method_4_code 1 (some .boolean) :: xe_T
def jw_ixL : List Cond := .code jy_ixL prog_19_method_22_code 4 (some .int) :: xe_T
def jw_ixC : List Cond := .code jy_ixC prog_19_method_23_code 6 (some .int) :: xe_T
def jw_bc : List Cond := .code jy_bc prog_16_method_49_code 1 (some .int) :: xe_T
def jw_ab : List Cond := .code jy_ab prog_17_method_59_code 1 (some .int) :: xe_T
theorem jx_633 : (.methodLink "java/lang/String" 633 jy_ixII : Cond) ∈ xe_T := xt_mem (z := 227) (by decide +kernel)
theorem jx_492 : (.methodLink "java/lang/String" 492 jy_isL : Cond) ∈ xe_T := xt_mem (z := 230) (by decide +kernel)
theorem jx_505 : (.methodLink "java/lang/String" 505 jy_length : Cond) ∈ xe_T := xt_mem (z := 234) (by decide +kernel)
theorem jx_335 : (.methodLink "java/lang/String" 335 jy_coder : Cond) ∈ xe_T := xt_mem (z := 237) (by decide +kernel)
theorem jx_637 : (.methodLink "java/lang/String" 637 jy_ixL : Cond) ∈ xe_T := xt_mem (z := 240) (by decide +kernel)
theorem jx_88 : (.methodLink "java/lang/StringLatin1" 88 jy_can : Cond) ∈ xe_T := xt_mem (z := 242) (by decide +kernel)
theorem jx_95 : (.methodLink "java/lang/StringLatin1" 95 jy_ixC : Cond) ∈ xe_T := xt_mem (z := 246) (by decide +kernel)
theorem jx_92 : (.methodLink "java/lang/StringLatin1" 92 Lib.Math.max.name : Cond) ∈ xe_T := xt_mem (z := 244) (by decide +kernel)
theorem jx_38 : (.methodLink "java/lang/StringLatin1" 38 Lib.Math.min.name : Cond) ∈ xe_T := xt_mem (z := 245) (by decide +kernel)
theorem jx_f38 : (.fieldLink "java/lang/String" 38 "java/lang/String" "COMPACT_STRINGS" "Z" : Cond) ∈ xe_T := xt_mem (z := 233) (by decide +kernel)
theorem jx_f15 : (.fieldLink "java/lang/String" 15 "java/lang/String" "coder" "B" : Cond) ∈ xe_T := xt_mem (z := 253) (by decide +kernel)
theorem jx_f9 : (.fieldLink "java/lang/String" 9 "java/lang/String" "value" "[B" : Cond) ∈ xe_T := xt_mem (z := 254) (by decide +kernel)
theorem jx_i_coder : (.instanceMethod jy_coder : Cond) ∈ xe_T := xt_mem (z := 238) (by decide +kernel)
theorem jx_s_coder : (.selects "java/lang/String" jy_coder jy_coder : Cond) ∈ xe_T := xt_mem (z := 239) (by decide +kernel)
theorem jx_i_length : (.instanceMethod jy_length : Cond) ∈ xe_T := xt_mem (z := 235) (by decide +kernel)
theorem jx_s_length : (.selects "java/lang/String" jy_length jy_length : Cond) ∈ xe_T := xt_mem (z := 236) (by decide +kernel)
theorem jx_i_isL : (.instanceMethod jy_isL : Cond) ∈ xe_T := xt_mem (z := 231) (by decide +kernel)
theorem jx_s_isL : (.selects "java/lang/String" jy_isL jy_isL : Cond) ∈ xe_T := xt_mem (z := 232) (by decide +kernel)
theorem jx_i_ixI : (.instanceMethod jy_ixI : Cond) ∈ xe_T := xt_mem (z := 225) (by decide +kernel)
theorem jx_s_ixI : (.selects "java/lang/String" jy_ixI jy_ixI : Cond) ∈ xe_T := xt_mem (z := 226) (by decide +kernel)
theorem jx_i_ixII : (.instanceMethod jy_ixII : Cond) ∈ xe_T := xt_mem (z := 228) (by decide +kernel)
theorem jx_s_ixII : (.selects "java/lang/String" jy_ixII jy_ixII : Cond) ∈ xe_T := xt_mem (z := 229) (by decide +kernel)
theorem jx_t_can : (.static jy_can : Cond) ∈ xe_T := xt_mem (z := 243) (by decide +kernel)
theorem jx_t_ixL : (.static jy_ixL : Cond) ∈ xe_T := xt_mem (z := 241) (by decide +kernel)
theorem jx_t_ixC : (.static jy_ixC : Cond) ∈ xe_T := xt_mem (z := 247) (by decide +kernel)
theorem jx_t_bc : (.static jy_bc : Cond) ∈ xe_T := xt_mem (z := 249) (by decide +kernel)
theorem jx_t_ab : (.static jy_ab : Cond) ∈ xe_T := xt_mem (z := 255) (by decide +kernel)
theorem jx_c_coder : (.code jy_coder prog_18_method_152_code 1 (some .byte) : Cond) ∈ xe_T := xt_mem (z := 1384) (by decide +kernel)
theorem jx_c_length : (.code jy_length prog_18_method_54_code 1 (some .int) : Cond) ∈ xe_T := xt_mem (z := 1383) (by decide +kernel)
theorem jx_c_isL : (.code jy_isL prog_18_method_154_code 1 (some .boolean) : Cond) ∈ xe_T := xt_mem (z := 1382) (by decide +kernel)
theorem jx_c_ixI : (.code jy_ixI prog_18_method_79_code 2 (some .int) : Cond) ∈ xe_T := xt_mem (z := 1380) (by decide +kernel)
theorem jx_c_ixII : (.code jy_ixII prog_18_method_80_code 3 (some .int) : Cond) ∈ xe_T := xt_mem (z := 1381) (by decide +kernel)
theorem jx_c_can : (.code jy_can prog_19_method_4_code 1 (some .boolean) : Cond) ∈ xe_T := xt_mem (z := 1386) (by decide +kernel)
theorem jx_c_ixL : (.code jy_ixL prog_19_method_22_code 4 (some .int) : Cond) ∈ xe_T := xt_mem (z := 1385) (by decide +kernel)
theorem jx_c_ixC : (.code jy_ixC prog_19_method_23_code 6 (some .int) : Cond) ∈ xe_T := xt_mem (z := 1387) (by decide +kernel)
theorem jx_c_bc : (.code jy_bc prog_16_method_49_code 1 (some .int) : Cond) ∈ xe_T := xt_mem (z := 1388) (by decide +kernel)
theorem jx_c_ab : (.code jy_ab prog_17_method_59_code 1 (some .int) : Cond) ∈ xe_T := xt_mem (z := 1389) (by decide +kernel)
theorem jx_k265 : (.constant "java/lang/Integer" 265 1431655765 : Cond) ∈ xe_T := xt_mem (z := 250) (by decide +kernel)
theorem jx_k266 : (.constant "java/lang/Integer" 266 858993459 : Cond) ∈ xe_T := xt_mem (z := 251) (by decide +kernel)
theorem jx_k267 : (.constant "java/lang/Integer" 267 252645135 : Cond) ∈ xe_T := xt_mem (z := 252) (by decide +kernel)
theorem jx_abT : (.static Lib.Math.abs.name : Cond) ∈ xe_T := xt_mem (z := 255) (by decide +kernel)
theorem jx_abC : (.code Lib.Math.abs.name Lib.Math.abs.code 1 (some .int) : Cond) ∈ xe_T := xt_mem (z := 1389) (by decide +kernel)
theorem jx_n_I : (.initialized "java/lang/Integer" : Cond) ∈ xe_T := xt_mem (z := 223) (by decide +kernel)
theorem jx_n_S : (.initialized "java/lang/String" : Cond) ∈ xe_T := xt_mem (z := 221) (by decide +kernel)
theorem jx_n_L1 : (.initialized "java/lang/StringLatin1" : Cond) ∈ xe_T := xt_mem (z := 222) (by decide +kernel)
theorem jd_coder_0 : decode prog_18_method_152_code 0 = .ok (.getstatic 38, 3) := by decide +kernel
theorem jd_coder_3 : decode prog_18_method_152_code 3 = .ok (.ifCond .eq 10, 3) := by decide +kernel
theorem jd_coder_6 : decode prog_18_method_152_code 6 = .ok (.aload_n 0, 1) := by decide +kernel
theorem jd_coder_7 : decode prog_18_method_152_code 7 = .ok (.getfield 15, 3) := by decide +kernel
theorem jd_coder_10 : decode prog_18_method_152_code 10 = .ok (.goto 4, 3) := by decide +kernel
theorem jd_coder_13 : decode prog_18_method_152_code 13 = .ok (.iconst 1, 1) := by decide +kernel
theorem jd_coder_14 : decode prog_18_method_152_code 14 = .ok (.ireturn, 1) := by decide +kernel
theorem jd_length_0 : decode prog_18_method_54_code 0 = .ok (.aload_n 0, 1) := by decide +kernel
theorem jd_length_1 : decode prog_18_method_54_code 1 = .ok (.getfield 9, 3) := by decide +kernel
theorem jd_length_4 : decode prog_18_method_54_code 4 = .ok (.arraylength, 1) := by decide +kernel
theorem jd_length_5 : decode prog_18_method_54_code 5 = .ok (.aload_n 0, 1) := by decide +kernel
theorem jd_length_6 : decode prog_18_method_54_code 6 = .ok (.invokevirtual 335, 3) := by decide +kernel
theorem jd_length_9 : decode prog_18_method_54_code 9 = .ok (.ishr, 1) := by decide +kernel
theorem jd_length_10 : decode prog_18_method_54_code 10 = .ok (.ireturn, 1) := by decide +kernel
theorem jd_isL_0 : decode prog_18_method_154_code 0 = .ok (.getstatic 38, 3) := by decide +kernel
theorem jd_isL_3 : decode prog_18_method_154_code 3 = .ok (.ifCond .eq 14, 3) := by decide +kernel
theorem jd_isL_6 : decode prog_18_method_154_code 6 = .ok (.aload_n 0, 1) := by decide +kernel
theorem jd_isL_7 : decode prog_18_method_154_code 7 = .ok (.getfield 15, 3) := by decide +kernel
theorem jd_isL_10 : decode prog_18_method_154_code 10 = .ok (.ifCond .ne 7, 3) := by decide +kernel
theorem jd_isL_13 : decode prog_18_method_154_code 13 = .ok (.iconst 1, 1) := by decide +kernel
theorem jd_isL_14 : decode prog_18_method_154_code 14 = .ok (.goto 4, 3) := by decide +kernel
theorem jd_isL_17 : decode prog_18_method_154_code 17 = .ok (.iconst 0, 1) := by decide +kernel
theorem jd_isL_18 : decode prog_18_method_154_code 18 = .ok (.ireturn, 1) := by decide +kernel
theorem jd_ixI_0 : decode prog_18_method_79_code 0 = .ok (.aload_n 0, 1) := by decide +kernel
theorem jd_ixI_1 : decode prog_18_method_79_code 1 = .ok (.iload_n 1, 1) := by decide +kernel
theorem jd_ixI_2 : decode prog_18_method_79_code 2 = .ok (.iconst 0, 1) := by decide +kernel
theorem jd_ixI_3 : decode prog_18_method_79_code 3 = .ok (.invokevirtual 633, 3) := by decide +kernel
theorem jd_ixI_6 : decode prog_18_method_79_code 6 = .ok (.ireturn, 1) := by decide +kernel
theorem jd_ixII_0 : decode prog_18_method_80_code 0 = .ok (.aload_n 0, 1) := by decide +kernel
theorem jd_ixII_1 : decode prog_18_method_80_code 1 = .ok (.invokevirtual 492, 3) := by decide +kernel
theorem jd_ixII_4 : decode prog_18_method_80_code 4 = .ok (.ifCond .eq 19, 3) := by decide +kernel
theorem jd_ixII_7 : decode prog_18_method_80_code 7 = .ok (.aload_n 0, 1) := by decide +kernel
theorem jd_ixII_8 : decode prog_18_method_80_code 8 = .ok (.getfield 9, 3) := by decide +kernel
theorem jd_ixII_11 : decode prog_18_method_80_code 11 = .ok (.iload_n 1, 1) := by decide +kernel
theorem jd_ixII_12 : decode prog_18_method_80_code 12 = .ok (.iload_n 2, 1) := by decide +kernel
theorem jd_ixII_13 : decode prog_18_method_80_code 13 = .ok (.aload_n 0, 1) := by decide +kernel
theorem jd_ixII_14 : decode prog_18_method_80_code 14 = .ok (.invokevirtual 505, 3) := by decide +kernel
theorem jd_ixII_17 : decode prog_18_method_80_code 17 = .ok (.invokestatic 637, 3) := by decide +kernel
theorem jd_ixII_20 : decode prog_18_method_80_code 20 = .ok (.goto 16, 3) := by decide +kernel
theorem jd_ixII_23 : decode prog_18_method_80_code 23 = .ok (.aload_n 0, 1) := by decide +kernel
theorem jd_ixII_24 : decode prog_18_method_80_code 24 = .ok (.getfield 9, 3) := by decide +kernel
theorem jd_ixII_27 : decode prog_18_method_80_code 27 = .ok (.iload_n 1, 1) := by decide +kernel
theorem jd_ixII_28 : decode prog_18_method_80_code 28 = .ok (.iload_n 2, 1) := by decide +kernel
theorem jd_ixII_29 : decode prog_18_method_80_code 29 = .ok (.aload_n 0, 1) := by decide +kernel
theorem jd_ixII_30 : decode prog_18_method_80_code 30 = .ok (.invokevirtual 505, 3) := by decide +kernel
theorem jd_ixII_33 : decode prog_18_method_80_code 33 = .ok (.invokestatic 640, 3) := by decide +kernel
theorem jd_ixII_36 : decode prog_18_method_80_code 36 = .ok (.ireturn, 1) := by decide +kernel
theorem jd_can_0 : decode prog_19_method_4_code 0 = .ok (.iload_n 0, 1) := by decide +kernel
theorem jd_can_1 : decode prog_19_method_4_code 1 = .ok (.ifCond .lt 14, 3) := by decide +kernel
theorem jd_can_4 : decode prog_19_method_4_code 4 = .ok (.iload_n 0, 1) := by decide +kernel
theorem jd_can_5 : decode prog_19_method_4_code 5 = .ok (.sipush 255, 3) := by decide +kernel
theorem jd_can_8 : decode prog_19_method_4_code 8 = .ok (.if_icmp .gt 7, 3) := by decide +kernel
theorem jd_can_11 : decode prog_19_method_4_code 11 = .ok (.iconst 1, 1) := by decide +kernel
theorem jd_can_12 : decode prog_19_method_4_code 12 = .ok (.goto 4, 3) := by decide +kernel
theorem jd_can_15 : decode prog_19_method_4_code 15 = .ok (.iconst 0, 1) := by decide +kernel
theorem jd_can_16 : decode prog_19_method_4_code 16 = .ok (.ireturn, 1) := by decide +kernel
theorem jd_ixL_0 : decode prog_19_method_22_code 0 = .ok (.iload_n 1, 1) := by decide +kernel
theorem jd_ixL_1 : decode prog_19_method_22_code 1 = .ok (.invokestatic 88, 3) := by decide +kernel
theorem jd_ixL_4 : decode prog_19_method_22_code 4 = .ok (.ifCond .ne 5, 3) := by decide +kernel
theorem jd_ixL_7 : decode prog_19_method_22_code 7 = .ok (.iconst (-1), 1) := by decide +kernel
theorem jd_ixL_8 : decode prog_19_method_22_code 8 = .ok (.ireturn, 1) := by decide +kernel
theorem jd_ixL_9 : decode prog_19_method_22_code 9 = .ok (.iload_n 2, 1) := by decide +kernel
theorem jd_ixL_10 : decode prog_19_method_22_code 10 = .ok (.iconst 0, 1) := by decide +kernel
theorem jd_ixL_11 : decode prog_19_method_22_code 11 = .ok (.invokestatic 92, 3) := by decide +kernel
theorem jd_ixL_14 : decode prog_19_method_22_code 14 = .ok (.istore_n 2, 1) := by decide +kernel
theorem jd_ixL_15 : decode prog_19_method_22_code 15 = .ok (.iload_n 3, 1) := by decide +kernel
theorem jd_ixL_16 : decode prog_19_method_22_code 16 = .ok (.aload_n 0, 1) := by decide +kernel
theorem jd_ixL_17 : decode prog_19_method_22_code 17 = .ok (.arraylength, 1) := by decide +kernel
theorem jd_ixL_18 : decode prog_19_method_22_code 18 = .ok (.invokestatic 38, 3) := by decide +kernel
theorem jd_ixL_21 : decode prog_19_method_22_code 21 = .ok (.istore_n 3, 1) := by decide +kernel
theorem jd_ixL_22 : decode prog_19_method_22_code 22 = .ok (.iload_n 2, 1) := by decide +kernel
theorem jd_ixL_23 : decode prog_19_method_22_code 23 = .ok (.iload_n 3, 1) := by decide +kernel
theorem jd_ixL_24 : decode prog_19_method_22_code 24 = .ok (.if_icmp .lt 5, 3) := by decide +kernel
theorem jd_ixL_27 : decode prog_19_method_22_code 27 = .ok (.iconst (-1), 1) := by decide +kernel
theorem jd_ixL_28 : decode prog_19_method_22_code 28 = .ok (.ireturn, 1) := by decide +kernel
theorem jd_ixL_29 : decode prog_19_method_22_code 29 = .ok (.aload_n 0, 1) := by decide +kernel
theorem jd_ixL_30 : decode prog_19_method_22_code 30 = .ok (.iload_n 1, 1) := by decide +kernel
theorem jd_ixL_31 : decode prog_19_method_22_code 31 = .ok (.iload_n 2, 1) := by decide +kernel
theorem jd_ixL_32 : decode prog_19_method_22_code 32 = .ok (.iload_n 3, 1) := by decide +kernel
theorem jd_ixL_33 : decode prog_19_method_22_code 33 = .ok (.invokestatic 95, 3) := by decide +kernel
theorem jd_ixL_36 : decode prog_19_method_22_code 36 = .ok (.ireturn, 1) := by decide +kernel
theorem jd_ixC_0 : decode prog_19_method_23_code 0 = .ok (.iload_n 1, 1) := by decide +kernel
theorem jd_ixC_1 : decode prog_19_method_23_code 1 = .ok (.i2b, 1) := by decide +kernel
theorem jd_ixC_2 : decode prog_19_method_23_code 2 = .ok (.istore 4, 2) := by decide +kernel
theorem jd_ixC_4 : decode prog_19_method_23_code 4 = .ok (.iload_n 2, 1) := by decide +kernel
theorem jd_ixC_5 : decode prog_19_method_23_code 5 = .ok (.istore 5, 2) := by decide +kernel
theorem jd_ixC_7 : decode prog_19_method_23_code 7 = .ok (.iload 5, 2) := by decide +kernel
theorem jd_ixC_9 : decode prog_19_method_23_code 9 = .ok (.iload_n 3, 1) := by decide +kernel
theorem jd_ixC_10 : decode prog_19_method_23_code 10 = .ok (.if_icmp .ge 21, 3) := by decide +kernel
theorem jd_ixC_13 : decode prog_19_method_23_code 13 = .ok (.aload_n 0, 1) := by decide +kernel
theorem jd_ixC_14 : decode prog_19_method_23_code 14 = .ok (.iload 5, 2) := by decide +kernel
theorem jd_ixC_16 : decode prog_19_method_23_code 16 = .ok (.baload, 1) := by decide +kernel
theorem jd_ixC_17 : decode prog_19_method_23_code 17 = .ok (.iload 4, 2) := by decide +kernel
theorem jd_ixC_19 : decode prog_19_method_23_code 19 = .ok (.if_icmp .ne 6, 3) := by decide +kernel
theorem jd_ixC_22 : decode prog_19_method_23_code 22 = .ok (.iload 5, 2) := by decide +kernel
theorem jd_ixC_24 : decode prog_19_method_23_code 24 = .ok (.ireturn, 1) := by decide +kernel
theorem jd_ixC_25 : decode prog_19_method_23_code 25 = .ok (.iinc 5 1, 3) := by decide +kernel
theorem jd_ixC_28 : decode prog_19_method_23_code 28 = .ok (.goto (-21), 3) := by decide +kernel
theorem jd_ixC_31 : decode prog_19_method_23_code 31 = .ok (.iconst (-1), 1) := by decide +kernel
theorem jd_ixC_32 : decode prog_19_method_23_code 32 = .ok (.ireturn, 1) := by decide +kernel
theorem jd_bc_0 : decode prog_16_method_49_code 0 = .ok (.iload_n 0, 1) := by decide +kernel
theorem jd_bc_1 : decode prog_16_method_49_code 1 = .ok (.iload_n 0, 1) := by decide +kernel
theorem jd_bc_2 : decode prog_16_method_49_code 2 = .ok (.iconst 1, 1) := by decide +kernel
theorem jd_bc_3 : decode prog_16_method_49_code 3 = .ok (.iushr, 1) := by decide +kernel
theorem jd_bc_4 : decode prog_16_method_49_code 4 = .ok (.ldc_w 265, 3) := by decide +kernel
theorem jd_bc_7 : decode prog_16_method_49_code 7 = .ok (.iand, 1) := by decide +kernel
theorem jd_bc_8 : decode prog_16_method_49_code 8 = .ok (.isub, 1) := by decide +kernel
theorem jd_bc_9 : decode prog_16_method_49_code 9 = .ok (.istore_n 0, 1) := by decide +kernel
theorem jd_bc_10 : decode prog_16_method_49_code 10 = .ok (.iload_n 0, 1) := by decide +kernel
theorem jd_bc_11 : decode prog_16_method_49_code 11 = .ok (.ldc_w 266, 3) := by decide +kernel
theorem jd_bc_14 : decode prog_16_method_49_code 14 = .ok (.iand, 1) := by decide +kernel
theorem jd_bc_15 : decode prog_16_method_49_code 15 = .ok (.iload_n 0, 1) := by decide +kernel
theorem jd_bc_16 : decode prog_16_method_49_code 16 = .ok (.iconst 2, 1) := by decide +kernel
theorem jd_bc_17 : decode prog_16_method_49_code 17 = .ok (.iushr, 1) := by decide +kernel
theorem jd_bc_18 : decode prog_16_method_49_code 18 = .ok (.ldc_w 266, 3) := by decide +kernel
theorem jd_bc_21 : decode prog_16_method_49_code 21 = .ok (.iand, 1) := by decide +kernel
theorem jd_bc_22 : decode prog_16_method_49_code 22 = .ok (.iadd, 1) := by decide +kernel
theorem jd_bc_23 : decode prog_16_method_49_code 23 = .ok (.istore_n 0, 1) := by decide +kernel
theorem jd_bc_24 : decode prog_16_method_49_code 24 = .ok (.iload_n 0, 1) := by decide +kernel
theorem jd_bc_25 : decode prog_16_method_49_code 25 = .ok (.iload_n 0, 1) := by decide +kernel
theorem jd_bc_26 : decode prog_16_method_49_code 26 = .ok (.iconst 4, 1) := by decide +kernel
theorem jd_bc_27 : decode prog_16_method_49_code 27 = .ok (.iushr, 1) := by decide +kernel
theorem jd_bc_28 : decode prog_16_method_49_code 28 = .ok (.iadd, 1) := by decide +kernel
theorem jd_bc_29 : decode prog_16_method_49_code 29 = .ok (.ldc_w 267, 3) := by decide +kernel
theorem jd_bc_32 : decode prog_16_method_49_code 32 = .ok (.iand, 1) := by decide +kernel
theorem jd_bc_33 : decode prog_16_method_49_code 33 = .ok (.istore_n 0, 1) := by decide +kernel
theorem jd_bc_34 : decode prog_16_method_49_code 34 = .ok (.iload_n 0, 1) := by decide +kernel
theorem jd_bc_35 : decode prog_16_method_49_code 35 = .ok (.iload_n 0, 1) := by decide +kernel
theorem jd_bc_36 : decode prog_16_method_49_code 36 = .ok (.bipush 8, 2) := by decide +kernel
theorem jd_bc_38 : decode prog_16_method_49_code 38 = .ok (.iushr, 1) := by decide +kernel
theorem jd_bc_39 : decode prog_16_method_49_code 39 = .ok (.iadd, 1) := by decide +kernel
theorem jd_bc_40 : decode prog_16_method_49_code 40 = .ok (.istore_n 0, 1) := by decide +kernel
theorem jd_bc_41 : decode prog_16_method_49_code 41 = .ok (.iload_n 0, 1) := by decide +kernel
theorem jd_bc_42 : decode prog_16_method_49_code 42 = .ok (.iload_n 0, 1) := by decide +kernel
theorem jd_bc_43 : decode prog_16_method_49_code 43 = .ok (.bipush 16, 2) := by decide +kernel
theorem jd_bc_45 : decode prog_16_method_49_code 45 = .ok (.iushr, 1) := by decide +kernel
theorem jd_bc_46 : decode prog_16_method_49_code 46 = .ok (.iadd, 1) := by decide +kernel
theorem jd_bc_47 : decode prog_16_method_49_code 47 = .ok (.istore_n 0, 1) := by decide +kernel
theorem jd_bc_48 : decode prog_16_method_49_code 48 = .ok (.iload_n 0, 1) := by decide +kernel
theorem jd_bc_49 : decode prog_16_method_49_code 49 = .ok (.bipush 63, 2) := by decide +kernel
theorem jd_bc_51 : decode prog_16_method_49_code 51 = .ok (.iand, 1) := by decide +kernel
theorem jd_bc_52 : decode prog_16_method_49_code 52 = .ok (.ireturn, 1) := by decide +kernel
theorem jd_ab_0 : decode prog_17_method_59_code 0 = .ok (.iload_n 0, 1) := by decide +kernel
theorem jd_ab_1 : decode prog_17_method_59_code 1 = .ok (.ifCond .ge 8, 3) := by decide +kernel
theorem jd_ab_4 : decode prog_17_method_59_code 4 = .ok (.iload_n 0, 1) := by decide +kernel
theorem jd_ab_5 : decode prog_17_method_59_code 5 = .ok (.ineg, 1) := by decide +kernel
theorem jd_ab_6 : decode prog_17_method_59_code 6 = .ok (.goto 4, 3) := by decide +kernel
theorem jd_ab_9 : decode prog_17_method_59_code 9 = .ok (.iload_n 0, 1) := by decide +kernel
theorem jd_ab_10 : decode prog_17_method_59_code 10 = .ok (.ireturn, 1) := by decide +kernel
def js_len : List Nat := xs_by.map List.length
def js_by : List (List Int32) := xs_by.map (fun l => l.map nI)
def jU (adK adV : Nat → Nat) (sz : Nat) (U : State) : Prop := U.heap.size = sz ∧ vk_S 5 js_len js_by adK adV (va_A [] sz) U U.heap ∧ va_Z "java/lang/String" "COMPACT_STRINGS" "Z" (.int 1) (va_A [] sz) U U.heap
theorem j_blind {vc : List Value} {adK adV : Nat → Nat} {sz : Nat} : FrameBlind (va_Pc vc (jU adK adV sz)) := fun a U g mk q => by
  obtain ⟨q0, q1, q2, q3⟩ := q
  exact ⟨q0, q1, vk_S.moved (u := U) (U := U.calling g mk a) (Vm.Alike.refl U.vm) q2, va_Z.moved (u := U) (U := U.calling g mk a) (Vm.Alike.refl U.vm) q3⟩
theorem j_pre {vc : List Value} {adK adV : Nat → Nat} {A : Nat → Prop} {s : State} {H : Heap} {locs : List Loc} (hS : va_S A s.heap H locs) (hA : ∀ q : Nat, s.heap.size ≤ q → A q) (hE : vk_S 5 js_len js_by adK adV A s s.heap) (hZ : va_Z "java/lang/String" "COMPACT_STRINGS" "Z" (.int 1) A s s.heap) : ∀ U : State, U.heap = H → s.WarmedH U.vm → va_Pc vc (jU adK adV H.size) vc.toArray U := fun U hU hW => by
  have hn : ∀ q, va_A [] H.size q → A q := fun q h => by
    rcases h with ⟨k, e, h⟩ | h
    · cases h
    · exact hA q (Nat.le_trans hS.1 h)
  refine ⟨rfl, by rw [hU], ?_, ?_⟩
  · rw [hU]; exact ((hE.kept hS.2.1).narrow hn).moved hW.alike
  · rw [hU]; exact ((hZ.kept hS.2.1).narrow hn).moved hW.alike
/-- a pure answer -/
def jM (l : Launch) (y : MethodName) (bytes : ByteArray) (maxL : Nat) (ret : Option FieldType) (fr : Nat) (vc : List Value) (adK adV : Nat → Nat) (sz : Nat) (r : Int32) : Prop := Met l y (.code y bytes maxL ret :: xe_T) { frames := fr, cells := 0, slots := 0, locals := 64 * fr } (va_Pc vc (jU adK adV sz)) (va_Qi (fun (z : Int32) (_ : Unit) => z = r) (fun _ _ => True) (va_A [] sz)) 0 0 (va_A [] sz)
theorem j_good {y : MethodName} {bytes : ByteArray} {maxL : Nat} {ret : Option FieldType} (h : Cond.code y bytes maxL ret ∈ xe_T) : ∀ w ∈ (Cond.code y bytes maxL ret :: xe_T), w ∈ xe_T := fun w hw => by
  rcases List.mem_cons.mp hw with rfl | hw
  · exact h
  · exact hw
theorem j_shr {n : Nat} (h : n < 12) : nI n >>> ((0 : Int32) &&& 31) = nI n := by
  have : ∀ n, n < 12 → nI n >>> ((0 : Int32) &&& 31) = nI n := by decide +kernel
  exact this n h
theorem j_len {i : Nat} (h : i < 5) : js_len.getD i 0 < 12 := by
  have : ∀ i, i < 5 → js_len.getD i 0 < 12 := by decide +kernel
  exact this i h

set_option maxHeartbeats 4000000 in
theorem jm_coder (l : Launch) (adK adV : Nat → Nat) (sz : Nat) (i : Nat) (hi : i < 5) : jM l jy_coder prog_18_method_152_code 1 (some .byte) 1 [.ref (adK i)] adK adV sz 0 := by
  refine Met.ofW (cc := prog_18_method_152_code) (maxL := 1) (ret := some .byte) (by decide) rfl ?_
  intro p e s m args below meth c s₁ B hml hv
  obtain ⟨rfl, hsz, hE, hZ⟩ := hv
  have hx := B.exec
  have hb := B.bytes
  have hr := B.returns
  have hts0 := atoms_spec (ws := jw_coder) B.pre
  have hts : ∀ w ∈ xe_T, w.before _ s = true := fun w hw => hts0 w (List.mem_cons_of_mem _ hw)
  have hown : s.vm.findClass "java/lang/String" = some m.cls := findClass_of_methodNamed B.named
  have hlocks := B.notSynchronized
  subst hsz
  generalize hAe : va_A [] s.heap.size = A at hE hZ ⊢
  have hA : ∀ q : Nat, s.heap.size ≤ q → A q := fun q h => by rw [← hAe]; exact Or.inr h
  have hS : va_S A s.heap s.heap [] := va_S.rf
  have hl := lv_entry ([.ref (adK i)]) (n := 1) (Nat.le_of_ble_eq_true rfl)
  rw [lg_entry_eq]
  generalize (lg_sl ([.ref (adK i)]) ++ List.replicate (1 - (lg_sl ([.ref (adK i)])).length) Slot.unset).toArray = ls at hl ⊢
  have hl : lv_has ls 1 [(0, .ref (adK i))] := hl
  refine va_gets hx hb hZ hS hown (hts _ jx_f38) (fun _ h => h) jd_coder_0 ?_
  refine lv_if_eq hx hb jd_coder_3 (by decide) (tgt := 13) (fun h => absurd h (by decide)) (fun _ => ?_)
  refine lv_aload_n hx hb jd_coder_6 rfl (lv_at hl 0 rfl) ?_
  refine vk_getf hx hb (hE.1 i hi).2.1 hS hown (hts _ jx_f15) (fun _ h => h) jd_coder_7 ?_
  refine lv_goto hx hb jd_coder_10 (by decide) (tgt := 14) ?_
  exact W.zret (v := 0) hx hb hr (by decide +kernel) (fun t ht hW => ⟨⟨0, (), rfl, rfl, trivial⟩, hS.F ht⟩) hS.2.2 jd_coder_14 hlocks

set_option maxHeartbeats 4000000 in
theorem jm_isL (l : Launch) (adK adV : Nat → Nat) (sz : Nat) (i : Nat) (hi : i < 5) : jM l jy_isL prog_18_method_154_code 1 (some .boolean) 1 [.ref (adK i)] adK adV sz 1 := by
  refine Met.ofW (cc := prog_18_method_154_code) (maxL := 1) (ret := some .boolean) (by decide) rfl ?_
  intro p e s m args below meth c s₁ B hml hv
  obtain ⟨rfl, hsz, hE, hZ⟩ := hv
  have hx := B.exec
  have hb := B.bytes
  have hr := B.returns
  have hts0 := atoms_spec (ws := jw_isL) B.pre
  have hts : ∀ w ∈ xe_T, w.before _ s = true := fun w hw => hts0 w (List.mem_cons_of_mem _ hw)
  have hown : s.vm.findClass "java/lang/String" = some m.cls := findClass_of_methodNamed B.named
  have hlocks := B.notSynchronized
  subst hsz
  generalize hAe : va_A [] s.heap.size = A at hE hZ ⊢
  have hA : ∀ q : Nat, s.heap.size ≤ q → A q := fun q h => by rw [← hAe]; exact Or.inr h
  have hS : va_S A s.heap s.heap [] := va_S.rf
  have hl := lv_entry ([.ref (adK i)]) (n := 1) (Nat.le_of_ble_eq_true rfl)
  rw [lg_entry_eq]
  generalize (lg_sl ([.ref (adK i)]) ++ List.replicate (1 - (lg_sl ([.ref (adK i)])).length) Slot.unset).toArray = ls at hl ⊢
  have hl : lv_has ls 1 [(0, .ref (adK i))] := hl
  refine va_gets hx hb hZ hS hown (hts _ jx_f38) (fun _ h => h) jd_isL_0 ?_
  refine lv_if_eq hx hb jd_isL_3 (by decide) (tgt := 17) (fun h => absurd h (by decide)) (fun _ => ?_)
  refine lv_aload_n hx hb jd_isL_6 rfl (lv_at hl 0 rfl) ?_
  refine vk_getf hx hb (hE.1 i hi).2.1 hS hown (hts _ jx_f15) (fun _ h => h) jd_isL_7 ?_
  refine lv_if_ne hx hb jd_isL_10 (by decide) (tgt := 17) (fun h => absurd rfl h) (fun _ => ?_)
  refine lv_iconst (v := 1) hx hb jd_isL_13 (by decide) ?_
  refine lv_goto hx hb jd_isL_14 (by decide) (tgt := 18) ?_
  exact W.zret (v := 1) hx hb hr (by decide +kernel) (fun t ht hW => ⟨⟨1, (), rfl, rfl, trivial⟩, hS.F ht⟩) hS.2.2 jd_isL_18 hlocks

set_option maxHeartbeats 4000000 in
theorem jm_length (l : Launch) (adK adV : Nat → Nat) (sz : Nat) (i : Nat) (hi : i < 5) : jM l jy_length prog_18_method_54_code 1 (some .int) 2 [.ref (adK i)] adK adV sz (nI (js_len.getD i 0)) := by
  refine Met.ofW (cc := prog_18_method_54_code) (maxL := 1) (ret := some .int) (by decide) rfl ?_
  intro p e s m args below meth c s₁ B hml hv
  obtain ⟨rfl, hsz, hE, hZ⟩ := hv
  have hx := B.exec
  have hb := B.bytes
  have hr := B.returns
  have hts0 := atoms_spec (ws := jw_length) B.pre
  have hts : ∀ w ∈ xe_T, w.before _ s = true := fun w hw => hts0 w (List.mem_cons_of_mem _ hw)
  have hown : s.vm.findClass "java/lang/String" = some m.cls := findClass_of_methodNamed B.named
  have hlocks := B.notSynchronized
  subst hsz
  generalize hAe : va_A [] s.heap.size = A at hE hZ ⊢
  have hA : ∀ q : Nat, s.heap.size ≤ q → A q := fun q h => by rw [← hAe]; exact Or.inr h
  have hS : va_S A s.heap s.heap [] := va_S.rf
  have hl := lv_entry ([.ref (adK i)]) (n := 1) (Nat.le_of_ble_eq_true rfl)
  rw [lg_entry_eq]
  generalize (lg_sl ([.ref (adK i)]) ++ List.replicate (1 - (lg_sl ([.ref (adK i)])).length) Slot.unset).toArray = ls at hl ⊢
  have hl : lv_has ls 1 [(0, .ref (adK i))] := hl
  refine lv_aload_n hx hb jd_length_0 rfl (lv_at hl 0 rfl) ?_
  refine vk_getf hx hb (hE.1 i hi).2.2.1 hS hown (hts _ jx_f9) (fun _ h => h) jd_length_1 ?_
  refine va_tlen (v := nI (js_len.getD i 0)) hx hb (hE.1 i hi).2.2.2 hS rfl jd_length_4 ?_
  refine lv_aload_n hx hb jd_length_5 rfl (lv_at hl 0 rfl) ?_
  refine va_calli (va_runV (As := []) (rest := [.int (nI (js_len.getD i 0))]) ⟨hx, hb, hml, hown, hts⟩ (jm_coder l adK adV s.heap.size i hi) (cwV (C := "java/lang/String") (ws' := xe_T) 0 hts (xe_GT (fun w hw => by
    rcases List.mem_append.mp hw with hw | hw
    · simp only [List.mem_cons, List.not_mem_nil, or_false] at hw
      rcases hw with rfl | rfl | rfl | rfl
      · exact jx_335
      · exact jx_i_coder
      · exact jx_s_coder
      · exact jx_n_S
    · exact j_good jx_c_coder w hw)) rfl rfl rfl (by decide +kernel) ⟨Nat.le_of_ble_eq_true rfl, Nat.le_of_ble_eq_true rfl⟩) ⟨j_blind, vk_recv hE hi hS, j_pre hS hA hE hZ⟩ rfl rfl hl.1 rfl (lv_room (Nat.le_of_ble_eq_true rfl)) jd_length_6 ⟨Nat.zero_le _, Nat.zero_le _⟩) hS (fun q _ h => by
    rcases h with ⟨k, e, h⟩ | h
    · cases h
    · exact hA q (Nat.le_trans hS.1 h)) (fun q h => by
    rcases h with ⟨k, e, h⟩ | h
    · cases h
    · exact hA q (Nat.le_trans hS.1 h)) (fun r u t H1 locs ht hvm hw hB hz1 hk1 hS => ?_)
  subst hw
  refine lv_ishr hx hb jd_length_9 ?_
  rw [j_shr (j_len hi)]
  exact W.iret (v := nI (js_len.getD i 0)) hx hb hr (fun t ht hW => ⟨⟨nI (js_len.getD i 0), (), rfl, rfl, trivial⟩, hS.F ht⟩) hS.2.2 jd_length_10 hlocks

def j_can (c : Int32) : Int32 := if c < 0 then 0 else if 255 < c then 0 else 1

set_option maxHeartbeats 4000000 in
theorem jm_can (l : Launch) (adK adV : Nat → Nat) (sz : Nat) (ch : Int32) : jM l jy_can prog_19_method_4_code 1 (some .boolean) 1 [.int ch] adK adV sz (j_can ch) := by
  refine Met.ofW (cc := prog_19_method_4_code) (maxL := 1) (ret := some .boolean) (by decide) rfl ?_
  intro p e s m args below meth c s₁ B hml hv
  obtain ⟨rfl, hsz, hE, hZ⟩ := hv
  have hx := B.exec
  have hb := B.bytes
  have hr := B.returns
  have hts0 := atoms_spec (ws := jw_can) B.pre
  have hts : ∀ w ∈ xe_T, w.before _ s = true := fun w hw => hts0 w (List.mem_cons_of_mem _ hw)
  have hown : s.vm.findClass "java/lang/StringLatin1" = some m.cls := findClass_of_methodNamed B.named
  have hlocks := B.notSynchronized
  subst hsz
  generalize hAe : va_A [] s.heap.size = A at hE hZ ⊢
  have hA : ∀ q : Nat, s.heap.size ≤ q → A q := fun q h => by rw [← hAe]; exact Or.inr h
  have hS : va_S A s.heap s.heap [] := va_S.rf
  have hl := lv_entry ([.int ch]) (n := 1) (Nat.le_of_ble_eq_true rfl)
  rw [lg_entry_eq]
  generalize (lg_sl ([.int ch]) ++ List.replicate (1 - (lg_sl ([.int ch])).length) Slot.unset).toArray = ls at hl ⊢
  have hl : lv_has ls 1 [(0, .int ch)] := hl
  have fin : ∀ v : Int32, (v = 0 ∨ v = 1) → v = j_can ch → W p l e (headSpec (jw_can) { frames := 1, cells := 0, slots := 0, locals := 64 * 1 }).room s m [Value.int ch].toArray below meth c s.heap [] 0 0 (MQ below (va_Qi (fun (z : Int32) (_ : Unit) => z = j_can ch) (fun _ _ => True) A) [Value.int ch].toArray s 0 0 A) (F0 m 16 ls [.int v]) := by
    intro v h01 hv
    refine W.zret (v := v) hx hb hr ?_ (fun t ht hW => ⟨⟨v, (), rfl, hv, trivial⟩, hS.F ht⟩) hS.2.2 jd_can_16 hlocks
    rcases h01 with rfl | rfl <;> decide +kernel
  refine lv_iload_n hx hb jd_can_0 rfl (lv_at hl 0 rfl) ?_
  refine lv_if_lt hx hb jd_can_1 (by decide) (tgt := 15) (fun h => ?_) (fun h => ?_)
  · refine lv_iconst (v := 0) hx hb jd_can_15 (by decide) ?_
    exact fin 0 (Or.inl rfl) (by unfold j_can; rw [if_pos h])
  · refine lv_iload_n hx hb jd_can_4 rfl (lv_at hl 0 rfl) ?_
    refine lv_sipush hx hb jd_can_5 rfl ?_
    refine lv_icmp_gt hx hb jd_can_8 (by decide) (tgt := 15) (fun h2 => ?_) (fun h2 => ?_)
    · refine lv_iconst (v := 0) hx hb jd_can_15 (by decide) ?_
      exact fin 0 (Or.inl rfl) (by unfold j_can; rw [if_neg h]; exact (if_pos h2).symm)
    · refine lv_iconst (v := 1) hx hb jd_can_11 (by decide) ?_
      refine lv_goto hx hb jd_can_12 (by decide) (tgt := 16) ?_
      exact fin 1 (Or.inr rfl) (by unfold j_can; rw [if_neg h]; exact (if_neg h2).symm)

theorem j_inc {j : Nat} (h : j < 1000) : nI j + Int32.ofInt 1 = nI (j + 1) := by
  have e : (Int32.ofInt 1).toInt = 1 := by decide
  refine Int32.toInt_inj.mp ?_
  rw [Jvm.Kit.i32_add (by rw [nI_toInt (by omega), e]; omega) (by rw [nI_toInt (by omega), e]; omega), nI_toInt (by omega), nI_toInt (by omega), e]
  omega
theorem j_by {i : Nat} (hi : i < 5) : js_by.getD i [] = (xs_by.getD i []).map nI := by
  have : ∀ i, i < 5 → js_by.getD i [] = (xs_by.getD i []).map nI := by decide +kernel
  exact this i hi
theorem j_lb {i : Nat} (hi : i < 5) : js_len.getD i 0 = (xs_by.getD i []).length := by
  have : ∀ i, i < 5 → js_len.getD i 0 = (xs_by.getD i []).length := by decide +kernel
  exact this i hi
theorem j_128 {i : Nat} (hi : i < 5) : ∀ b ∈ xs_by.getD i [], b < 128 := by
  have : ∀ i, i < 5 → ∀ b ∈ xs_by.getD i [], b < 128 := by decide +kernel
  exact this i hi
theorem j_pos {i : Nat} (hi : i < 5) : 0 < (xs_by.getD i []).length := by
  have : ∀ i, i < 5 → 0 < (xs_by.getD i []).length := by decide +kernel
  exact this i hi
theorem j_eq {b : Nat} (hb : b < 128) {ch : Int32} (h0 : ¬ ch < 0) (h1 : ¬ 255 < ch) : nI b = ch.toInt8.toInt32 ↔ ch = nI b := by
  have e1 : ¬ ch.toInt < 0 := fun z => h0 (i32_lt0.mpr z)
  have e2 : ¬ (255 : Int) < ch.toInt := fun z => h1 (Int32.lt_iff_toInt_lt.mpr (by rw [show (255 : Int32).toInt = 255 by decide]; exact z))
  have e3 : (nI b).toInt = b := nI_toInt (by omega)
  have e4 : (ch.toInt8.toInt32).toInt = ch.toInt.bmod (2 ^ 8) := by rw [Int8.toInt_toInt32, Int32.toInt_toInt8]
  rw [← Int32.toInt_inj, ← Int32.toInt_inj, e3, e4, Int.bmod_def]
  omega

set_option maxHeartbeats 4000000 in
theorem jm_ixC (l : Launch) (adK adV : Nat → Nat) (sz : Nat) (i : Nat) (hi : i < 5) (ch : Int32) (h0 : ¬ ch < 0) (h1 : ¬ 255 < ch) : jM l jy_ixC prog_19_method_23_code 6 (some .int) 1 [.ref (adV i), .int ch, .int 0, .int (nI (js_len.getD i 0))] adK adV sz (xs_ix i ch) := by
  refine Met.ofW (cc := prog_19_method_23_code) (maxL := 6) (ret := some .int) (by decide) rfl ?_
  intro p e s m args below meth c s₁ B hml hv
  obtain ⟨rfl, hsz, hE, hZ⟩ := hv
  have hx := B.exec
  have hb := B.bytes
  have hr := B.returns
  have hts0 := atoms_spec (ws := jw_ixC) B.pre
  have hts : ∀ w ∈ xe_T, w.before _ s = true := fun w hw => hts0 w (List.mem_cons_of_mem _ hw)
  have hown : s.vm.findClass "java/lang/StringLatin1" = some m.cls := findClass_of_methodNamed B.named
  have hlocks := B.notSynchronized
  subst hsz
  generalize hAe : va_A [] s.heap.size = A at hE hZ ⊢
  have hA : ∀ q : Nat, s.heap.size ≤ q → A q := fun q h => by rw [← hAe]; exact Or.inr h
  have hS : va_S A s.heap s.heap [] := va_S.rf
  have hl := lv_entry ([.ref (adV i), .int ch, .int 0, .int (nI (js_len.getD i 0))]) (n := 6) (Nat.le_of_ble_eq_true rfl)
  rw [lg_entry_eq]
  generalize (lg_sl ([.ref (adV i), .int ch, .int 0, .int (nI (js_len.getD i 0))]) ++ List.replicate (6 - (lg_sl ([.ref (adV i), .int ch, .int 0, .int (nI (js_len.getD i 0))])).length) Slot.unset).toArray = ls at hl ⊢
  have hl : lv_has ls 6 [(0, .ref (adV i)), (1, .int ch), (2, .int 0), (3, .int (nI (js_len.getD i 0)))] := hl
  have hlen := j_lb hi
  have h11 := xs_by_len i hi
  have loop : ∀ (n j : Nat) (ls : Array Slot), j + n = (xs_by.getD i []).length → lv_has ls 6 [(5, .int (nI j)), (4, .int ch.toInt8.toInt32), (0, .ref (adV i)), (1, .int ch), (2, .int 0), (3, .int (nI (js_len.getD i 0)))] → xs_ix i ch = xs_ixF ch ((xs_by.getD i []).drop j) j →
      W p l e (headSpec (jw_ixC) { frames := 1, cells := 0, slots := 0, locals := 64 * 1 }).room s m ([.ref (adV i), .int ch, .int 0, .int (nI (js_len.getD i 0))] : List Value).toArray below meth c s.heap [] 0 0 (MQ below (va_Qi (fun (z : Int32) (_ : Unit) => z = xs_ix i ch) (fun _ _ => True) A) ([.ref (adV i), .int ch, .int 0, .int (nI (js_len.getD i 0))] : List Value).toArray s 0 0 A) (F0 m 7 ls []) := by
    intro n
    induction n with
    | zero =>
      intro j ls hj hl hinv
      refine lv_iload hx hb jd_ixC_7 (lv_at hl 0 rfl) ?_
      refine lv_iload_n hx hb jd_ixC_9 rfl (lv_at hl 5 rfl) ?_
      refine lv_icmp_ge hx hb jd_ixC_10 (by decide) (tgt := 31) (fun _ => ?_) (fun h => absurd ?_ h)
      · refine lv_iconst (v := -1) hx hb jd_ixC_31 (by decide) ?_
        refine W.iret (v := -1) hx hb hr (fun t ht hW => ⟨⟨-1, (), rfl, ?_, trivial⟩, hS.F ht⟩) hS.2.2 jd_ixC_32 hlocks
        rw [hinv, List.drop_eq_nil_iff.mpr (by omega)]
        rfl
      · rw [Int32.le_iff_toInt_le, nI_toInt (by omega), nI_toInt (by omega)]
        omega
    | succ n ih =>
      intro j ls hj hl hinv
      obtain ⟨b, hb1⟩ : ∃ b, (xs_by.getD i [])[j]? = some b := ⟨_, List.getElem?_eq_getElem (by omega)⟩
      have hd : (xs_by.getD i []).drop j = b :: (xs_by.getD i []).drop (j + 1) := by
        obtain ⟨q1, q2⟩ := List.getElem?_eq_some_iff.mp hb1
        rw [List.drop_eq_getElem_cons q1, q2]
      have hb128 := j_128 hi b (List.mem_of_getElem? hb1)
      refine lv_iload hx hb jd_ixC_7 (lv_at hl 0 rfl) ?_
      refine lv_iload_n hx hb jd_ixC_9 rfl (lv_at hl 5 rfl) ?_
      refine lv_icmp_ge hx hb jd_ixC_10 (by decide) (tgt := 31) (fun h => absurd h ?_) (fun _ => ?_)
      · rw [Int32.le_iff_toInt_le, nI_toInt (by omega), nI_toInt (by omega)]
        omega
      · refine lv_aload_n hx hb jd_ixC_13 rfl (lv_at hl 2 rfl) ?_
        refine lv_iload hx hb jd_ixC_14 (lv_at hl 0 rfl) ?_
        refine va_tb (v := .int (nI b)) hx hb (hE.1 i hi).2.2.2 hS (i := nI j) ?_ ?_ jd_ixC_16 ?_
        · exact e_clamp (by rw [nI_toInt (by omega)]; omega) (by rw [nI_toInt (by omega)]; omega)
        · have ec : (nI j).toNatClampNeg = j := by
            show (nI j).toInt.toNat = j
            rw [nI_toInt (by omega)]
            omega
          show Value.int ((js_by.getD i []).getD (nI j).toNatClampNeg 0) = _
          rw [ec, j_by hi, List.getD_eq_getElem?_getD, List.getElem?_map, hb1]
          rfl
        · refine lv_iload hx hb jd_ixC_17 (lv_at hl 1 rfl) ?_
          refine lv_icmp_ne hx hb jd_ixC_19 (by decide) (tgt := 25) (fun hne => ?_) (fun he => ?_)
          · refine lv_iinc (v := nI (j + 1)) hx hb jd_ixC_25 hl (k := 0) rfl ?_ (by decide) rfl (fun ls2 hl2 => ?_)
            · exact j_inc (by omega)
            · refine lv_goto hx hb jd_ixC_28 (by decide) (tgt := 7) ?_
              refine ih (j + 1) ls2 (by omega) hl2 ?_
              rw [hinv, hd]
              show (if ch = nI b then nI j else xs_ixF ch ((xs_by.getD i []).drop (j + 1)) (j + 1)) = _
              rw [if_neg (fun z => hne ((j_eq hb128 h0 h1).mpr z))]
          · refine lv_iload hx hb jd_ixC_22 (lv_at hl 0 rfl) ?_
            refine W.iret (v := nI j) hx hb hr (fun t ht hW => ⟨⟨nI j, (), rfl, ?_, trivial⟩, hS.F ht⟩) hS.2.2 jd_ixC_24 hlocks
            rw [hinv, hd]
            show nI j = (if ch = nI b then nI j else _)
            have he2 : nI b = ch.toInt8.toInt32 := he
            rw [if_pos ((j_eq hb128 h0 h1).mp he2)]
  refine lv_iload_n hx hb jd_ixC_0 rfl (lv_at hl 1 rfl) ?_
  refine lv_i2b (v := ch.toInt8.toInt32) hx hb jd_ixC_1 rfl ?_
  refine lv_istore hx hb jd_ixC_2 hl (by decide) rfl (fun ls2 hl2 => ?_)
  refine lv_iload_n hx hb jd_ixC_4 rfl (lv_at hl2 3 rfl) ?_
  refine lv_istore hx hb jd_ixC_5 hl2 (by decide) rfl (fun ls3 hl3 => ?_)
  exact loop _ 0 ls3 (Nat.zero_add _) hl3 (by rw [List.drop_zero]; rfl)

set_option maxHeartbeats 4000000 in
theorem jm_ixL (l : Launch) (adK adV : Nat → Nat) (sz : Nat) (i : Nat) (hi : i < 5) (ch : Int32) : jM l jy_ixL prog_19_method_22_code 4 (some .int) 2 [.ref (adV i), .int ch, .int 0, .int (nI (js_len.getD i 0))] adK adV sz (xs_ix i ch) := by
  refine Met.ofW (cc := prog_19_method_22_code) (maxL := 4) (ret := some .int) (by decide) rfl ?_
  intro p e s m args below meth c s₁ B hml hv
  obtain ⟨rfl, hsz, hE, hZ⟩ := hv
  have hx := B.exec
  have hb := B.bytes
  have hr := B.returns
  have hts0 := atoms_spec (ws := jw_ixL) B.pre
  have hts : ∀ w ∈ xe_T, w.before _ s = true := fun w hw => hts0 w (List.mem_cons_of_mem _ hw)
  have hown : s.vm.findClass "java/lang/StringLatin1" = some m.cls := findClass_of_methodNamed B.named
  have hlocks := B.notSynchronized
  subst hsz
  generalize hAe : va_A [] s.heap.size = A at hE hZ ⊢
  have hA : ∀ q : Nat, s.heap.size ≤ q → A q := fun q h => by rw [← hAe]; exact Or.inr h
  have hS : va_S A s.heap s.heap [] := va_S.rf
  have hl := lv_entry ([.ref (adV i), .int ch, .int 0, .int (nI (js_len.getD i 0))]) (n := 4) (Nat.le_of_ble_eq_true rfl)
  rw [lg_entry_eq]
  generalize (lg_sl ([.ref (adV i), .int ch, .int 0, .int (nI (js_len.getD i 0))]) ++ List.replicate (4 - (lg_sl ([.ref (adV i), .int ch, .int 0, .int (nI (js_len.getD i 0))])).length) Slot.unset).toArray = ls at hl ⊢
  have hl : lv_has ls 4 [(0, .ref (adV i)), (1, .int ch), (2, .int 0), (3, .int (nI (js_len.getD i 0)))] := hl
  have hlen := j_lb hi
  have h11 := xs_by_len i hi
  have hpos := j_pos hi
  refine lv_iload_n hx hb jd_ixL_0 rfl (lv_at hl 1 rfl) ?_
  refine va_calli (va_runS (As := [.int ch]) (rest := []) ⟨hx, hb, hml, hown, hts⟩ (jm_can l adK adV s.heap.size ch) (va_cwS (own := "java/lang/StringLatin1") (ws' := xe_T) 1 hts (xe_GT (fun w hw => by
    rcases List.mem_append.mp hw with hw | hw
    · simp only [List.mem_cons, List.not_mem_nil, or_false] at hw
      rcases hw with rfl | rfl | rfl
      · exact jx_88
      · exact jx_t_can
      · exact jx_n_L1
    · exact j_good jx_c_can w hw)) rfl rfl rfl ⟨by decide, by decide, by decide +kernel⟩ ⟨Nat.le_of_ble_eq_true rfl, Nat.le_of_ble_eq_true rfl⟩) ⟨j_blind, j_pre hS hA hE hZ⟩ rfl rfl hl.1 rfl (lv_room (Nat.le_of_ble_eq_true rfl)) jd_ixL_1 ⟨Nat.zero_le _, Nat.zero_le _⟩) hS (fun q _ h => by
    rcases h with ⟨k, e, h⟩ | h
    · cases h
    · exact hA q (Nat.le_trans hS.1 h)) (fun q h => by
    rcases h with ⟨k, e, h⟩ | h
    · cases h
    · exact hA q (Nat.le_trans hS.1 h)) (fun r u t H1 locs ht hvm hw hB hz1 hk1 hS => ?_)
  subst hw
  have none1 : (ch < 0 ∨ 255 < ch) → xs_ix i ch = -1 := by
    intro hz
    have all : ∀ (l : List Nat) (k : Nat), (∀ b ∈ l, b < 128) → xs_ixF ch l k = -1 := by
      intro l
      induction l with
      | nil => intro k _; rfl
      | cons b l ih =>
        intro k hb
        have hb1 := hb b (List.mem_cons_self ..)
        show (if ch = nI b then nI k else xs_ixF ch l (k + 1)) = -1
        rw [if_neg, ih (k + 1) (fun b' h' => hb b' (List.mem_cons_of_mem _ h'))]
        intro e
        rcases hz with hz | hz
        · have := i32_lt0.mp hz
          rw [e, nI_toInt (by omega)] at this
          omega
        · have := Int32.lt_iff_toInt_lt.mp hz
          rw [e, nI_toInt (by omega), show (255 : Int32).toInt = 255 by decide] at this
          omega
    exact all _ 0 (j_128 hi)
  refine lv_if_ne hx hb jd_ixL_4 (by decide) (tgt := 9) (fun hne => ?_) (fun he => ?_)
  · have h0 : ¬ ch < 0 := fun z => hne (by unfold j_can; rw [if_pos z])
    have h1 : ¬ 255 < ch := fun z => hne (by unfold j_can; rw [if_neg h0, if_pos z])
    refine lv_iload_n hx hb jd_ixL_9 rfl (lv_at hl 2 rfl) ?_
    refine lv_iconst (v := 0) hx hb jd_ixL_10 (by decide) ?_
    refine va_mmax hx hb (by rw [hml]; exact hl.1.symm) hown (hts _ jx_92) (hts _ xw_max.1) (hts _ xw_math.1) (hts _ xw_max.2) (Nat.le_of_ble_eq_true rfl) (Nat.le_of_ble_eq_true rfl) (Nat.zero_le _) (Nat.zero_le _) jd_ixL_11 ?_
    refine lv_istore_n hx hb jd_ixL_14 rfl hl (by decide) rfl (fun ls2 hl2 => ?_)
    refine lv_iload_n hx hb jd_ixL_15 rfl (lv_at hl2 3 rfl) ?_
    refine lv_aload_n hx hb jd_ixL_16 rfl (lv_at hl2 1 rfl) ?_
    refine va_tlen (v := nI (js_len.getD i 0)) hx hb (hE.1 i hi).2.2.2 hS rfl jd_ixL_17 ?_
    refine va_mmin hx hb (by rw [hml]; exact hl2.1.symm) hown (hts _ jx_38) (hts _ xw_min.1) (hts _ xw_math.1) (hts _ xw_min.2) (Nat.le_of_ble_eq_true rfl) (Nat.le_of_ble_eq_true rfl) (Nat.zero_le _) (Nat.zero_le _) jd_ixL_18 ?_
    refine W.eq (g2 := F0 m 21 ls2 [.int (nI (js_len.getD i 0))]) (by rw [ite_self]) ?_
    refine lv_istore_n (x := nI (js_len.getD i 0)) hx hb jd_ixL_21 rfl hl2 (by decide) rfl (fun ls3 hl3 => ?_)
    have hl := hl3
    refine lv_iload_n hx hb jd_ixL_22 rfl (lv_at hl 1 rfl) ?_
    refine lv_iload_n hx hb jd_ixL_23 rfl (lv_at hl 0 rfl) ?_
    refine lv_icmp_lt hx hb jd_ixL_24 (by decide) (tgt := 29) (fun _ => ?_) (fun h => absurd ?_ h)
    · refine lv_aload_n hx hb jd_ixL_29 rfl (lv_at hl 2 rfl) ?_
      refine lv_iload_n hx hb jd_ixL_30 rfl (lv_at hl 3 rfl) ?_
      refine lv_iload_n hx hb jd_ixL_31 rfl (lv_at hl 1 rfl) ?_
      refine lv_iload_n hx hb jd_ixL_32 rfl (lv_at hl 0 rfl) ?_
      refine va_calli (va_runS (As := [.ref (adV i), .int ch, .int 0, .int (nI (js_len.getD i 0))]) (rest := []) ⟨hx, hb, hml, hown, hts⟩ (jm_ixC l adK adV _ i hi ch h0 h1) (va_cwS (own := "java/lang/StringLatin1") (ws' := xe_T) 4 hts (xe_GT (fun w hw => by
        rcases List.mem_append.mp hw with hw | hw
        · simp only [List.mem_cons, List.not_mem_nil, or_false] at hw
          rcases hw with rfl | rfl | rfl
          · exact jx_95
          · exact jx_t_ixC
          · exact jx_n_L1
        · exact j_good jx_c_ixC w hw)) rfl rfl rfl ⟨by decide, by decide, by decide +kernel⟩ ⟨Nat.le_of_ble_eq_true rfl, Nat.le_of_ble_eq_true rfl⟩) ⟨j_blind, j_pre hS hA hE hZ⟩ rfl rfl hl.1 rfl (lv_room (Nat.le_of_ble_eq_true rfl)) jd_ixL_33 ⟨Nat.zero_le _, Nat.zero_le _⟩) hS (fun q _ h => by
        rcases h with ⟨k, e, h⟩ | h
        · cases h
        · exact hA q (Nat.le_trans hS.1 h)) (fun q h => by
        rcases h with ⟨k, e, h⟩ | h
        · cases h
        · exact hA q (Nat.le_trans hS.1 h)) (fun r u t H1 locs ht hvm hw hB hz1 hk1 hS => ?_)
      subst hw
      exact W.iret (v := xs_ix i ch) hx hb hr (fun t ht hW => ⟨⟨xs_ix i ch, (), rfl, rfl, trivial⟩, hS.F ht⟩) hS.2.2 jd_ixL_36 hlocks
    · show (0 : Int32) < nI (js_len.getD i 0)
      rw [i32_gt0, nI_toInt (by omega)]
      omega
  · have hz : ch < 0 ∨ 255 < ch := by
      by_cases h0 : ch < 0
      · exact Or.inl h0
      · by_cases h1 : 255 < ch
        · exact Or.inr h1
        · have he : j_can ch = 0 := he
          unfold j_can at he
          rw [if_neg h0, if_neg h1] at he
          cases he
    refine lv_iconst (v := -1) hx hb jd_ixL_7 (by decide) ?_
    exact W.iret (v := -1) hx hb hr (fun t ht hW => ⟨⟨-1, (), rfl, (none1 hz).symm, trivial⟩, hS.F ht⟩) hS.2.2 jd_ixL_8 hlocks

set_option maxHeartbeats 4000000 in
theorem jm_ixII (l : Launch) (adK adV : Nat → Nat) (sz : Nat) (i : Nat) (hi : i < 5) (ch : Int32) : jM l jy_ixII prog_18_method_80_code 3 (some .int) 3 [.ref (adK i), .int ch, .int 0] adK adV sz (xs_ix i ch) := by
  refine Met.ofW (cc := prog_18_method_80_code) (maxL := 3) (ret := some .int) (by decide) rfl ?_
  intro p e s m args below meth c s₁ B hml hv
  obtain ⟨rfl, hsz, hE, hZ⟩ := hv
  have hx := B.exec
  have hb := B.bytes
  have hr := B.returns
  have hts0 := atoms_spec (ws := jw_ixII) B.pre
  have hts : ∀ w ∈ xe_T, w.before _ s = true := fun w hw => hts0 w (List.mem_cons_of_mem _ hw)
  have hown : s.vm.findClass "java/lang/String" = some m.cls := findClass_of_methodNamed B.named
  have hlocks := B.notSynchronized
  subst hsz
  generalize hAe : va_A [] s.heap.size = A at hE hZ ⊢
  have hA : ∀ q : Nat, s.heap.size ≤ q → A q := fun q h => by rw [← hAe]; exact Or.inr h
  have hS : va_S A s.heap s.heap [] := va_S.rf
  have hl := lv_entry ([.ref (adK i), .int ch, .int 0]) (n := 3) (Nat.le_of_ble_eq_true rfl)
  rw [lg_entry_eq]
  generalize (lg_sl ([.ref (adK i), .int ch, .int 0]) ++ List.replicate (3 - (lg_sl ([.ref (adK i), .int ch, .int 0])).length) Slot.unset).toArray = ls at hl ⊢
  have hl : lv_has ls 3 [(0, .ref (adK i)), (1, .int ch), (2, .int 0)] := hl
  refine lv_aload_n hx hb jd_ixII_0 rfl (lv_at hl 0 rfl) ?_
  refine va_calli (va_runV (As := []) (rest := []) ⟨hx, hb, hml, hown, hts⟩ (jm_isL l adK adV _ i hi) (cwV (C := "java/lang/String") (ws' := xe_T) 0 hts (xe_GT (fun w hw => by
    rcases List.mem_append.mp hw with hw | hw
    · simp only [List.mem_cons, List.not_mem_nil, or_false] at hw
      rcases hw with rfl | rfl | rfl | rfl
      · exact jx_492
      · exact jx_i_isL
      · exact jx_s_isL
      · exact jx_n_S
    · exact j_good jx_c_isL w hw)) rfl rfl rfl (by decide +kernel) ⟨Nat.le_of_ble_eq_true rfl, Nat.le_of_ble_eq_true rfl⟩) ⟨j_blind, vk_recv hE hi hS, j_pre hS hA hE hZ⟩ rfl rfl hl.1 rfl (lv_room (Nat.le_of_ble_eq_true rfl)) jd_ixII_1 ⟨Nat.zero_le _, Nat.zero_le _⟩) hS (fun q _ h => by
    rcases h with ⟨k, e, h⟩ | h
    · cases h
    · exact hA q (Nat.le_trans hS.1 h)) (fun q h => by
    rcases h with ⟨k, e, h⟩ | h
    · cases h
    · exact hA q (Nat.le_trans hS.1 h)) (fun r u t H1 locs ht hvm hw hB hz1 hk1 hS => ?_)
  subst hw
  refine lv_if_eq hx hb jd_ixII_4 (by decide) (tgt := 23) (fun h => absurd h (by decide)) (fun _ => ?_)
  refine lv_aload_n hx hb jd_ixII_7 rfl (lv_at hl 0 rfl) ?_
  refine vk_getf hx hb (hE.1 i hi).2.2.1 hS hown (hts _ jx_f9) (fun _ h => h) jd_ixII_8 ?_
  refine lv_iload_n hx hb jd_ixII_11 rfl (lv_at hl 1 rfl) ?_
  refine lv_iload_n hx hb jd_ixII_12 rfl (lv_at hl 2 rfl) ?_
  refine lv_aload_n hx hb jd_ixII_13 rfl (lv_at hl 0 rfl) ?_
  refine va_calli (va_runV (As := []) (rest := [.int 0, .int ch, .ref (adV i)]) ⟨hx, hb, hml, hown, hts⟩ (jm_length l adK adV _ i hi) (cwV (C := "java/lang/String") (ws' := xe_T) 0 hts (xe_GT (fun w hw => by
    rcases List.mem_append.mp hw with hw | hw
    · simp only [List.mem_cons, List.not_mem_nil, or_false] at hw
      rcases hw with rfl | rfl | rfl | rfl
      · exact jx_505
      · exact jx_i_length
      · exact jx_s_length
      · exact jx_n_S
    · exact j_good jx_c_length w hw)) rfl rfl rfl (by decide +kernel) ⟨Nat.le_of_ble_eq_true rfl, Nat.le_of_ble_eq_true rfl⟩) ⟨j_blind, vk_recv hE hi hS, j_pre hS hA hE hZ⟩ rfl rfl hl.1 rfl (lv_room (Nat.le_of_ble_eq_true rfl)) jd_ixII_14 ⟨Nat.zero_le _, Nat.zero_le _⟩) hS (fun q _ h => by
    rcases h with ⟨k, e, h⟩ | h
    · cases h
    · exact hA q (Nat.le_trans hS.1 h)) (fun q h => by
    rcases h with ⟨k, e, h⟩ | h
    · cases h
    · exact hA q (Nat.le_trans hS.1 h)) (fun r u t H1 locs ht hvm hw hB hz1 hk1 hS => ?_)
  subst hw
  refine va_calli (va_runS (As := [.ref (adV i), .int ch, .int 0, .int (nI (js_len.getD i 0))]) (rest := []) ⟨hx, hb, hml, hown, hts⟩ (jm_ixL l adK adV _ i hi ch) (va_cwS (own := "java/lang/String") (ws' := xe_T) 4 hts (xe_GT (fun w hw => by
    rcases List.mem_append.mp hw with hw | hw
    · simp only [List.mem_cons, List.not_mem_nil, or_false] at hw
      rcases hw with rfl | rfl | rfl
      · exact jx_637
      · exact jx_t_ixL
      · exact jx_n_L1
    · exact j_good jx_c_ixL w hw)) rfl rfl rfl ⟨by decide, by decide, by decide +kernel⟩ ⟨Nat.le_of_ble_eq_true rfl, Nat.le_of_ble_eq_true rfl⟩) ⟨j_blind, j_pre hS hA hE hZ⟩ rfl rfl hl.1 rfl (lv_room (Nat.le_of_ble_eq_true rfl)) jd_ixII_17 ⟨Nat.zero_le _, Nat.zero_le _⟩) hS (fun q _ h => by
    rcases h with ⟨k, e, h⟩ | h
    · cases h
    · exact hA q (Nat.le_trans hS.1 h)) (fun q h => by
    rcases h with ⟨k, e, h⟩ | h
    · cases h
    · exact hA q (Nat.le_trans hS.1 h)) (fun r u t H1 locs ht hvm hw hB hz1 hk1 hS => ?_)
  subst hw
  refine lv_goto hx hb jd_ixII_20 (by decide) (tgt := 36) ?_
  exact W.iret (v := xs_ix i ch) hx hb hr (fun t ht hW => ⟨⟨xs_ix i ch, (), rfl, rfl, trivial⟩, hS.F ht⟩) hS.2.2 jd_ixII_36 hlocks

set_option maxHeartbeats 4000000 in
theorem jm_ixI (l : Launch) (adK adV : Nat → Nat) (sz : Nat) (i : Nat) (hi : i < 5) (ch : Int32) : jM l jy_ixI prog_18_method_79_code 2 (some .int) 4 [.ref (adK i), .int ch] adK adV sz (xs_ix i ch) := by
  refine Met.ofW (cc := prog_18_method_79_code) (maxL := 2) (ret := some .int) (by decide) rfl ?_
  intro p e s m args below meth c s₁ B hml hv
  obtain ⟨rfl, hsz, hE, hZ⟩ := hv
  have hx := B.exec
  have hb := B.bytes
  have hr := B.returns
  have hts0 := atoms_spec (ws := jw_ixI) B.pre
  have hts : ∀ w ∈ xe_T, w.before _ s = true := fun w hw => hts0 w (List.mem_cons_of_mem _ hw)
  have hown : s.vm.findClass "java/lang/String" = some m.cls := findClass_of_methodNamed B.named
  have hlocks := B.notSynchronized
  subst hsz
  generalize hAe : va_A [] s.heap.size = A at hE hZ ⊢
  have hA : ∀ q : Nat, s.heap.size ≤ q → A q := fun q h => by rw [← hAe]; exact Or.inr h
  have hS : va_S A s.heap s.heap [] := va_S.rf
  have hl := lv_entry ([.ref (adK i), .int ch]) (n := 2) (Nat.le_of_ble_eq_true rfl)
  rw [lg_entry_eq]
  generalize (lg_sl ([.ref (adK i), .int ch]) ++ List.replicate (2 - (lg_sl ([.ref (adK i), .int ch])).length) Slot.unset).toArray = ls at hl ⊢
  have hl : lv_has ls 2 [(0, .ref (adK i)), (1, .int ch)] := hl
  refine lv_aload_n hx hb jd_ixI_0 rfl (lv_at hl 0 rfl) ?_
  refine lv_iload_n hx hb jd_ixI_1 rfl (lv_at hl 1 rfl) ?_
  refine lv_iconst (v := 0) hx hb jd_ixI_2 (by decide) ?_
  refine va_calli (va_runV (As := [.int ch, .int 0]) (rest := []) ⟨hx, hb, hml, hown, hts⟩ (jm_ixII l adK adV _ i hi ch) (cwV (C := "java/lang/String") (ws' := xe_T) 2 hts (xe_GT (fun w hw => by
    rcases List.mem_append.mp hw with hw | hw
    · simp only [List.mem_cons, List.not_mem_nil, or_false] at hw
      rcases hw with rfl | rfl | rfl | rfl
      · exact jx_633
      · exact jx_i_ixII
      · exact jx_s_ixII
      · exact jx_n_S
    · exact j_good jx_c_ixII w hw)) rfl rfl rfl (by decide +kernel) ⟨Nat.le_of_ble_eq_true rfl, Nat.le_of_ble_eq_true rfl⟩) ⟨j_blind, vk_recv hE hi hS, j_pre hS hA hE hZ⟩ rfl rfl hl.1 rfl (lv_room (Nat.le_of_ble_eq_true rfl)) jd_ixI_3 ⟨Nat.zero_le _, Nat.zero_le _⟩) hS (fun q _ h => by
    rcases h with ⟨k, e, h⟩ | h
    · cases h
    · exact hA q (Nat.le_trans hS.1 h)) (fun q h => by
    rcases h with ⟨k, e, h⟩ | h
    · cases h
    · exact hA q (Nat.le_trans hS.1 h)) (fun r u t H1 locs ht hvm hw hB hz1 hk1 hS => ?_)
  subst hw
  exact W.iret (v := xs_ix i ch) hx hb hr (fun t ht hW => ⟨⟨xs_ix i ch, (), rfl, rfl, trivial⟩, hS.F ht⟩) hS.2.2 jd_ixI_6 hlocks

set_option maxHeartbeats 4000000 in
theorem jm_bc (l : Launch) (adK adV : Nat → Nat) (sz : Nat) (x : Int32) : jM l jy_bc prog_16_method_49_code 1 (some .int) 0 [.int x] adK adV sz (xs_bc x) := by
  refine Met.ofW (cc := prog_16_method_49_code) (maxL := 1) (ret := some .int) (by decide) rfl ?_
  intro p e s m args below meth c s₁ B hml hv
  obtain ⟨rfl, hsz, hE, hZ⟩ := hv
  have hx := B.exec
  have hb := B.bytes
  have hr := B.returns
  have hts0 := atoms_spec (ws := jw_bc) B.pre
  have hts : ∀ w ∈ xe_T, w.before _ s = true := fun w hw => hts0 w (List.mem_cons_of_mem _ hw)
  have hown : s.vm.findClass "java/lang/Integer" = some m.cls := findClass_of_methodNamed B.named
  have hlocks := B.notSynchronized
  subst hsz
  generalize hAe : va_A [] s.heap.size = A at hE hZ ⊢
  have hA : ∀ q : Nat, s.heap.size ≤ q → A q := fun q h => by rw [← hAe]; exact Or.inr h
  have hS : va_S A s.heap s.heap [] := va_S.rf
  have hl := lv_entry ([.int x]) (n := 1) (Nat.le_of_ble_eq_true rfl)
  rw [lg_entry_eq]
  generalize (lg_sl ([.int x]) ++ List.replicate (1 - (lg_sl ([.int x])).length) Slot.unset).toArray = ls at hl ⊢
  have hl : lv_has ls 1 [(0, .int x)] := hl
  refine lv_iload_n hx hb jd_bc_0 rfl (lv_at hl 0 rfl) ?_
  refine lv_iload_n hx hb jd_bc_1 rfl (lv_at hl 0 rfl) ?_
  refine lv_iconst (v := 1) hx hb jd_bc_2 (by decide) ?_
  refine lv_iushr hx hb jd_bc_3 rfl ?_
  refine lv_ldcw hx hb hown (hts _ jx_k265) jd_bc_4 ?_
  refine lv_iand hx hb jd_bc_7 ?_
  refine lv_isub hx hb jd_bc_8 ?_
  refine lv_istore_n (x := xs_bc1 x) hx hb jd_bc_9 rfl hl (by decide) rfl (fun ls hl => ?_)
  refine lv_iload_n hx hb jd_bc_10 rfl (lv_at hl 0 rfl) ?_
  refine lv_ldcw hx hb hown (hts _ jx_k266) jd_bc_11 ?_
  refine lv_iand hx hb jd_bc_14 ?_
  refine lv_iload_n hx hb jd_bc_15 rfl (lv_at hl 0 rfl) ?_
  refine lv_iconst (v := 2) hx hb jd_bc_16 (by decide) ?_
  refine lv_iushr hx hb jd_bc_17 rfl ?_
  refine lv_ldcw hx hb hown (hts _ jx_k266) jd_bc_18 ?_
  refine lv_iand hx hb jd_bc_21 ?_
  refine lv_iadd hx hb jd_bc_22 ?_
  refine lv_istore_n (x := xs_bc2 (xs_bc1 x)) hx hb jd_bc_23 rfl hl (by decide) rfl (fun ls hl => ?_)
  refine lv_iload_n hx hb jd_bc_24 rfl (lv_at hl 0 rfl) ?_
  refine lv_iload_n hx hb jd_bc_25 rfl (lv_at hl 0 rfl) ?_
  refine lv_iconst (v := 4) hx hb jd_bc_26 (by decide) ?_
  refine lv_iushr hx hb jd_bc_27 rfl ?_
  refine lv_iadd hx hb jd_bc_28 ?_
  refine lv_ldcw hx hb hown (hts _ jx_k267) jd_bc_29 ?_
  refine lv_iand hx hb jd_bc_32 ?_
  refine lv_istore_n (x := xs_bc3 (xs_bc2 (xs_bc1 x))) hx hb jd_bc_33 rfl hl (by decide) rfl (fun ls hl => ?_)
  refine lv_iload_n hx hb jd_bc_34 rfl (lv_at hl 0 rfl) ?_
  refine lv_iload_n hx hb jd_bc_35 rfl (lv_at hl 0 rfl) ?_
  refine lv_bipush (v := 8) hx hb jd_bc_36 (by decide) ?_
  refine lv_iushr hx hb jd_bc_38 rfl ?_
  refine lv_iadd hx hb jd_bc_39 ?_
  refine lv_istore_n (x := xs_bc4 (xs_bc3 (xs_bc2 (xs_bc1 x)))) hx hb jd_bc_40 rfl hl (by decide) rfl (fun ls hl => ?_)
  refine lv_iload_n hx hb jd_bc_41 rfl (lv_at hl 0 rfl) ?_
  refine lv_iload_n hx hb jd_bc_42 rfl (lv_at hl 0 rfl) ?_
  refine lv_bipush (v := 16) hx hb jd_bc_43 (by decide) ?_
  refine lv_iushr hx hb jd_bc_45 rfl ?_
  refine lv_iadd hx hb jd_bc_46 ?_
  refine lv_istore_n (x := xs_bc5 (xs_bc4 (xs_bc3 (xs_bc2 (xs_bc1 x))))) hx hb jd_bc_47 rfl hl (by decide) rfl (fun ls hl => ?_)
  refine lv_iload_n hx hb jd_bc_48 rfl (lv_at hl 0 rfl) ?_
  refine lv_bipush (v := 63) hx hb jd_bc_49 (by decide) ?_
  refine lv_iand hx hb jd_bc_51 ?_
  exact W.iret (v := xs_bc x) hx hb hr (fun t ht hW => ⟨⟨xs_bc x, (), rfl, rfl, trivial⟩, hS.F ht⟩) hS.2.2 jd_bc_52 hlocks
end
section
/-! the plain machine is right: worlds, and what only changes the stack -/
theorem pV_cat (ad : Nat → Nat) (v : pv) : (pV ad v).category = if pc2 v then 2 else 1 := by
  rcases v with x | x | (_ | k) <;> rfl
theorem pV_rf (ad : Nat → Nat) (r : Option Nat) : pV ad (.inr (.inr r)) = va_rf (r.map ad) := by cases r <;> rfl
theorem pW_at {ly : List (Nat × Nat)} {E : Nat → ClassId} {ad : Nat → Nat} {h : pH} {k : Nat} {t : Nat × Nat} (ht : ly[k]? = some t) : (pW ly E ad h)[k]? = some (ad k, pCe E ad h k t) := by
  have hl : k < ly.length := (List.getElem?_eq_some_iff.mp ht).1
  unfold pW
  rw [List.getElem?_map, List.getElem?_range hl, Option.map_some, List.getD_eq_getElem?_getD, ht]
  rfl
theorem pW_set {ly : List (Nat × Nat)} {E : Nat → ClassId} {ad : Nat → Nat} {h h2 : pH} {k : Nat} {t : Nat × Nat} (ht : ly[k]? = some t) (hs : ∀ (k2 : Nat) (t2 : Nat × Nat), k2 ≠ k → pCe E ad h2 k2 t2 = pCe E ad h k2 t2) : (pW ly E ad h).set k (ad k, pCe E ad h2 k t) = pW ly E ad h2 := by
  refine List.ext_getElem? (fun j => ?_)
  have hl : k < ly.length := (List.getElem?_eq_some_iff.mp ht).1
  have hn : (pW ly E ad h).length = ly.length := by unfold pW; rw [List.length_map, List.length_range]
  by_cases e : k = j
  · subst e
    rw [List.getElem?_set_self (by rw [hn]; exact hl), pW_at ht]
  · rw [List.getElem?_set_ne e]
    cases hj : ly[j]? with
    | none =>
      have hjl : ly.length ≤ j := List.getElem?_eq_none_iff.mp hj
      rw [List.getElem?_eq_none (by rw [hn]; exact hjl), List.getElem?_eq_none (by unfold pW; rw [List.length_map, List.length_range]; exact hjl)]
    | some t2 =>
      rw [pW_at hj, pW_at hj, hs j t2 (fun z => e z.symm)]
theorem px_sum_ok (ad : Nat → Nat) : ∀ st : List pv, ((st.map (pV ad)).map fun v => v.category).sum = px_sum st
  | [] => rfl
  | a :: l => by
    rw [List.map_cons, List.map_cons, List.sum_cons, px_sum_ok ad l, pV_cat]
    rfl
def pL (ad : Nat → Nat) (lv : List (Nat × pv)) : List (Nat × Value) := lv.map (fun q => (q.1, pV ad q.2))
theorem px_lg_ok {ad : Nat → Nat} {i : Nat} {a : pv} : ∀ {lv : List (Nat × pv)}, px_lg lv i = some a → ∃ k : Nat, (pL ad lv)[k]? = some (i, pV ad a)
  | [], h => by cases h
  | (j, c) :: l, h => by
    unfold px_lg at h
    split at h
    · next e =>
      have e : j = i := by simpa using e
      subst e
      cases h
      exact ⟨0, rfl⟩
    · obtain ⟨k, hk⟩ := px_lg_ok (ad := ad) h
      exact ⟨k + 1, hk⟩
/-- the texts stand at the roles 1001 to 1005 -/
def pT (ad : Nat → Nat) (A : Nat → Prop) (U : State) (H : Heap) : Prop := (∃ adV, vk_S 5 js_len js_by (fun i => ad (1001 + i)) adV A U H) ∧ (∀ (y : Nat) (t : String × Nat × String), xs_T[y]? = some t → vk_R t.1 t.2.1 t.2.2 (ad (1001 + y)) U) ∧ va_Z "java/lang/String" "COMPACT_STRINGS" "Z" (.int 1) A U H
def pS0 (sc : pS) (ad : Nat → Nat) (s : State) (A : Nat → Prop) : Prop := sc = none ∨ ∃ (xs : Nat → Int32) (L : Nat), sc = some (xs, L) ∧ va_X (ad 1000) L xs s s.heap ∧ ad 1000 < s.heap.size ∧ ¬ A (ad 1000)
def pSS (sc : pS) (ad : Nat → Nat) (s : State) (A : Nat → Prop) : Prop := pS0 sc ad s A ∧ pT ad A s s.heap
section PPUSH
variable {p : Program} {l : Launch} {e : Env} {R : Room} {s : State} {m : MethodId} {args : Array Value} {below : List Frame} {meth : Method} {c : Code} {H : Heap} {locs : List Loc} {cells slots : Nat} {Q : State → Prop}
variable {D : va_G} {E : Nat → ClassId} {A : Nat → Prop} {b : Nat} {ad : Nat → Nat} {ly : List (Nat × Nat)} {h : pH} {sc : pS} {d μ : Nat}
set_option maxHeartbeats 4000000 in
theorem px_get_ok {pc i x y z : Nat} {st st2 : List pv} {ls : Array Slot} (X : xe_X p R s m args meth c D E A b [] d μ) (hdg : decode (xm μ).2.1 pc = .ok (.getfield i, 3)) (hcw : xe_cw μ (.getfield i, 3, x, y, z) = true) (hP : va_P D xk_cl (pW ly E ad h) H) (hh : px_get ly h x y st = some st2)
    (kk : W p l e R s m args below meth c H locs cells slots Q (F0 m (pc + 3) ls (st2.map (pV ad)))) : W p l e R s m args below meth c H locs cells slots Q (F0 m pc ls (st.map (pV ad))) := by
  obtain ⟨⟨hx, hb, hml, hown, hret, hnm, hlk⟩, ⟨hts, hN, hAO, hK⟩, -, -⟩ := X
  unfold px_get at hh
  split at hh
  · next k r =>
    split at hh
    · next hk =>
      cases hh
      unfold xe_cw at hcw
      dsimp only at hcw
      split at hcw
      · next r0 hr0 =>
        rw [Bool.and_eq_true] at hcw
        obtain ⟨C, T, N⟩ := r0
        obtain ⟨u1, u2, u3, u4, u5⟩ := xu_w hr0
        have hlink := hts _ (xt_mem (of_decide_eq_true hcw.2))
        have hy : y < N := Nat.le_of_ble_eq_true hcw.1
        have hnf : pnf x = N := by unfold pnf; rw [hr0]
        have hv : ((List.range (pnf x)).map (fun y => pV ad (pF h x k y)))[y]? = some (pV ad (pF h x k y)) := by rw [List.getElem?_map, hnf, List.getElem?_range hy]; rfl
        exact va_get hx hb hts u1 hown hK hP k (pW_at hk) hr0 y hy hlink (fun _ h9 => h9) hv hdg kk
      · cases hcw
    · cases hh
  · cases hh
set_option maxHeartbeats 4000000 in
theorem px_alen_ok {pc : Nat} {st st2 : List pv} {ls : Array Slot} (X : xe_X p R s m args meth c D E A b [] d μ) (hsc : pSS sc ad s A) (hdg : decode (xm μ).2.1 pc = .ok (.arraylength, 1)) (hP : va_P D xk_cl (pW ly E ad h) H) (hS : va_S A s.heap H locs) (hh : px_alen ly sc st = some st2)
    (kk : W p l e R s m args below meth c H locs cells slots Q (F0 m (pc + 1) ls (st2.map (pV ad)))) : W p l e R s m args below meth c H locs cells slots Q (F0 m pc ls (st.map (pV ad))) := by
  obtain ⟨⟨hx, hb, hml, hown, hret, hnm, hlk⟩, ⟨hts, hN, hAO, hK⟩, -, -⟩ := X
  unfold px_alen at hh
  split at hh
  · next k r =>
    split at hh
    · next e0 =>
      subst e0
      split at hh
      · next q =>
        cases hh
        rcases hsc.1 with e1 | ⟨xs, L, e1, hX, hbl, hbA⟩
        · cases e1
        · cases e1
          exact va_slen hx hb hX hbl hbA hS hdg kk
      · cases hh
    · split at hh
      · next t ht =>
        split at hh
        · next g =>
          cases hh
          obtain ⟨tk, tn⟩ := t
          have hat := pW_at (E := E) (ad := ad) (h := h) ht
          dsimp only at g
          rcases (by omega : tk = 1 ∨ tk = 2 ∨ tk = 3 ∨ tk = 4) with rfl | rfl | rfl | rfl
          · exact va_alen hx hb hK hP k 0 hat (ty := .int) rfl rfl hdg kk
          · exact va_alen hx hb hK hP k 1 hat (ty := .byte) rfl rfl hdg kk
          · exact va_alen hx hb hK hP k 2 hat (ty := .long) rfl rfl hdg kk
          · exact va_alen hx hb hK hP k 3 hat (ty := .object "SlideNight$Slide") rfl rfl hdg kk
        · cases hh
      · cases hh
  · cases hh
set_option maxHeartbeats 4000000 in
theorem px_iald_ok {pc : Nat} {st st2 : List pv} {ls : Array Slot} (X : xe_X p R s m args meth c D E A b [] d μ) (hsc : pSS sc ad s A) (hdg : decode (xm μ).2.1 pc = .ok (.iaload, 1)) (hP : va_P D xk_cl (pW ly E ad h) H) (hS : va_S A s.heap H locs) (hh : px_iald ly sc h st = some st2)
    (kk : W p l e R s m args below meth c H locs cells slots Q (F0 m (pc + 1) ls (st2.map (pV ad)))) : W p l e R s m args below meth c H locs cells slots Q (F0 m pc ls (st.map (pV ad))) := by
  obtain ⟨⟨hx, hb, hml, hown, hret, hnm, hlk⟩, ⟨hts, hN, hAO, hK⟩, -, -⟩ := X
  unfold px_iald at hh
  split at hh
  · next i k r =>
    split at hh
    · next e0 =>
      subst e0
      split at hh
      · next q =>
        split at hh
        · cases hh
        · next hin =>
          cases hh
          rcases hsc.1 with e1 | ⟨xs, L, e1, hX, hbl, hbA⟩
          · cases e1
          · cases e1
            exact va_sld hx hb hX hbl hbA hS hin hdg kk
      · cases hh
    · split at hh
      · next t ht =>
        split at hh
        · next g =>
          split at hh
          · cases hh
          · next hin =>
            cases hh
            obtain ⟨tk, tn⟩ := t
            dsimp only at g
            subst g
            exact va_iald hx hb hK hP k 0 (pW_at ht) rfl hin hdg kk
        · cases hh
      · cases hh
  · cases hh
set_option maxHeartbeats 4000000 in
theorem px_bald_ok {pc : Nat} {st st2 : List pv} {ls : Array Slot} (X : xe_X p R s m args meth c D E A b [] d μ) (hdg : decode (xm μ).2.1 pc = .ok (.baload, 1)) (hP : va_P D xk_cl (pW ly E ad h) H) (hS : va_S A s.heap H locs) (hh : px_bald ly h st = some st2)
    (kk : W p l e R s m args below meth c H locs cells slots Q (F0 m (pc + 1) ls (st2.map (pV ad)))) : W p l e R s m args below meth c H locs cells slots Q (F0 m pc ls (st.map (pV ad))) := by
  obtain ⟨⟨hx, hb, hml, hown, hret, hnm, hlk⟩, ⟨hts, hN, hAO, hK⟩, -, -⟩ := X
  unfold px_bald at hh
  split at hh
  · next i k r =>
    split at hh
    · next t ht =>
      split at hh
      · next g =>
        split at hh
        · cases hh
        · next hin =>
          cases hh
          obtain ⟨tk, tn⟩ := t
          dsimp only at g
          subst g
          exact va_bald hx hb hK hP k 1 (pW_at ht) rfl hin hdg kk
      · cases hh
    · cases hh
  · cases hh
set_option maxHeartbeats 4000000 in
theorem px_lald_ok {pc : Nat} {st st2 : List pv} {ls : Array Slot} (X : xe_X p R s m args meth c D E A b [] d μ) (hdg : decode (xm μ).2.1 pc = .ok (.laload, 1)) (hP : va_P D xk_cl (pW ly E ad h) H) (hS : va_S A s.heap H locs) (hh : px_lald ly h st = some st2)
    (kk : W p l e R s m args below meth c H locs cells slots Q (F0 m (pc + 1) ls (st2.map (pV ad)))) : W p l e R s m args below meth c H locs cells slots Q (F0 m pc ls (st.map (pV ad))) := by
  obtain ⟨⟨hx, hb, hml, hown, hret, hnm, hlk⟩, ⟨hts, hN, hAO, hK⟩, -, -⟩ := X
  unfold px_lald at hh
  split at hh
  · next i k r =>
    split at hh
    · next t ht =>
      split at hh
      · next g =>
        split at hh
        · cases hh
        · next hin =>
          cases hh
          obtain ⟨tk, tn⟩ := t
          dsimp only at g
          subst g
          exact va_lald hx hb hK hP k 2 (pW_at ht) rfl hin hdg kk
      · cases hh
    · cases hh
  · cases hh
set_option maxHeartbeats 4000000 in
theorem px_aald_ok {pc : Nat} {st st2 : List pv} {ls : Array Slot} (X : xe_X p R s m args meth c D E A b [] d μ) (hdg : decode (xm μ).2.1 pc = .ok (.aaload, 1)) (hP : va_P D xk_cl (pW ly E ad h) H) (hS : va_S A s.heap H locs) (hh : px_aald ly h st = some st2)
    (kk : W p l e R s m args below meth c H locs cells slots Q (F0 m (pc + 1) ls (st2.map (pV ad)))) : W p l e R s m args below meth c H locs cells slots Q (F0 m pc ls (st.map (pV ad))) := by
  obtain ⟨⟨hx, hb, hml, hown, hret, hnm, hlk⟩, ⟨hts, hN, hAO, hK⟩, -, -⟩ := X
  unfold px_aald at hh
  split at hh
  · next i k r =>
    split at hh
    · next t ht =>
      split at hh
      · next g =>
        split at hh
        · cases hh
        · next hin =>
          cases hh
          obtain ⟨tk, tn⟩ := t
          dsimp only at g
          subst g
          refine va_aldq hx hb hK hP k 3 (C := "SlideNight$Slide") (pW_at ht) rfl hin hdg ?_
          rw [List.map_cons, pV_rf] at kk
          exact kk
      · cases hh
    · cases hh
  · cases hh
set_option maxHeartbeats 8000000 in
theorem px_push_ok {pc : Nat} {q : xe_I} {lv : List (Nat × pv)} {st st2 : List pv} {ls : Array Slot} (X : xe_X p R s m args meth c D E A b [] d μ) (hsc : pSS sc ad s A) (hk : xe_chk μ q pc = true) (hP : va_P D xk_cl (pW ly E ad h) H) (hS : va_S A s.heap H locs) (hl : lv_has ls (xm μ).2.2.1 (pL ad lv)) (hcs : cells ≤ R.cells ∧ slots ≤ R.slots)
    (hh : px_push ly d sc q.1 q.2.2.1 q.2.2.2.1 lv st h = some st2)
    (kk : W p l e R s m args below meth c H locs cells slots Q (F0 m (pc + q.2.1) ls (st2.map (pV ad)))) : W p l e R s m args below meth c H locs cells slots Q (F0 m pc ls (st.map (pV ad))) := by
  obtain ⟨I, len, x, y, z⟩ := q
  unfold xe_chk at hk
  dsimp only at hh kk hk
  rw [Bool.and_eq_true, Bool.and_eq_true] at hk
  obtain ⟨⟨hlen, hdg0⟩, hcw⟩ := hk
  have hdg := of_decide_eq_true hdg0
  clear hdg0
  obtain ⟨⟨hx, hb, hml, hown, hret, hnm, hlk⟩, ⟨hts, hN, hAO, hK⟩, ⟨hA, hd1, hd2, hd3, hd4⟩, -⟩ := id X
  unfold px_push px_pf at hh
  split at hh <;> (try dsimp only at hh)
  · have hlen : len = 1 := xe_l1 hlen rfl (by decide)
    subst hlen
    cases hh
    exact lv_iconst hx hb hdg rfl kk
  · have hlen : len = 2 := xe_l1 hlen rfl (by decide)
    subst hlen
    cases hh
    exact lv_bipush hx hb hdg rfl kk
  · have hlen : len = 3 := xe_l1 hlen rfl (by decide)
    subst hlen
    cases hh
    exact lv_sipush hx hb hdg rfl kk
  · have hlen : len = 1 := xe_l1 hlen rfl (by decide)
    subst hlen
    cases hh
    exact lv_lconst hx hb hdg rfl kk
  · have hlen : len = 2 := xe_l1 hlen rfl (by decide)
    subst hlen
    split at hh
    · next e0 =>
      cases hh
      subst e0
      unfold xe_cw at hcw
      dsimp only at hcw
      rw [if_neg (by decide), Bool.and_eq_true] at hcw
      exact lv_ldc hx hb hown (hts _ (xt_mem (of_decide_eq_true hcw.2))) hdg kk
    · split at hh
      · next e1 =>
        obtain ⟨e1, e2⟩ := e1
        cases hh
        subst e1
        unfold xe_cw at hcw
        dsimp only at hcw
        rw [if_pos (by decide)] at hcw
        have hc := of_decide_eq_true hcw
        cases ht : xs_T[y]? with
        | none =>
          rw [ht] at hc
          cases hc
        | some t =>
          rw [ht] at hc
          have hc := Option.some.inj hc
          have hc1 := congrArg Prod.fst hc
          have hc2 := congrArg Prod.snd hc
          dsimp only at hc1 hc2
          subst hc2
          exact va_ldcS hx hb hown (hc1 ▸ hsc.2.2.1 y t ht) hdg kk
      · cases hh
  · have hlen : len = 3 := xe_l1 hlen rfl (by decide)
    subst hlen
    split at hh
    · next e0 =>
      cases hh
      subst e0
      unfold xe_cw at hcw
      dsimp only at hcw
      rw [if_neg (by decide), Bool.and_eq_true] at hcw
      exact lv_ldcw hx hb hown (hts _ (xt_mem (of_decide_eq_true hcw.2))) hdg kk
    · cases hh
  · have hlen : len = 3 := xe_l1 hlen rfl (by decide)
    subst hlen
    cases hh
    unfold xe_cw at hcw
    dsimp only at hcw
    rw [Bool.and_eq_true] at hcw
    exact lv_ldc2 hx hb hown (hts _ (xt_mem (of_decide_eq_true hcw.2))) hdg kk
  · have hlen : len = 1 := xe_l1 hlen rfl (by decide)
    subst hlen
    cases hh
    exact lv_null hx hb hdg kk
  · have hlen : len = 2 := xe_l1 hlen rfl (by decide)
    subst hlen
    unfold px_ldi at hh
    split at hh
    · next x0 hx0 =>
      cases hh
      obtain ⟨k, hk⟩ := px_lg_ok (ad := ad) hx0
      exact lv_iload hx hb hdg (lv_at hl k hk) kk
    · cases hh
  · have hlen : len = 1 := xe_l1 hlen rfl (by decide)
    subst hlen
    unfold px_ldi at hh
    split at hh
    · next x0 hx0 =>
      cases hh
      obtain ⟨k, hk⟩ := px_lg_ok (ad := ad) hx0
      exact lv_iload_n hx hb hdg rfl (lv_at hl k hk) kk
    · cases hh
  · have hlen : len = 2 := xe_l1 hlen rfl (by decide)
    subst hlen
    unfold px_ldl at hh
    split at hh
    · next x0 hx0 =>
      cases hh
      obtain ⟨k, hk⟩ := px_lg_ok (ad := ad) hx0
      exact lv_lload hx hb hdg (lv_at hl k hk) kk
    · cases hh
  · have hlen : len = 1 := xe_l1 hlen rfl (by decide)
    subst hlen
    unfold px_ldl at hh
    split at hh
    · next x0 hx0 =>
      cases hh
      obtain ⟨k, hk⟩ := px_lg_ok (ad := ad) hx0
      exact lv_lload_n hx hb hdg rfl (lv_at hl k hk) kk
    · cases hh
  · have hlen : len = 2 := xe_l1 hlen rfl (by decide)
    subst hlen
    unfold px_lda at hh
    split at hh
    · next x0 hx0 =>
      cases hh
      obtain ⟨k, hk⟩ := px_lg_ok (ad := ad) hx0
      cases x0 with
      | none => exact lv_aloadN hx hb hdg (lv_at hl k hk) kk
      | some k0 => exact lv_aload hx hb hdg (lv_at hl k hk) kk
    · cases hh
  · have hlen : len = 1 := xe_l1 hlen rfl (by decide)
    subst hlen
    unfold px_lda at hh
    split at hh
    · next x0 hx0 =>
      cases hh
      obtain ⟨k, hk⟩ := px_lg_ok (ad := ad) hx0
      cases x0 with
      | none => exact lv_aload_nN hx hb hdg rfl (lv_at hl k hk) kk
      | some k0 => exact lv_aload_n hx hb hdg rfl (lv_at hl k hk) kk
    · cases hh
  · have hlen : len = 1 := xe_l1 hlen rfl (by decide)
    subst hlen
    unfold px_u2 at hh
    split at hh
    · cases hh
      exact lv_iadd hx hb hdg kk
    · cases hh
  · have hlen : len = 1 := xe_l1 hlen rfl (by decide)
    subst hlen
    unfold px_u2 at hh
    split at hh
    · cases hh
      exact lv_isub hx hb hdg kk
    · cases hh
  · have hlen : len = 1 := xe_l1 hlen rfl (by decide)
    subst hlen
    unfold px_u2 at hh
    split at hh
    · cases hh
      exact lv_imul hx hb hdg kk
    · cases hh
  · have hlen : len = 1 := xe_l1 hlen rfl (by decide)
    subst hlen
    unfold px_d2 at hh
    split at hh
    · split at hh
      · cases hh
      · next hne =>
        cases hh
        exact lv_idiv hx hb hdg hne kk
    · cases hh
  · have hlen : len = 1 := xe_l1 hlen rfl (by decide)
    subst hlen
    unfold px_d2 at hh
    split at hh
    · split at hh
      · cases hh
      · next hne =>
        cases hh
        exact lv_irem hx hb hdg hne kk
    · cases hh
  · have hlen : len = 1 := xe_l1 hlen rfl (by decide)
    subst hlen
    unfold px_u1 at hh
    split at hh
    · cases hh
      exact lv_ineg hx hb hdg kk
    · cases hh
  · have hlen : len = 1 := xe_l1 hlen rfl (by decide)
    subst hlen
    unfold px_u2 at hh
    split at hh
    · cases hh
      exact lv_iand hx hb hdg kk
    · cases hh
  · have hlen : len = 1 := xe_l1 hlen rfl (by decide)
    subst hlen
    unfold px_u2 at hh
    split at hh
    · cases hh
      exact lv_ior hx hb hdg kk
    · cases hh
  · have hlen : len = 1 := xe_l1 hlen rfl (by decide)
    subst hlen
    unfold px_u2 at hh
    split at hh
    · cases hh
      exact lv_ixor hx hb hdg kk
    · cases hh
  · have hlen : len = 1 := xe_l1 hlen rfl (by decide)
    subst hlen
    unfold px_u2 at hh
    split at hh
    · cases hh
      exact lv_ishl hx hb hdg kk
    · cases hh
  · have hlen : len = 1 := xe_l1 hlen rfl (by decide)
    subst hlen
    unfold px_u2 at hh
    split at hh
    · cases hh
      exact lv_ishr hx hb hdg kk
    · cases hh
  · have hlen : len = 1 := xe_l1 hlen rfl (by decide)
    subst hlen
    unfold px_u2 at hh
    split at hh
    · cases hh
      exact lv_iushr hx hb hdg rfl kk
    · cases hh
  · have hlen : len = 1 := xe_l1 hlen rfl (by decide)
    subst hlen
    unfold px_m2 at hh
    split at hh
    · cases hh
      exact lv_ladd hx hb hdg kk
    · cases hh
  · have hlen : len = 1 := xe_l1 hlen rfl (by decide)
    subst hlen
    unfold px_m2 at hh
    split at hh
    · cases hh
      exact lv_lsub hx hb hdg kk
    · cases hh
  · have hlen : len = 1 := xe_l1 hlen rfl (by decide)
    subst hlen
    unfold px_m2 at hh
    split at hh
    · cases hh
      exact lv_lmul hx hb hdg kk
    · cases hh
  · have hlen : len = 1 := xe_l1 hlen rfl (by decide)
    subst hlen
    unfold px_e2 at hh
    split at hh
    · split at hh
      · cases hh
      · next hne =>
        cases hh
        exact lv_ldiv hx hb hdg hne kk
    · cases hh
  · have hlen : len = 1 := xe_l1 hlen rfl (by decide)
    subst hlen
    unfold px_e2 at hh
    split at hh
    · split at hh
      · cases hh
      · next hne =>
        cases hh
        exact lv_lrem hx hb hdg hne kk
    · cases hh
  · have hlen : len = 1 := xe_l1 hlen rfl (by decide)
    subst hlen
    unfold px_m1 at hh
    split at hh
    · cases hh
      exact lv_lneg hx hb hdg kk
    · cases hh
  · have hlen : len = 1 := xe_l1 hlen rfl (by decide)
    subst hlen
    unfold px_lli at hh
    split at hh
    · cases hh
      exact W.lcmp hx hb hdg kk
    · cases hh
  · have hlen : len = 1 := xe_l1 hlen rfl (by decide)
    subst hlen
    unfold px_il at hh
    split at hh
    · cases hh
      exact lv_i2l hx hb hdg rfl kk
    · cases hh
  · have hlen : len = 1 := xe_l1 hlen rfl (by decide)
    subst hlen
    unfold px_li at hh
    split at hh
    · cases hh
      exact lv_l2i hx hb hdg rfl kk
    · cases hh
  · have hlen : len = 1 := xe_l1 hlen rfl (by decide)
    subst hlen
    unfold px_u1 at hh
    split at hh
    · cases hh
      exact lv_i2b hx hb hdg rfl kk
    · cases hh
  · have hlen : len = 1 := xe_l1 hlen rfl (by decide)
    subst hlen
    unfold px_u1 at hh
    split at hh
    · cases hh
      exact lv_i2c hx hb hdg rfl kk
    · cases hh
  · have hlen : len = 1 := xe_l1 hlen rfl (by decide)
    subst hlen
    split at hh
    · next a r =>
      split at hh
      · cases hh
      · next t =>
        cases hh
        exact lv_dup hx hb hdg (by rw [pV_cat, if_neg t]) kk
    · cases hh
  · have hlen : len = 1 := xe_l1 hlen rfl (by decide)
    subst hlen
    split at hh
    · next a b2 r =>
      split at hh
      · cases hh
      · next t =>
        cases hh
        rw [Bool.or_eq_true, not_or] at t
        exact lv_dup2_11 hx hb hdg (by rw [pV_cat, if_neg t.1]) (by rw [pV_cat, if_neg t.2]) kk
    · cases hh
  · have hlen : len = 1 := xe_l1 hlen rfl (by decide)
    subst hlen
    split at hh
    · next a r =>
      split at hh
      · cases hh
      · next t =>
        cases hh
        exact lv_pop hx hb hdg (by rw [pV_cat, if_neg t]) kk
    · cases hh
  · have hlen : len = 1 := xe_l1 hlen rfl (by decide)
    subst hlen
    split at hh
    · next a r =>
      split at hh
      · next t =>
        cases hh
        exact lv_pop2_2 hx hb hdg (by rw [pV_cat, if_pos t]) kk
      · cases hh
    · cases hh
  · have hlen : len = 3 := xe_l1 hlen rfl (by decide)
    subst hlen
    exact px_get_ok X hdg hcw hP hh kk
  · have hlen : len = 1 := xe_l1 hlen rfl (by decide)
    subst hlen
    exact px_alen_ok X hsc hdg hP hS hh kk
  · have hlen : len = 1 := xe_l1 hlen rfl (by decide)
    subst hlen
    exact px_iald_ok X hsc hdg hP hS hh kk
  · have hlen : len = 1 := xe_l1 hlen rfl (by decide)
    subst hlen
    exact px_bald_ok X hdg hP hS hh kk
  · have hlen : len = 1 := xe_l1 hlen rfl (by decide)
    subst hlen
    exact px_lald_ok X hdg hP hS hh kk
  · have hlen : len = 1 := xe_l1 hlen rfl (by decide)
    subst hlen
    exact px_aald_ok X hdg hP hS hh kk
  · have hlen : len = 3 := xe_l1 hlen rfl (by decide)
    subst hlen
    split at hh
    · next t =>
      have hs8 := px_sum_ok ad st
      have hs8 : ((st.map (pV ad)).map fun v => v.category).sum ≤ 8 := by rw [hs8]; exact t.2
      unfold xe_cw at hcw
      dsimp only at hcw
      have hml2 : c.maxLocals = ls.size := hml.trans hl.1.symm
      split at hh
      · next e0 =>
        subst e0
        have hlink := hts _ (xt_mem (of_decide_eq_true hcw))
        unfold px_u2 at hh
        split at hh
        · cases hh
          refine va_mmax hx hb hml2 hown hlink (hts _ xw_max.1) (hts _ xw_math.1) (hts _ xw_max.2) (by omega) ?_ hcs.1 hcs.2 hdg kk
          rw [List.map_cons, List.map_cons, List.map_cons, List.sum_cons, List.map_cons, List.sum_cons] at hs8
          omega
        · cases hh
      · split at hh
        · next e0 =>
          subst e0
          have hlink := hts _ (xt_mem (of_decide_eq_true hcw))
          unfold px_u2 at hh
          split at hh
          · cases hh
            refine va_mmin hx hb hml2 hown hlink (hts _ xw_min.1) (hts _ xw_math.1) (hts _ xw_min.2) (by omega) ?_ hcs.1 hcs.2 hdg kk
            rw [List.map_cons, List.map_cons, List.map_cons, List.sum_cons, List.map_cons, List.sum_cons] at hs8
            omega
          · cases hh
        · split at hh
          · next e0 =>
            subst e0
            have hlink := hts _ (xt_mem (of_decide_eq_true hcw))
            unfold px_m1 at hh
            split at hh
            · cases hh
              refine va_mabs_long hx hb hml2 hown hlink (hts _ xw_abs.1) (hts _ xw_math.1) (hts _ xw_abs.2) (by omega) ?_ hcs.1 hcs.2 hdg kk
              rw [List.map_cons, List.map_cons, List.sum_cons] at hs8
              omega
            · cases hh
          · cases hh
    · cases hh
  · cases hh
end PPUSH
end
section
/-! the plain machine is right: ways on, stores -/
theorem px_tg_ok {pc : Nat} {f : Int} (h : 0 ≤ (pc : Int) + f) : (pc : Int) + f = (px_tg pc f : Int) := (Int.toNat_of_nonneg h).symm
theorem pL_fil (ad : Nat → Nat) {f : Nat × pv → Bool} {g : Nat × Value → Bool} (hfg : ∀ q, f q = g (q.1, pV ad q.2)) (lv : List (Nat × pv)) : pL ad (lv.filter f) = (pL ad lv).filter g := by
  unfold pL
  rw [List.filter_map]
  have : (g ∘ fun q : Nat × pv => (q.1, pV ad q.2)) = f := funext (fun q => (hfg q).symm)
  rw [this]
theorem pc2_ok (ad : Nat → Nat) (v : pv) : pc2 v = ((pV ad v).category == 2) := by
  rw [pV_cat]
  cases pc2 v <;> rfl
theorem px_s1_ok (ad : Nat → Nat) (lv : List (Nat × pv)) (i : Nat) (a : pv) : (i, pV ad a) :: (pL ad lv).filter (fun q => !(q.1 == i) && !(q.1 + 1 == i && q.2.category == 2)) = pL ad (px_s1 lv i a) := by
  show _ = (i, pV ad a) :: pL ad (lv.filter _)
  rw [pL_fil ad (g := fun q => !(q.1 == i) && !(q.1 + 1 == i && q.2.category == 2)) (fun q => by dsimp only; rw [pc2_ok ad])]
theorem px_s2_ok (ad : Nat → Nat) (lv : List (Nat × pv)) (i : Nat) (a : pv) : (i, pV ad a) :: (pL ad lv).filter (fun q => !(q.1 == i) && (!(q.1 == i + 1) && !(q.1 + 1 == i && q.2.category == 2))) = pL ad (px_s2 lv i a) := by
  show _ = (i, pV ad a) :: pL ad (lv.filter _)
  rw [pL_fil ad (g := fun q => !(q.1 == i) && (!(q.1 == i + 1) && !(q.1 + 1 == i && q.2.category == 2))) (fun q => by dsimp only; rw [pc2_ok ad])]
theorem px_fs {N y : Nat} {f g : Nat → Value} {v : Value} (hg : ∀ y2, g y2 = if y2 = y then v else f y2) : ((List.range N).map f).set y v = (List.range N).map g := by
  refine List.ext_getElem? (fun j => ?_)
  by_cases e : y = j
  · subst e
    by_cases hl : y < N
    · rw [List.getElem?_set_self (by rw [List.length_map, List.length_range]; exact hl), List.getElem?_map, List.getElem?_range hl, Option.map_some, hg, if_pos rfl]
    · rw [List.getElem?_eq_none (by rw [List.length_set, List.length_map, List.length_range]; omega), List.getElem?_eq_none (by rw [List.length_map, List.length_range]; omega)]
  · rw [List.getElem?_set_ne e, List.getElem?_map, List.getElem?_map]
    by_cases hl : j < N
    · rw [List.getElem?_range hl, Option.map_some, Option.map_some, hg, if_neg (fun z => e z.symm)]
    · rw [List.getElem?_eq_none (by rw [List.length_range]; omega)]
      rfl
theorem pu_self {α : Type} (f : Nat → Nat → α) (k y : Nat) (v : α) (j : Nat) : pu f k y v k j = if j = y then v else f k j := by
  unfold pu
  by_cases h : j = y
  · rw [if_pos ⟨rfl, h⟩, if_pos h]
  · rw [if_neg (fun z => h z.2), if_neg h]
theorem pu_ne2 {α : Type} (f : Nat → Nat → α) {k k2 : Nat} (y : Nat) (v : α) (h : k2 ≠ k) (j : Nat) : pu f k y v k2 j = f k2 j := by
  unfold pu
  rw [if_neg (fun z => h z.1)]
theorem pF_i {h : pH} {x k y : Nat} {n : Int32} (ht : xk_ty x y = .int ∨ xk_ty x y = .boolean) (y2 : Nat) : pF (pu h.1 k y n, h.2) x k y2 = if y2 = y then .inl n else pF h x k y2 := by
  by_cases e : y2 = y
  · subst e
    rw [if_pos rfl]
    unfold pF
    rcases ht with ht | ht <;> rw [ht] <;> (dsimp only; rw [pu_self, if_pos rfl])
  · rw [if_neg e]
    unfold pF
    dsimp only
    rw [pu_self, if_neg e]
theorem pF_l {h : pH} {x k y : Nat} {n : Int64} (ht : xk_ty x y = .long) (y2 : Nat) : pF (h.1, pu h.2.1 k y n, h.2.2) x k y2 = if y2 = y then .inr (.inl n) else pF h x k y2 := by
  by_cases e : y2 = y
  · subst e
    rw [if_pos rfl]
    unfold pF
    rw [ht]
    dsimp only
    rw [pu_self, if_pos rfl]
  · rw [if_neg e]
    unfold pF
    dsimp only
    rw [pu_self, if_neg e]
theorem pF_r {h : pH} {x k y : Nat} {n : Option Nat} (ht : (∃ C, xk_ty x y = .object C) ∨ ∃ t, xk_ty x y = .array t) (y2 : Nat) : pF (h.1, h.2.1, pu h.2.2.1 k y n, h.2.2.2) x k y2 = if y2 = y then .inr (.inr n) else pF h x k y2 := by
  by_cases e : y2 = y
  · subst e
    rw [if_pos rfl]
    unfold pF
    rcases ht with ⟨C, ht⟩ | ⟨t, ht⟩ <;> rw [ht] <;> (dsimp only; rw [pu_self, if_pos rfl])
  · rw [if_neg e]
    unfold pF
    dsimp only
    rw [pu_self, if_neg e]
theorem pCe_f {E : Nat → ClassId} {ad : Nat → Nat} {h h2 : pH} {k : Nat} (hf : ∀ x k2 y, k2 ≠ k → pF h2 x k2 y = pF h x k2 y) (hr : h2.2.2.2 = h.2.2.2) : ∀ (k2 : Nat) (t2 : Nat × Nat), k2 ≠ k → pCe E ad h2 k2 t2 = pCe E ad h k2 t2 := by
  intro k2 t2 hk
  have e : (fun y => pV ad (pF h2 t2.2 k2 y)) = fun y => pV ad (pF h t2.2 k2 y) := funext (fun y => by rw [hf _ _ _ hk])
  unfold pCe
  rw [e, hr]
theorem pCe_a {E : Nat → ClassId} {ad : Nat → Nat} {h h2 : pH} {k : Nat} (h1 : h2.1 = h.1) (h3 : h2.2.1 = h.2.1) (h4 : h2.2.2.1 = h.2.2.1) (ha : ∀ k2, k2 ≠ k → h2.2.2.2.1 k2 = h.2.2.2.1 k2) (hb : ∀ k2, k2 ≠ k → h2.2.2.2.2.1 k2 = h.2.2.2.2.1 k2) (hc : ∀ k2, k2 ≠ k → h2.2.2.2.2.2 k2 = h.2.2.2.2.2 k2) : ∀ (k2 : Nat) (t2 : Nat × Nat), k2 ≠ k → pCe E ad h2 k2 t2 = pCe E ad h k2 t2 := by
  intro k2 t2 hk
  have e : (fun y => pV ad (pF h2 t2.2 k2 y)) = fun y => pV ad (pF h t2.2 k2 y) := funext (fun y => by unfold pF; rw [h1, h3, h4])
  unfold pCe
  rw [e, ha k2 hk, hb k2 hk, hc k2 hk]
section PSTEP
variable {p : Program} {l : Launch} {e : Env} {R : Room} {s : State} {m : MethodId} {args : Array Value} {below : List Frame} {meth : Method} {c : Code} {H : Heap} {locs : List Loc} {cells slots : Nat} {Q : State → Prop}
variable {D : va_G} {E : Nat → ClassId} {A : Nat → Prop} {b : Nat} {ad : Nat → Nat} {ly : List (Nat × Nat)} {h : pH} {sc : pS} {d μ : Nat}
set_option maxHeartbeats 8000000 in
theorem px_br_ok {pc : Nat} {q : xe_I} {st : List pv} {t : Nat × List pv} {ls : Array Slot} (X : xe_X p R s m args meth c D E A b [] d μ) (hk : xe_chk μ q pc = true) (hh : px_bf q.1 pc st = some t)
    (kk : W p l e R s m args below meth c H locs cells slots Q (F0 m t.1 ls (t.2.map (pV ad)))) : W p l e R s m args below meth c H locs cells slots Q (F0 m pc ls (st.map (pV ad))) := by
  obtain ⟨I, len, x, y, z⟩ := q
  unfold xe_chk at hk
  dsimp only at hh hk
  rw [Bool.and_eq_true, Bool.and_eq_true] at hk
  obtain ⟨⟨hlen, hdg0⟩, hcw⟩ := hk
  have hdg := of_decide_eq_true hdg0
  clear hdg0
  obtain ⟨⟨hx, hb, hml, hown, hret, hnm, hlk⟩, -⟩ := X
  unfold px_bf at hh
  split at hh <;> (try dsimp only at hh)
  · have hlen : len = 3 := xe_l1 hlen rfl (by decide)
    subst hlen
    split at hh
    · next g =>
      cases hh
      exact lv_goto hx hb hdg (px_tg_ok g) kk
    · cases hh
  · have hlen : len = 3 := xe_l1 hlen rfl (by decide)
    subst hlen
    split at hh
    · split at hh
      · next g =>
        split at hh
        · split at hh
          · next g2 =>
            cases hh
            exact lv_if_eq hx hb hdg (px_tg_ok g) (fun _ => kk) (fun n => absurd g2 n)
          · next g2 =>
            cases hh
            exact lv_if_eq hx hb hdg (px_tg_ok g) (fun n => absurd n g2) (fun _ => kk)
        · split at hh
          · next g2 =>
            cases hh
            exact lv_if_ne hx hb hdg (px_tg_ok g) (fun n => absurd g2 n) (fun _ => kk)
          · next g2 =>
            cases hh
            exact lv_if_ne hx hb hdg (px_tg_ok g) (fun _ => kk) (fun n => absurd n g2)
        · split at hh
          · next g2 =>
            cases hh
            exact lv_if_lt hx hb hdg (px_tg_ok g) (fun _ => kk) (fun n => absurd g2 n)
          · next g2 =>
            cases hh
            exact lv_if_lt hx hb hdg (px_tg_ok g) (fun n => absurd n g2) (fun _ => kk)
        · split at hh
          · next g2 =>
            cases hh
            exact lv_if_ge hx hb hdg (px_tg_ok g) (fun n => absurd g2 (Int32.not_lt.mpr n)) (fun _ => kk)
          · next g2 =>
            cases hh
            exact lv_if_ge hx hb hdg (px_tg_ok g) (fun _ => kk) (fun n => absurd (Int32.not_lt.mp g2) n)
        · split at hh
          · next g2 =>
            cases hh
            exact lv_if_gt hx hb hdg (px_tg_ok g) (fun _ => kk) (fun n => absurd g2 n)
          · next g2 =>
            cases hh
            exact lv_if_gt hx hb hdg (px_tg_ok g) (fun n => absurd n g2) (fun _ => kk)
        · split at hh
          · next g2 =>
            cases hh
            exact lv_if_le hx hb hdg (px_tg_ok g) (fun n => absurd g2 (Int32.not_lt.mpr n)) (fun _ => kk)
          · next g2 =>
            cases hh
            exact lv_if_le hx hb hdg (px_tg_ok g) (fun _ => kk) (fun n => absurd (Int32.not_lt.mp g2) n)
      · cases hh
    · cases hh
  · have hlen : len = 3 := xe_l1 hlen rfl (by decide)
    subst hlen
    split at hh
    · split at hh
      · next g =>
        split at hh
        · split at hh
          · next g2 =>
            cases hh
            exact lv_icmp_eq hx hb hdg (px_tg_ok g) (fun _ => kk) (fun n => absurd g2 n)
          · next g2 =>
            cases hh
            exact lv_icmp_eq hx hb hdg (px_tg_ok g) (fun n => absurd n g2) (fun _ => kk)
        · split at hh
          · next g2 =>
            cases hh
            exact lv_icmp_ne hx hb hdg (px_tg_ok g) (fun n => absurd g2 n) (fun _ => kk)
          · next g2 =>
            cases hh
            exact lv_icmp_ne hx hb hdg (px_tg_ok g) (fun _ => kk) (fun n => absurd n g2)
        · split at hh
          · next g2 =>
            cases hh
            exact lv_icmp_lt hx hb hdg (px_tg_ok g) (fun _ => kk) (fun n => absurd g2 n)
          · next g2 =>
            cases hh
            exact lv_icmp_lt hx hb hdg (px_tg_ok g) (fun n => absurd n g2) (fun _ => kk)
        · split at hh
          · next g2 =>
            cases hh
            exact lv_icmp_ge hx hb hdg (px_tg_ok g) (fun n => absurd g2 (Int32.not_lt.mpr n)) (fun _ => kk)
          · next g2 =>
            cases hh
            exact lv_icmp_ge hx hb hdg (px_tg_ok g) (fun _ => kk) (fun n => absurd (Int32.not_lt.mp g2) n)
        · split at hh
          · next g2 =>
            cases hh
            exact lv_icmp_gt hx hb hdg (px_tg_ok g) (fun _ => kk) (fun n => absurd g2 n)
          · next g2 =>
            cases hh
            exact lv_icmp_gt hx hb hdg (px_tg_ok g) (fun n => absurd n g2) (fun _ => kk)
        · split at hh
          · next g2 =>
            cases hh
            exact lv_icmp_le hx hb hdg (px_tg_ok g) (fun n => absurd g2 (Int32.not_lt.mpr n)) (fun _ => kk)
          · next g2 =>
            cases hh
            exact lv_icmp_le hx hb hdg (px_tg_ok g) (fun _ => kk) (fun n => absurd (Int32.not_lt.mp g2) n)
      · cases hh
    · cases hh
  · have hlen : len = 3 := xe_l1 hlen rfl (by decide)
    subst hlen
    split at hh
    · split at hh
      · next g =>
        cases hh
        exact lv_ifnullN hx hb hdg (px_tg_ok g) kk
      · cases hh
    · cases hh
      exact lv_ifnull hx hb hdg kk
    · cases hh
  · have hlen : len = 3 := xe_l1 hlen rfl (by decide)
    subst hlen
    split at hh
    · cases hh
      exact lv_ifnonnullN hx hb hdg kk
    · split at hh
      · next g =>
        cases hh
        exact lv_ifnonnull hx hb hdg (px_tg_ok g) kk
      · cases hh
    · cases hh
  · split at hh
    · split at hh
      · next g0 =>
        split at hh
        · next g =>
          cases hh
          exact lv_tableOut hx hb hdg g0 (px_tg_ok g) kk
        · cases hh
      · next g0 =>
        rw [not_or] at g0
        split at hh
        · next f hf =>
          split at hh
          · next g =>
            cases hh
            exact lv_tableIn hx hb hdg g0.1 g0.2 hf (px_tg_ok g) kk
          · cases hh
        · cases hh
    · cases hh
  · cases hh
set_option maxHeartbeats 8000000 in
theorem px_sto_ok {pc : Nat} {q : xe_I} {lv : List (Nat × pv)} {st : List pv} {w : List (Nat × pv) × List pv} {ls : Array Slot} (X : xe_X p R s m args meth c D E A b [] d μ) (hk : xe_chk μ q pc = true) (hl : lv_has ls (xm μ).2.2.1 (pL ad lv)) (hh : px_of q.1 (xm μ).2.2.1 lv st = some w)
    (kk : ∀ ls2 : Array Slot, lv_has ls2 (xm μ).2.2.1 (pL ad w.1) → W p l e R s m args below meth c H locs cells slots Q (F0 m (pc + q.2.1) ls2 (w.2.map (pV ad)))) : W p l e R s m args below meth c H locs cells slots Q (F0 m pc ls (st.map (pV ad))) := by
  obtain ⟨I, len, x, y, z⟩ := q
  unfold xe_chk at hk
  dsimp only at hh hk kk
  rw [Bool.and_eq_true, Bool.and_eq_true] at hk
  obtain ⟨⟨hlen, hdg0⟩, hcw⟩ := hk
  have hdg := of_decide_eq_true hdg0
  clear hdg0
  obtain ⟨⟨hx, hb, hml, hown, hret, hnm, hlk⟩, -⟩ := X
  unfold px_of at hh
  split at hh <;> (try dsimp only at hh)
  · have hlen : len = 2 := xe_l1 hlen rfl (by decide)
    subst hlen
    unfold px_ti at hh
    split at hh
    · split at hh
      · next g =>
        cases hh
        exact lv_istore hx hb hdg hl g (px_s1_ok ad lv _ (.inl _)) kk
      · cases hh
    · cases hh
  · have hlen : len = 1 := xe_l1 hlen rfl (by decide)
    subst hlen
    unfold px_ti at hh
    split at hh
    · split at hh
      · next g =>
        cases hh
        exact lv_istore_n hx hb hdg rfl hl g (px_s1_ok ad lv _ (.inl _)) kk
      · cases hh
    · cases hh
  · have hlen : len = 2 := xe_l1 hlen rfl (by decide)
    subst hlen
    unfold px_ta at hh
    split at hh
    · next x0 r =>
      split at hh
      · next g =>
        cases hh
        cases x0 with
        | none => exact lv_astoreN hx hb hdg hl g (px_s1_ok ad lv _ (.inr (.inr none))) kk
        | some k0 => exact lv_astore hx hb hdg hl g (px_s1_ok ad lv _ (.inr (.inr (some k0)))) kk
      · cases hh
    · cases hh
  · have hlen : len = 1 := xe_l1 hlen rfl (by decide)
    subst hlen
    unfold px_ta at hh
    split at hh
    · next x0 r =>
      split at hh
      · next g =>
        cases hh
        cases x0 with
        | none => exact lv_astore_nN hx hb hdg rfl hl g (px_s1_ok ad lv _ (.inr (.inr none))) kk
        | some k0 => exact lv_astore_n hx hb hdg rfl hl g (px_s1_ok ad lv _ (.inr (.inr (some k0)))) kk
      · cases hh
    · cases hh
  · have hlen : len = 2 := xe_l1 hlen rfl (by decide)
    subst hlen
    unfold px_tl at hh
    split at hh
    · split at hh
      · next g =>
        cases hh
        exact lv_lstore hx hb hdg hl g (px_s2_ok ad lv _ (.inr (.inl _))) kk
      · cases hh
    · cases hh
  · have hlen : len = 1 := xe_l1 hlen rfl (by decide)
    subst hlen
    unfold px_tl at hh
    split at hh
    · split at hh
      · next g =>
        cases hh
        exact lv_lstore_n hx hb hdg rfl hl g (px_s2_ok ad lv _ (.inr (.inl _))) kk
      · cases hh
    · cases hh
  · have hlen : len = 3 := xe_l1 hlen rfl (by decide)
    subst hlen
    split at hh
    · next x0 hx0 =>
      obtain ⟨k, hk⟩ := px_lg_ok (ad := ad) hx0
      split at hh
      · next g =>
        cases hh
        exact lv_iinc hx hb hdg hl hk rfl g (px_s1_ok ad lv _ (.inl _)) kk
      · cases hh
    · cases hh
  · cases hh
set_option maxHeartbeats 8000000 in
theorem px_putw_ok {pc i x y z : Nat} {st : List pv} {w : List pv × pH} {ls : Array Slot} (X : xe_X p R s m args meth c D E A b [] d μ) (hdg : decode (xm μ).2.1 pc = .ok (.putfield i, 3)) (hcw : xe_cw μ (.putfield i, 3, x, y, z) = true) (hP : va_P D xk_cl (pW ly E ad h) H) (hD : va_D A (pW ly E ad h)) (hS : va_S A s.heap H locs) (hin : (xm μ).2.2.2.2.2.2.2 = 2 → meth.name = "<init>") (hh : px_put ly h x y st = some w)
    (kk : ∀ (H2 : Heap) (locs2 : List Loc), va_P D xk_cl (pW ly E ad w.2) H2 → va_D A (pW ly E ad w.2) → va_S A s.heap H2 locs2 → W p l e R s m args below meth c H2 locs2 cells slots Q (F0 m (pc + 3) ls (w.1.map (pV ad)))) : W p l e R s m args below meth c H locs cells slots Q (F0 m pc ls (st.map (pV ad))) := by
  obtain ⟨⟨hx, hb, hml, hown, hret, hnm, hlk⟩, ⟨hts, hN, hAO, hK⟩, -, -⟩ := X
  unfold px_put at hh
  split at hh
  · next v k r =>
    split at hh
    · next hk =>
      unfold xe_cw at hcw
      dsimp only at hcw
      split at hcw
      · next r0 hr0 =>
        rw [Bool.and_eq_true, Bool.and_eq_true] at hcw
        obtain ⟨C, T, N⟩ := r0
        obtain ⟨u1, u2, u3, u4, u5⟩ := xu_w hr0
        have hlink := hts _ (xt_mem (of_decide_eq_true hcw.1.2))
        have hyN : y < N := Nat.le_of_ble_eq_true hcw.1.1
        have hnf : pnf x = N := by unfold pnf; rw [hr0]
        have hat := pW_at (E := E) (ad := ad) (h := h) hk
        have hlen : y < ((List.range (pnf x)).map (fun y => pV ad (pF h x k y))).length := by rw [List.length_map, List.length_range, hnf]; exact hyN
        have key : ∀ h2 : pH, (∀ y2, pF h2 x k y2 = if y2 = y then v else pF h x k y2) → (∀ x2 k2 y2, k2 ≠ k → pF h2 x2 k2 y2 = pF h x2 k2 y2) → h2.2.2.2 = h.2.2.2 → narrow (xk_ty x y) (pV ad v) = pV ad v → fits (xk_ty x y) (pV ad v) = true → w = (r, h2) → W p l e R s m args below meth c H locs cells slots Q (F0 m pc ls ((v :: .inr (.inr (some k)) :: r : List pv).map (pV ad))) := by
          intro h2 e1 e2 e3 f1 f2 ew
          subst ew
          have hset : (pW ly E ad h).set k (ad k, .inr (x, ((List.range (pnf x)).map (fun y => pV ad (pF h x k y))).set y (pV ad v))) = pW ly E ad h2 := by
            rw [px_fs (g := fun y2 => pV ad (pF h2 x k y2)) (fun y2 => by rw [e1]; split <;> rfl)]
            exact pW_set hk (pCe_f e2 e3)
          cases hfin : (T y).2.2.2 with
          | false =>
            refine va_put hx hb hts u1 (xk_ty x) u2 u5 hown hK hP hD hS k hat hr0 y hyN hlink (fun _ h9 => h9) hfin (u2 y hyN) f1 f2 hlen hdg (fun H2 locs2 hP2 hD2 hS2 => ?_)
            rw [hset] at hP2 hD2
            exact kk _ _ hP2 hD2 hS2
          | true =>
            have h9 := hcw.2
            dsimp only at h9
            rw [hfin, if_pos rfl, Bool.and_eq_true] at h9
            refine va_putF hx hb hts u1 (xk_ty x) u2 u5 hown hK hP hD hS k hat hr0 y hyN hlink (fun _ h9 => h9) hfin (hin (by simpa using h9.1)) (of_decide_eq_true h9.2) (u2 y hyN) f1 f2 hlen hdg (fun H2 locs2 hP2 hD2 hS2 => ?_)
            rw [hset] at hP2 hD2
            exact kk _ _ hP2 hD2 hS2
        split at hh
        · next n ht =>
          cases hh
          exact key _ (pF_i (Or.inl ht)) (fun x2 k2 y2 hk2 => by unfold pF; dsimp only; rw [pu_ne2 _ _ _ hk2]) rfl (by rw [ht]; rfl) (by rw [ht]; rfl) rfl
        · next n ht =>
          split at hh
          · next g =>
            cases hh
            refine key _ (pF_i (Or.inr ht)) (fun x2 k2 y2 hk2 => by unfold pF; dsimp only; rw [pu_ne2 _ _ _ hk2]) rfl ?_ ?_ rfl
            · rw [ht]
              rcases g with rfl | rfl <;> first | (show narrow .boolean (.int _) = .int _; decide +kernel) | (show fits .boolean (.int _) = true; decide +kernel)
            · rw [ht]
              rcases g with rfl | rfl <;> first | (show narrow .boolean (.int _) = .int _; decide +kernel) | (show fits .boolean (.int _) = true; decide +kernel)
          · cases hh
        · next n ht =>
          cases hh
          exact key _ (pF_l ht) (fun x2 k2 y2 hk2 => by unfold pF; dsimp only; rw [pu_ne2 _ _ _ hk2]) rfl (by rw [ht]; rfl) (by rw [ht]; rfl) rfl
        · next C2 n ht =>
          cases hh
          refine key _ (pF_r (Or.inl ⟨_, ht⟩)) (fun x2 k2 y2 hk2 => by unfold pF; dsimp only; rw [pu_ne2 _ _ _ hk2]) rfl ?_ ?_ rfl
          · rw [ht]; cases n <;> rfl
          · rw [ht]; cases n <;> rfl
        · next C2 n ht =>
          cases hh
          refine key _ (pF_r (Or.inr ⟨_, ht⟩)) (fun x2 k2 y2 hk2 => by unfold pF; dsimp only; rw [pu_ne2 _ _ _ hk2]) rfl ?_ ?_ rfl
          · rw [ht]; cases n <;> rfl
          · rw [ht]; cases n <;> rfl
        · cases hh
      · cases hcw
    · cases hh
  · cases hh
set_option maxHeartbeats 8000000 in
theorem px_iast_ok {pc : Nat} {st : List pv} {w : List pv × pH} {ls : Array Slot} (X : xe_X p R s m args meth c D E A b [] d μ) (hdg : decode (xm μ).2.1 pc = .ok (.iastore, 1)) (hP : va_P D xk_cl (pW ly E ad h) H) (hD : va_D A (pW ly E ad h)) (hS : va_S A s.heap H locs) (hh : px_iast ly h st = some w)
    (kk : ∀ (H2 : Heap) (locs2 : List Loc), va_P D xk_cl (pW ly E ad w.2) H2 → va_D A (pW ly E ad w.2) → va_S A s.heap H2 locs2 → W p l e R s m args below meth c H2 locs2 cells slots Q (F0 m (pc + 1) ls (w.1.map (pV ad)))) : W p l e R s m args below meth c H locs cells slots Q (F0 m pc ls (st.map (pV ad))) := by
  obtain ⟨⟨hx, hb, hml, hown, hret, hnm, hlk⟩, ⟨hts, hN, hAO, hK⟩, -, -⟩ := X
  unfold px_iast at hh
  split at hh
  · next v i k r =>
    split at hh
    · next t ht =>
      split at hh
      · next g =>
        split at hh
        · cases hh
        · next hin =>
          cases hh
          obtain ⟨tk, tn⟩ := t
          dsimp only at g
          subst g
          refine va_iast hx hb hK hP hD hS k 0 (pW_at ht) rfl hin hdg (fun H2 locs2 hP2 hD2 hS2 => ?_)
          have hset : (pW ly E ad h).set k (ad k, .inl (E 0, tn, .inl (upd (h.2.2.2.1 k) i.toNatClampNeg v))) = pW ly E ad (h.1, h.2.1, h.2.2.1, pu h.2.2.2.1 k i.toNatClampNeg v, h.2.2.2.2) := by
            have e1 : .inl (E 0, tn, .inl (upd (h.2.2.2.1 k) i.toNatClampNeg v)) = pCe E ad (h.1, h.2.1, h.2.2.1, pu h.2.2.2.1 k i.toNatClampNeg v, h.2.2.2.2) k (1, tn) := by
              unfold pCe
              dsimp only
              have : upd (h.2.2.2.1 k) i.toNatClampNeg v = pu h.2.2.2.1 k i.toNatClampNeg v k := funext (fun j => by rw [pu_self]; rfl)
              rw [this]
              rfl
            rw [e1]
            exact pW_set ht (pCe_a rfl rfl rfl (fun k2 hk2 => funext (fun j => pu_ne2 _ _ _ hk2 j)) (fun k2 hk2 => rfl) (fun _ _ => rfl))
          rw [hset] at hP2 hD2
          exact kk _ _ hP2 hD2 hS2
      · cases hh
    · cases hh
  · cases hh
set_option maxHeartbeats 8000000 in
theorem px_bast_ok {pc : Nat} {st : List pv} {w : List pv × pH} {ls : Array Slot} (X : xe_X p R s m args meth c D E A b [] d μ) (hdg : decode (xm μ).2.1 pc = .ok (.bastore, 1)) (hP : va_P D xk_cl (pW ly E ad h) H) (hD : va_D A (pW ly E ad h)) (hS : va_S A s.heap H locs) (hh : px_bast ly h st = some w)
    (kk : ∀ (H2 : Heap) (locs2 : List Loc), va_P D xk_cl (pW ly E ad w.2) H2 → va_D A (pW ly E ad w.2) → va_S A s.heap H2 locs2 → W p l e R s m args below meth c H2 locs2 cells slots Q (F0 m (pc + 1) ls (w.1.map (pV ad)))) : W p l e R s m args below meth c H locs cells slots Q (F0 m pc ls (st.map (pV ad))) := by
  obtain ⟨⟨hx, hb, hml, hown, hret, hnm, hlk⟩, ⟨hts, hN, hAO, hK⟩, -, -⟩ := X
  unfold px_bast at hh
  split at hh
  · next v i k r =>
    split at hh
    · next t ht =>
      split at hh
      · next g =>
        split at hh
        · cases hh
        · next hin =>
          cases hh
          obtain ⟨tk, tn⟩ := t
          dsimp only at g
          subst g
          refine va_bast hx hb hK hP hD hS k 1 (pW_at ht) rfl hin hdg (fun H2 locs2 hP2 hD2 hS2 => ?_)
          have hset : (pW ly E ad h).set k (ad k, .inl (E 1, tn, .inl (upd (h.2.2.2.1 k) i.toNatClampNeg (vp_nar .byte v)))) = pW ly E ad (h.1, h.2.1, h.2.2.1, pu h.2.2.2.1 k i.toNatClampNeg v.toInt8.toInt32, h.2.2.2.2) := by
            have e1 : .inl (E 1, tn, .inl (upd (h.2.2.2.1 k) i.toNatClampNeg (vp_nar .byte v))) = pCe E ad (h.1, h.2.1, h.2.2.1, pu h.2.2.2.1 k i.toNatClampNeg v.toInt8.toInt32, h.2.2.2.2) k (2, tn) := by
              unfold pCe
              dsimp only
              have : upd (h.2.2.2.1 k) i.toNatClampNeg (vp_nar .byte v) = pu h.2.2.2.1 k i.toNatClampNeg v.toInt8.toInt32 k := funext (fun j => by rw [pu_self]; rfl)
              rw [this]
              rfl
            rw [e1]
            exact pW_set ht (pCe_a rfl rfl rfl (fun k2 hk2 => funext (fun j => pu_ne2 _ _ _ hk2 j)) (fun k2 hk2 => rfl) (fun _ _ => rfl))
          rw [hset] at hP2 hD2
          exact kk _ _ hP2 hD2 hS2
      · cases hh
    · cases hh
  · cases hh
set_option maxHeartbeats 8000000 in
theorem px_last_ok {pc : Nat} {st : List pv} {w : List pv × pH} {ls : Array Slot} (X : xe_X p R s m args meth c D E A b [] d μ) (hdg : decode (xm μ).2.1 pc = .ok (.lastore, 1)) (hP : va_P D xk_cl (pW ly E ad h) H) (hD : va_D A (pW ly E ad h)) (hS : va_S A s.heap H locs) (hh : px_last ly h st = some w)
    (kk : ∀ (H2 : Heap) (locs2 : List Loc), va_P D xk_cl (pW ly E ad w.2) H2 → va_D A (pW ly E ad w.2) → va_S A s.heap H2 locs2 → W p l e R s m args below meth c H2 locs2 cells slots Q (F0 m (pc + 1) ls (w.1.map (pV ad)))) : W p l e R s m args below meth c H locs cells slots Q (F0 m pc ls (st.map (pV ad))) := by
  obtain ⟨⟨hx, hb, hml, hown, hret, hnm, hlk⟩, ⟨hts, hN, hAO, hK⟩, -, -⟩ := X
  unfold px_last at hh
  split at hh
  · next v i k r =>
    split at hh
    · next t ht =>
      split at hh
      · next g =>
        split at hh
        · cases hh
        · next hin =>
          cases hh
          obtain ⟨tk, tn⟩ := t
          dsimp only at g
          subst g
          refine va_last hx hb hK hP hD hS k 2 (pW_at ht) rfl hin hdg (fun H2 locs2 hP2 hD2 hS2 => ?_)
          have hset : (pW ly E ad h).set k (ad k, .inl (E 2, tn, .inr (.inl (vp_updL (h.2.2.2.2.1 k) i.toNatClampNeg v)))) = pW ly E ad (h.1, h.2.1, h.2.2.1, h.2.2.2.1, pu h.2.2.2.2.1 k i.toNatClampNeg v, h.2.2.2.2.2) := by
            have e1 : .inl (E 2, tn, .inr (.inl (vp_updL (h.2.2.2.2.1 k) i.toNatClampNeg v))) = pCe E ad (h.1, h.2.1, h.2.2.1, h.2.2.2.1, pu h.2.2.2.2.1 k i.toNatClampNeg v, h.2.2.2.2.2) k (3, tn) := by
              unfold pCe
              dsimp only
              have : vp_updL (h.2.2.2.2.1 k) i.toNatClampNeg v = pu h.2.2.2.2.1 k i.toNatClampNeg v k := funext (fun j => by rw [pu_self]; rfl)
              rw [this]
              rfl
            rw [e1]
            exact pW_set ht (pCe_a rfl rfl rfl (fun k2 hk2 => rfl) (fun k2 hk2 => funext (fun j => pu_ne2 _ _ _ hk2 j)) (fun _ _ => rfl))
          rw [hset] at hP2 hD2
          exact kk _ _ hP2 hD2 hS2
      · cases hh
    · cases hh
  · cases hh
set_option maxHeartbeats 8000000 in
theorem px_acp_ok {pc i : Nat} {st : List pv} {w : List pv × pH} {ls : Array Slot} (X : xe_X p R s m args meth c D E A b [] d μ) (hdg : decode (xm μ).2.1 pc = .ok (.invokestatic i, 3)) (hlink : (Cond.methodLink (xm μ).1.cls i arraycopyName).before args s = true)
    (hP : va_P D xk_cl (pW ly E ad h) H) (hD : va_D A (pW ly E ad h)) (hS : va_S A s.heap H locs) (hls : ls.size = (xm μ).2.2.1) (hh : px_acp ly d h st = some w)
    (kk : ∀ (H2 : Heap) (locs2 : List Loc), va_P D xk_cl (pW ly E ad w.2) H2 → va_D A (pW ly E ad w.2) → va_S A s.heap H2 locs2 → W p l e R s m args below meth c H2 locs2 cells slots Q (F0 m (pc + 3) ls (w.1.map (pV ad)))) : W p l e R s m args below meth c H locs cells slots Q (F0 m pc ls (st.map (pV ad))) := by
  obtain ⟨⟨hx, hb, hml, hown, hret, hnm, hlk⟩, ⟨hts, hN, hAO, hK⟩, ⟨hA, hd1, hd2, hd3, hd4⟩, -⟩ := X
  unfold px_acp at hh
  split at hh
  · next n dp a sp a0 r =>
    split at hh
    · next t t0 ht ht0 =>
      split at hh
      · next g =>
        obtain ⟨g1, g2, g3, g4, g5, g6, g7, g8, g9⟩ := g
        cases hh
        obtain ⟨tk, tn⟩ := t
        obtain ⟨uk, un⟩ := t0
        dsimp only at g3 g4 g8 g9
        subst g3
        subst g4
        have hnf : nativeFrameWords "java/lang/System" "arraycopy" 5 ≤ 7 := by decide +kernel
        have h8 : ((r.map (pV ad)).map fun v => v.category).sum ≤ 8 := by rw [px_sum_ok]; exact g2
        refine va_copyi hx hb (hml.trans hls.symm) hown hlink (hts _ xw_math.2.2.2) (hts _ xw_math.2.2.1) (hts _ xw_math.2.1) hK hP hD hS a0 a 0 0 (ty := .int) (pW_at ht0) (pW_at ht) rfl rfl rfl g5 g6 g7 g8 g9 (fun _ _ => rfl) (by omega) (by omega) hdg (fun H2 locs2 hP2 hD2 hS2 => ?_)
        have hset : (pW ly E ad h).set a (ad a, .inl (E 0, tn, .inl (va_cpy (h.2.2.2.1 a0) (h.2.2.2.1 a) sp.toNatClampNeg dp.toNatClampNeg n.toNatClampNeg))) = pW ly E ad (h.1, h.2.1, h.2.2.1, (fun k => if k = a then va_cpy (h.2.2.2.1 a0) (h.2.2.2.1 a) sp.toNatClampNeg dp.toNatClampNeg n.toNatClampNeg else h.2.2.2.1 k), h.2.2.2.2) := by
          have e1 : .inl (E 0, tn, .inl (va_cpy (h.2.2.2.1 a0) (h.2.2.2.1 a) sp.toNatClampNeg dp.toNatClampNeg n.toNatClampNeg)) = pCe E ad (h.1, h.2.1, h.2.2.1, (fun k => if k = a then va_cpy (h.2.2.2.1 a0) (h.2.2.2.1 a) sp.toNatClampNeg dp.toNatClampNeg n.toNatClampNeg else h.2.2.2.1 k), h.2.2.2.2) a (1, tn) := by
            unfold pCe
            dsimp only
            rw [if_pos rfl]
            rfl
          rw [e1]
          exact pW_set ht (pCe_a rfl rfl rfl (fun k2 hk2 => by dsimp only; rw [if_neg hk2]) (fun _ _ => rfl) (fun _ _ => rfl))
        rw [hset] at hP2 hD2
        exact kk _ _ hP2 hD2 hS2
      · cases hh
    · cases hh
  · cases hh
set_option maxHeartbeats 8000000 in
theorem px_wr_ok {pc : Nat} {q : xe_I} {st : List pv} {w : List pv × pH} {ls : Array Slot} (X : xe_X p R s m args meth c D E A b [] d μ) (hk : xe_chk μ q pc = true) (hin : (xm μ).2.2.2.2.2.2.2 = 2 → meth.name = "<init>")
    (hP : va_P D xk_cl (pW ly E ad h) H) (hD : va_D A (pW ly E ad h)) (hS : va_S A s.heap H locs) (hls : ls.size = (xm μ).2.2.1) (hh : px_wf q.1 ly d q.2.2.1 q.2.2.2.1 st h = some w)
    (kk : ∀ (H2 : Heap) (locs2 : List Loc), va_P D xk_cl (pW ly E ad w.2) H2 → va_D A (pW ly E ad w.2) → va_S A s.heap H2 locs2 → W p l e R s m args below meth c H2 locs2 cells slots Q (F0 m (pc + q.2.1) ls (w.1.map (pV ad)))) : W p l e R s m args below meth c H locs cells slots Q (F0 m pc ls (st.map (pV ad))) := by
  obtain ⟨I, len, x, y, z⟩ := q
  unfold xe_chk at hk
  dsimp only at hh hk kk
  rw [Bool.and_eq_true, Bool.and_eq_true] at hk
  obtain ⟨⟨hlen, hdg0⟩, hcw⟩ := hk
  have hdg := of_decide_eq_true hdg0
  clear hdg0
  unfold px_wf at hh
  split at hh <;> (try dsimp only at hh)
  · have hlen : len = 3 := xe_l1 hlen rfl (by decide)
    subst hlen
    exact px_putw_ok X hdg hcw hP hD hS hin hh kk
  · have hlen : len = 1 := xe_l1 hlen rfl (by decide)
    subst hlen
    exact px_iast_ok X hdg hP hD hS hh kk
  · have hlen : len = 1 := xe_l1 hlen rfl (by decide)
    subst hlen
    exact px_bast_ok X hdg hP hD hS hh kk
  · have hlen : len = 1 := xe_l1 hlen rfl (by decide)
    subst hlen
    exact px_last_ok X hdg hP hD hS hh kk
  · have hlen : len = 3 := xe_l1 hlen rfl (by decide)
    subst hlen
    split at hh
    · next e0 =>
      subst e0
      unfold xe_cw at hcw
      dsimp only at hcw
      exact px_acp_ok X hdg (X.2.1.1 _ (xt_mem (of_decide_eq_true hcw))) hP hD hS hls hh kk
    · cases hh
  · cases hh
end PSTEP
end
section
/-! the plain machine is right: what it does of the library by itself -/
theorem px_kd7 {I : Jvm.ClassFile.Instr} {x : Nat} (h : px_kd I x = 7) : (∃ i, I = .invokevirtual i ∧ x = 6) ∨ ∃ i, I = .invokestatic i ∧ (x = 7 ∨ x = 8) := by
  unfold px_kd at h
  split at h
  · next i =>
    split at h
    · next e => exact Or.inl ⟨i, rfl, e⟩
    · cases h
  · next i =>
    split at h
    · next e => exact Or.inr ⟨i, rfl, e⟩
    · unfold xe_kd at h
      dsimp only at h
      split at h
      · cases h
      · split at h <;> cases h
  · next h1 h2 =>
    unfold xe_kd at h
    split at h <;> (try dsimp only at h) <;> first | (cases h; done) | (next i => exact absurd rfl (h1 i)) | (next i => exact absurd rfl (h2 i)) | (split at h <;> cases h)
theorem px_ixo6 {d : Nat} {st st2 : List pv} (h : px_ixo d 6 st = some st2) : ∃ (ch : Int32) (k : Nat) (r : List pv), st = .inl ch :: .inr (.inr (some k)) :: r ∧ (8 ≤ d ∧ px_sum r ≤ 8 ∧ 1001 ≤ k ∧ k < 1006) ∧ st2 = .inl (xs_ix (k - 1001) ch) :: r := by
  unfold px_ixo at h
  split at h
  · split at h
    · split at h
      · next g => exact ⟨_, _, _, rfl, g, (Option.some.inj h).symm⟩
      · cases h
    · cases h
  · next e => cases e
  · next e => cases e
  · cases h
theorem px_u1_s {f : Int32 → Int32} {st st2 : List pv} (h : px_u1 f st = some st2) : ∃ (x : Int32) (r : List pv), st = .inl x :: r ∧ st2 = .inl (f x) :: r := by
  unfold px_u1 at h
  split at h
  · exact ⟨_, _, rfl, (Option.some.inj h).symm⟩
  · cases h
section PIXO
variable {p : Program} {l : Launch} {e : Env} {R : Room} {s : State} {m : MethodId} {args : Array Value} {below : List Frame} {meth : Method} {c : Code} {H : Heap} {locs : List Loc} {cells slots : Nat} {Q : State → Prop}
variable {D : va_G} {E : Nat → ClassId} {A : Nat → Prop} {b : Nat} {ad : Nat → Nat} {ly : List (Nat × Nat)} {h : pH} {sc : pS} {d μ : Nat}
/-- behind a pure call of the library -/
theorem px_lib {pc : Nat} {ls : Array Slot} {rest st0 : List Value} {a : Array Value} {r : Int32} (hr : va_Run p l e R s m args below meth c H locs cells slots 0 0 (F0 m pc ls st0) rest (va_Qi (fun (z : Int32) (_ : Unit) => z = r) (fun _ _ => True) (va_A [] H.size) a) (va_A [] H.size)) (hS : va_S A s.heap H locs) (hP : va_P D xk_cl (pW ly E ad h) H) (hD : va_D A (pW ly E ad h)) (hA : ∀ q : Nat, s.heap.size ≤ q → A q)
    (kk : ∀ (H1 : Heap) (locs1 : List Loc), va_P D xk_cl (pW ly E ad h) H1 → va_D A (pW ly E ad h) → va_S A s.heap H1 locs1 → W p l e R s m args below meth c H1 locs1 cells slots Q (F0 m (pc + 3) ls (.int r :: rest))) : W p l e R s m args below meth c H locs cells slots Q (F0 m pc ls st0) := by
  have hAn : ∀ q : Nat, va_A [] H.size q → A q := fun q h => by
    rcases h with ⟨k, e, h⟩ | h
    · cases h
    · exact hA q (Nat.le_trans hS.1 h)
  refine va_calli hr hS (fun q _ h => hAn q h) (fun q h => hAn q h) (fun z u t H1 locs1 ht hvm hw hB hz1 hk1 hS1 => ?_)
  subst hw
  refine kk H1 locs1 (fun k w hw => ?_) hD hS1
  have h1 := hP k w hw
  exact h1.kept (hk1 w.1 h1.lt (fun z => by
    rcases z with ⟨k2, e2, z⟩ | z
    · cases z
    · exact absurd h1.lt (Nat.not_lt.mpr z)))
set_option maxHeartbeats 4000000 in
theorem px_ixo_ok {pc : Nat} {q : xe_I} {st st2 : List pv} {ls : Array Slot} (X : xe_X p R s m args meth c D E A b [] d μ) (hsc : pSS sc ad s A) (hk : xe_chk μ q pc = true) (hkd : px_kd q.1 q.2.2.1 = 7) (hP : va_P D xk_cl (pW ly E ad h) H) (hD : va_D A (pW ly E ad h)) (hS : va_S A s.heap H locs) (hls : ls.size = (xm μ).2.2.1) (hcs : cells ≤ R.cells ∧ slots ≤ R.slots)
    (hh : px_ixo d q.2.2.1 st = some st2) (kk : ∀ (H1 : Heap) (locs1 : List Loc), va_P D xk_cl (pW ly E ad h) H1 → va_D A (pW ly E ad h) → va_S A s.heap H1 locs1 → W p l e R s m args below meth c H1 locs1 cells slots Q (F0 m (pc + 3) ls (st2.map (pV ad)))) : W p l e R s m args below meth c H locs cells slots Q (F0 m pc ls (st.map (pV ad))) := by
  obtain ⟨I, len, x, y, z⟩ := q
  unfold xe_chk at hk
  dsimp only at hh kk hk hkd
  rw [Bool.and_eq_true, Bool.and_eq_true] at hk
  obtain ⟨⟨hlen, hdg0⟩, hcw⟩ := hk
  have hdg := of_decide_eq_true hdg0
  clear hdg0
  obtain ⟨⟨hx, hb, hml, hown, hret, hnm, hlk⟩, ⟨hts, hN, hAO, hK⟩, ⟨hA, hd1, hd2, hd3, hd4⟩, -⟩ := id X
  obtain ⟨⟨adV, hE⟩, -, hZ⟩ := hsc.2
  rcases px_kd7 hkd with ⟨i, rfl, rfl⟩ | ⟨i, rfl, hx78⟩
  · have hlen : len = 3 := xe_l1 hlen rfl (by decide)
    subst hlen
    obtain ⟨ch, k, r, rfl, g, rfl⟩ := px_ixo6 hh
    have hi : k - 1001 < 5 := by omega
    unfold xe_cw at hcw
    dsimp only at hcw
    rw [if_neg (by decide), if_pos (by decide)] at hcw
    have hlink := xt_mem (of_decide_eq_true hcw)
    have ek : ad (1001 + (k - 1001)) = ad k := by
      rw [show 1001 + (k - 1001) = k by omega]
    have hc := jm_ixI l (fun i => ad (1001 + i)) adV H.size (k - 1001) hi ch
    have hrec := vk_recv hE hi hS
    rw [ek] at hrec
    unfold jM at hc
    rw [ek] at hc
    refine px_lib (va_runV (As := [.int ch]) (rest := r.map (pV ad)) ⟨hx, hb, hml, hown, hts⟩ hc (cwV (own := (xm μ).1.cls) (C := "java/lang/String") (ws' := xe_T) 1 hts (xe_GT (fun w hw => by
      rcases List.mem_append.mp hw with hw | hw
      · simp only [List.mem_cons, List.not_mem_nil, or_false] at hw
        rcases hw with rfl | rfl | rfl | rfl
        · exact hlink
        · exact jx_i_ixI
        · exact jx_s_ixI
        · exact jx_n_S
      · exact j_good jx_c_ixI w hw)) rfl rfl rfl (by decide +kernel) ⟨by show 4 + 1 ≤ R.frames; omega, by show 8 + (2 + 11) + 64 * 4 ≤ R.locals; omega⟩) ⟨j_blind, hrec, j_pre hS hA hE hZ⟩ rfl rfl hls rfl (lv_room (by rw [px_sum_ok]; exact g.2.1)) hdg ⟨hcs.1, hcs.2⟩) hS hP hD hA kk
  · have hlen : len = 3 := xe_l1 hlen rfl (by decide)
    subst hlen
    rcases hx78 with rfl | rfl
    · have hh : (if 1 ≤ d ∧ px_sum st ≤ 8 then px_u1 xs_bc st else none) = some st2 := hh
      split at hh
      · next t =>
        obtain ⟨x1, r1, rfl, rfl⟩ := px_u1_s hh
        unfold xe_cw at hcw
        dsimp only at hcw
        rw [if_neg (by decide), if_neg (by decide), if_neg (by decide), if_neg (by decide), if_neg (by decide), if_neg (by decide), if_pos (by decide)] at hcw
        have hlink := xt_mem (of_decide_eq_true hcw)
        refine px_lib (va_runS (As := [.int x1]) (rest := r1.map (pV ad)) ⟨hx, hb, hml, hown, hts⟩ (jm_bc l (fun i => ad (1001 + i)) adV H.size x1) (va_cwS (own := (xm μ).1.cls) (ws' := xe_T) 1 hts (xe_GT (fun w hw => by
          rcases List.mem_append.mp hw with hw | hw
          · simp only [List.mem_cons, List.not_mem_nil, or_false] at hw
            rcases hw with rfl | rfl | rfl
            · exact hlink
            · exact jx_t_bc
            · exact jx_n_I
          · exact j_good jx_c_bc w hw)) rfl rfl rfl ⟨by decide, by decide, by decide +kernel⟩ ⟨by show 0 + 1 ≤ R.frames; omega, by show 8 + (1 + 11) + 64 * 0 ≤ R.locals; omega⟩) ⟨j_blind, j_pre hS hA hE hZ⟩ rfl rfl hls rfl (lv_room (by
          have t2 : px_sum (.inl x1 :: r1) ≤ 8 := t.2
          have e2 : px_sum (.inl x1 :: r1) = 1 + px_sum r1 := rfl
          rw [px_sum_ok]
          omega)) hdg ⟨hcs.1, hcs.2⟩) hS hP hD hA kk
      · cases hh
    · have hh : (if 1 ≤ d ∧ px_sum st ≤ 8 then px_u1 xs_ab st else none) = some st2 := hh
      split at hh
      · next t =>
        obtain ⟨x1, r1, rfl, rfl⟩ := px_u1_s hh
        unfold xe_cw at hcw
        dsimp only at hcw
        rw [if_neg (by decide), if_neg (by decide), if_neg (by decide), if_neg (by decide), if_neg (by decide), if_neg (by decide), if_neg (by decide), if_pos (by decide)] at hcw
        have hlink := xt_mem (of_decide_eq_true hcw)
        have t2 : px_sum (.inl x1 :: r1) ≤ 8 := t.2
        have e2 : px_sum (.inl x1 :: r1) = 1 + px_sum r1 := rfl
        refine va_mabs hx hb (hml.trans hls.symm) hown (hts _ hlink) (hts _ jx_abT) (hts _ xw_math.1) (hts _ jx_abC) (by omega) (by rw [px_sum_ok]; omega) hcs.1 hcs.2 hdg ?_
        have e3 : (if 0 ≤ x1 then x1 else 0 - x1) = xs_ab x1 := by
          unfold xs_ab
          by_cases z : x1 < 0
          · rw [if_pos z, if_neg (fun g => by have z := i32_lt0.mp z; have g := Jvm.Kit.i32_nonneg.mp g; omega), Int32.zero_sub]
          · rw [if_neg z, if_pos (Jvm.Kit.i32_nonneg.mpr (by have z2 : ¬ x1.toInt < 0 := fun g => z (i32_lt0.mpr g); omega))]
        rw [e3]
        exact kk H locs hP hD hS
      · cases hh
end PIXO
end
section
/-! the plain machine is right: calls, whole runs -/
def px_Q (ly : List (Nat × Nat)) (D : va_G) (E : Nat → ClassId) (ad : Nat → Nat) (ws : va_W) (sz : Nat) (o : Option pv × pH) : Array Value → State → Outcome → State → Prop := fun _ st oc t =>
  (oc = .returned (o.1.map (pV ad)) ∧ va_P D xk_cl (pW ly E ad o.2) t.heap ∧ va_D (va_A ws sz) (pW ly E ad o.2)) ∧ va_F (va_A ws sz) st t
/-- what a callee starts from -/
def px_U (D : va_G) (E : Nat → ClassId) (ad : Nat → Nat) (ws : va_W) (sz : Nat) (U : State) : Prop := xe_U D E ws sz U ∧ pT ad (va_A ws sz) U U.heap
theorem pT_moved {ad : Nat → Nat} {A B : Nat → Prop} {s U : State} {H0 H : Heap} {locs : List Loc} (hW : s.WarmedH U.vm) (hS : va_S A H0 H locs) (hAB : ∀ q, B q → A q) (h : pT ad A s H0) : pT ad B U H := by
  obtain ⟨⟨adV, hE⟩, hR, hZ⟩ := h
  exact ⟨⟨adV, ((hE.kept hS.2.1).narrow hAB).moved hW.alike⟩, fun y t ht => vk_R.warm hW (hR y t ht), ((hZ.kept hS.2.1).narrow hAB).moved hW.alike⟩
theorem px_blind {vc : List Value} {D : va_G} {E : Nat → ClassId} {ad : Nat → Nat} {ws : va_W} {sz : Nat} : FrameBlind (va_Pc vc (px_U D E ad ws sz)) := fun a U g mk q => by
  obtain ⟨q0, q1, ⟨adV, hE⟩, hR, hZ⟩ := q
  have b := xe_blind (vc := vc) (D := D) (E := E) (ws := ws) (sz := sz) a U g mk ⟨q0, q1⟩
  exact ⟨b.1, b.2, ⟨adV, vk_S.moved (u := U) (U := U.calling g mk a) (Vm.Alike.refl U.vm) hE⟩, fun y t ht => vk_R.same (u := U) (U := U.calling g mk a) rfl (hR y t ht), va_Z.moved (u := U) (U := U.calling g mk a) (Vm.Alike.refl U.vm) hZ⟩
def px_M (ly : List (Nat × Nat)) (l : Launch) (d y : Nat) (vs : List pv) (h : pH) (o : Option pv × pH) : Prop := ∀ (D : va_G) (E : Nat → ClassId) (ad : Nat → Nat) (sz : Nat),
  Met l (xm y).1 (xe_ws y) (xe_rm d y) (va_Pc (vs.map (pV ad)) (px_U D E ad (pW ly E ad h) sz)) (px_Q ly D E ad (pW ly E ad h) sz o) (xm y).2.2.2.2.1.1 (xm y).2.2.2.2.1.2 (va_A (pW ly E ad h) sz)
section PCALL
variable {p : Program} {l : Launch} {e : Env} {R : Room} {s : State} {m : MethodId} {args : Array Value} {below : List Frame} {meth : Method} {c : Code} {H : Heap} {locs : List Loc} {cells slots : Nat} {Q : State → Prop}
variable {D : va_G} {E : Nat → ClassId} {A : Nat → Prop} {b : Nat} {ad : Nat → Nat} {ly : List (Nat × Nat)} {h : pH} {sc : pS} {d μ : Nat}
theorem px_back {pc mc ms : Nat} {ls : Array Slot} {rest st0 : List Value} {a : Array Value} {o : Option pv × pH} {ws : va_W} (hr : va_Run p l e R s m args below meth c H locs cells slots mc ms (F0 m pc ls st0) rest (px_Q ly D E ad ws H.size o a) (va_A ws H.size)) (hS : va_S A s.heap H locs) (hD : va_D A ws) (hA : ∀ q : Nat, s.heap.size ≤ q → A q)
    (kk : ∀ (H1 : Heap) (locs1 : List Loc), va_P D xk_cl (pW ly E ad o.2) H1 → va_D A (pW ly E ad o.2) → va_S A s.heap H1 locs1 → W p l e R s m args below meth c H1 locs1 (cells + mc) (slots + ms) Q (F0 m (pc + 3) ls ((o.1.map (pV ad)).toList ++ rest))) : W p l e R s m args below meth c H locs cells slots Q (F0 m pc ls st0) := by
  intro T hT X
  obtain ⟨v, st₀, t, T', L, h0, X', hL, e1, e2, ⟨⟨hv, hP2, hD2⟩, hz, hk⟩, st⟩ := hr T hT X
  have hv : v = o.1.map (pV ad) := by
    cases hv
    rfl
  subst hv
  rw [h0] at hz hk
  have hAA : ∀ q : Nat, va_A ws H.size q → A q := by
    intro q h
    rcases h with ⟨k, e, h⟩ | h
    · exact hD.2 k (q, e) h
    · exact hA q (Nat.le_trans hS.1 h)
  obtain ⟨t2, a1, b1⟩ := kk T'.heap (locs ++ L) (by rw [e1]; exact hP2) (hD2.weaken (fun k q _ h => hAA q.1 h))
    ⟨Nat.le_trans hS.1 (by rw [e1]; exact hz), fun q h1 h2 => by rw [e1, hk q (Nat.lt_of_lt_of_le h1 hS.1) (fun z => h2 (hAA q z))]; exact hS.2.1 q h1 h2, fun q hq => by
      rcases List.mem_append.mp hq with h | h
      · exact hS.2.2 q h
      · exact hAA _ (hL q h)⟩ T' rfl X'
  exact ⟨t2, st t2 a1, b1⟩
theorem px_len {n : Nat} {st : List pv} (h : n ≤ st.length) : ((st.take n).reverse.map (pV ad)).length = n := by
  rw [List.length_map, List.length_reverse, List.length_take]
  omega
set_option maxHeartbeats 8000000 in
theorem px_cal_ok {pc : Nat} {q : xe_I} {st : List pv} {ar : List pv × List pv} {ls : Array Slot} {o : Option pv × pH} (X : xe_X p R s m args meth c D E A b [] d μ) (hk : xe_chk μ q pc = true)
    (hP : va_P D xk_cl (pW ly E ad h) H) (hD : va_D A (pW ly E ad h)) (hS : va_S A s.heap H locs) (hls : ls.size = (xm μ).2.2.1) (hh : px_cal ly q.1 q.2.2.1 q.2.2.2.1 st = some ar) (hd : 1 ≤ d) (h8 : px_sum ar.2 ≤ 8)
    (hT : pT ad A s s.heap) (hM : px_M ly l (d - 1) q.2.2.2.1 ar.1 h o) (hc1 : cells + (xm q.2.2.2.1).2.2.2.2.1.1 ≤ R.cells) (hc2 : slots + (xm q.2.2.2.1).2.2.2.2.1.2 ≤ R.slots)
    (kk : ∀ (H1 : Heap) (locs1 : List Loc), va_P D xk_cl (pW ly E ad o.2) H1 → va_D A (pW ly E ad o.2) → va_S A s.heap H1 locs1 → W p l e R s m args below meth c H1 locs1 (cells + (xm q.2.2.2.1).2.2.2.2.1.1) (slots + (xm q.2.2.2.1).2.2.2.2.1.2) Q (F0 m (pc + 3) ls ((o.1.map (pV ad)).toList ++ ar.2.map (pV ad)))) : W p l e R s m args below meth c H locs cells slots Q (F0 m pc ls (st.map (pV ad))) := by
  obtain ⟨I, len, x, y, z⟩ := q
  unfold xe_chk at hk
  dsimp only at hh hk kk hM hc1 hc2
  rw [Bool.and_eq_true, Bool.and_eq_true] at hk
  obtain ⟨⟨hlen, hdg0⟩, hcw⟩ := hk
  have hdg := of_decide_eq_true hdg0
  clear hdg0
  obtain ⟨⟨hx, hb, hml, hown, hret, hnm, hlk⟩, ⟨hts, hN, hAO, hK⟩, ⟨hA, hd1, hd2, hd3, hd4⟩, -⟩ := id X
  have hroom : (xe_rm (d - 1) y).frames + 1 ≤ R.frames := by show d - 1 + 1 ≤ R.frames; omega
  have hAn : ∀ q : Nat, va_A (pW ly E ad h) H.size q → A q := fun q hq => by
    rcases hq with ⟨k, e, hq⟩ | hq
    · exact hD.2 k (q, e) hq
    · exact hA q (Nat.le_trans hS.1 hq)
  unfold px_cal at hh
  split at hh
  · have hlen : len = 3 := xe_l1 hlen rfl (by decide)
    subst hlen
    split at hh
    · next t =>
      cases hh
      obtain ⟨t1, t2, t3⟩ := t
      have hy := xm_lt (y := y) (by omega)
      obtain ⟨m1, m2, m3, m4, m5, m6, m7, m8, m9, m10, m11⟩ := xm_ok hy
      have hmet := hM D E ad H.size
      have hn := px_len (ad := ad) t3
      have hst : st.map (pV ad) = ((st.take (xm y).2.2.2.2.2.1).reverse.map (pV ad)).reverse ++ (st.drop (xm y).2.2.2.2.2.1).map (pV ad) := by rw [← List.map_reverse, List.reverse_reverse, ← List.map_append, List.take_append_drop]
      have h8 : (((st.drop (xm y).2.2.2.2.2.1).map (pV ad)).map fun v => v.category).sum ≤ 8 := by rw [px_sum_ok]; exact h8
      have hlo : 8 + ((xm y).2.2.1 + 11) + (xe_rm (d - 1) y).locals ≤ R.locals := by show 8 + ((xm y).2.2.1 + 11) + 64 * (d - 1) ≤ R.locals; omega
      have hpre : PreS s H (va_Pc ((st.take (xm y).2.2.2.2.2.1).reverse.map (pV ad)) (px_U D E ad (pW ly E ad h) H.size)) ((st.take (xm y).2.2.2.2.2.1).reverse.map (pV ad)) := ⟨px_blind, fun U hU hW => ⟨rfl, (xe_pre (vc := []) hK hP hD hN hAO U hU hW).2, by rw [hU]; exact pT_moved hW hS hAn hT⟩⟩
      unfold xe_cw at hcw
      dsimp only at hcw
      by_cases hx0 : x = 0
      · rw [if_pos (by rw [hx0]; rfl)] at hcw
        have hlink := xt_mem (of_decide_eq_true hcw)
        have cw := va_cwS (R := R) (s := s) (args := args) (own := (xm μ).1.cls) (index := _) (y := (xm y).1) (bytes := (xm y).2.1) (maxL := (xm y).2.2.1) (ret := (xm y).2.2.2.1) (Ts := xe_T) (ws := xe_ws y) (ws' := xe_T) (rm := xe_rm (d - 1) y) (mc := (xm y).2.2.2.2.1.1) (ms := (xm y).2.2.2.2.1.2) (xm y).2.2.2.2.2.1 hts (xe_GT (fun w hw => by
          rcases List.mem_append.mp hw with hw | hw
          · simp only [List.mem_cons, List.not_mem_nil, or_false] at hw
            rcases hw with rfl | rfl | rfl
            · exact hlink
            · exact m2 t2
            · exact m1
          · exact xe_ws_in hy w hw)) rfl rfl rfl ⟨m7, m8, m9⟩ ⟨hroom, hlo⟩
        exact px_back (va_runS (As := (st.take (xm y).2.2.2.2.2.1).reverse.map (pV ad)) (rest := (st.drop (xm y).2.2.2.2.2.1).map (pV ad)) ⟨hx, hb, hml, hown, hts⟩ hmet cw hpre rfl hn hls hst (lv_room h8) hdg ⟨hc1, hc2⟩) hS hD hA kk
      · have hx1 : x = 1 := by omega
        rw [if_neg (by simpa using hx0), if_pos (by rw [hx1]; rfl)] at hcw
        have hlink := hN _ (List.mem_of_getElem? (of_decide_eq_true hcw))
        have cw := va_cnB (R := R) (s := s) (args := args) (own := (xm μ).1.cls) (host := "SlideNight") (index := _) (y := (xm y).1) (bytes := (xm y).2.1) (maxL := (xm y).2.2.1) (ret := (xm y).2.2.2.1) (Ts := xe_T) (ws := xe_ws y) (ws' := xe_T) (rm := xe_rm (d - 1) y) (mc := (xm y).2.2.2.2.1.1) (ms := (xm y).2.2.2.2.1.2) (xm y).2.2.2.2.2.1 hts (xe_GT (xe_ws_in hy)) rfl rfl rfl hlink (hts _ m1) ⟨m7, m8, m9⟩ ⟨hroom, hlo⟩
        exact px_back (va_runSN (As := (st.take (xm y).2.2.2.2.2.1).reverse.map (pV ad)) (rest := (st.drop (xm y).2.2.2.2.2.1).map (pV ad)) ⟨hx, hb, hml, hown, hts⟩ hmet ⟨cw, hts _ (m2 t2), trivial⟩ hpre rfl hn hls hst (lv_room h8) hdg ⟨hc1, hc2⟩) hS hD hA kk
    · cases hh
  · have hlen : len = 3 := xe_l1 hlen rfl (by decide)
    subst hlen
    split at hh
    · next t =>
      obtain ⟨t1, t2, t3⟩ := t
      have hy := xm_lt (y := y) (by omega)
      obtain ⟨m1, m2, m3, m4, m5, m6, m7, m8, m9, m10, m11⟩ := xm_ok hy
      split at hh
      · next k r hdr =>
        split at hh
        · next hk2 =>
          cases hh
          obtain ⟨cc, hcc, hcn⟩ := m11
          have hat := pW_at (E := E) (ad := ad) (h := h) hk2
          have hmet := hM D E ad H.size
          have hn := px_len (ad := ad) t3
          have hst : st.map (pV ad) = ((st.take (xm y).2.2.2.2.2.1).reverse.map (pV ad)).reverse ++ .ref (ad k) :: r.map (pV ad) := by
            have e1 : .ref (ad k) :: r.map (pV ad) = (st.drop (xm y).2.2.2.2.2.1).map (pV ad) := by rw [hdr]; rfl
            rw [e1, ← List.map_reverse, List.reverse_reverse, ← List.map_append, List.take_append_drop]
          have h8 : ((r.map (pV ad)).map fun v => v.category).sum ≤ 8 := by rw [px_sum_ok]; exact h8
          have hlo : 8 + ((xm y).2.2.1 + 11) + (xe_rm (d - 1) y).locals ≤ R.locals := by show 8 + ((xm y).2.2.1 + 11) + 64 * (d - 1) ≤ R.locals; omega
          unfold xe_cw at hcw
          dsimp only at hcw
          rw [if_pos (by rw [t1]; rfl)] at hcw
          have hlink := xt_mem (of_decide_eq_true hcw)
          have hrec := va_recv hK hP hcc hat
          rw [hcn] at hrec
          have cw := cwV (R := R) (s := s) (args := args) (own := (xm μ).1.cls) (C := (xm y).1.cls) (index := _) (y := (xm y).1) (bytes := (xm y).2.1) (maxL := (xm y).2.2.1) (ret := (xm y).2.2.2.1) (Ts := xe_T) (ws := xe_ws y) (ws' := xe_T) (rm := xe_rm (d - 1) y) (mc := (xm y).2.2.2.2.1.1) (ms := (xm y).2.2.2.2.1.2) (xm y).2.2.2.2.2.1 hts (xe_GT (fun w hw => by
            rcases List.mem_append.mp hw with hw | hw
            · simp only [List.mem_cons, List.not_mem_nil, or_false] at hw
              rcases hw with rfl | rfl | rfl | rfl
              · exact hlink
              · exact m3 (by omega)
              · exact m4 t2
              · exact m1
            · exact xe_ws_in hy w hw)) rfl rfl rfl ⟨rfl, m7, m8, m9⟩ ⟨hroom, hlo⟩
          exact px_back (va_runV (As := (st.take (xm y).2.2.2.2.2.1).reverse.map (pV ad)) (rest := r.map (pV ad)) ⟨hx, hb, hml, hown, hts⟩ hmet cw ⟨px_blind, hrec, fun U hU hW => ⟨rfl, (xe_pre (vc := []) hK hP hD hN hAO U hU hW).2, by rw [hU]; exact pT_moved hW hS hAn hT⟩⟩ rfl hn hls hst (lv_room h8) hdg ⟨hc1, hc2⟩) hS hD hA kk
        · cases hh
      · cases hh
    · cases hh
  · cases hh
end PCALL
/-- what is asked of the end -/
def px_RT (ly : List (Nat × Nat)) (p : Program) (l : Launch) (e : Env) (R : Room) (s : State) (m : MethodId) (args : Array Value) (below : List Frame) (meth : Method) (c : Code) (Q : State → Prop) (D : va_G) (E : Nat → ClassId) (A : Nat → Prop) (ad : Nat → Nat) (μ c0 s0 : Nat) (o : Option pv × pH) : Prop :=
  ∀ (pc : Nat) (q : xe_I) (st : List pv) (h : pH) (r : Option pv) (H : Heap) (locs : List Loc) (ls : Array Slot), xe_chk μ q pc = true → px_ret (xm μ).2.2.2.1 q.1 st = some r → (r, h) = o → va_P D xk_cl (pW ly E ad h) H → va_D A (pW ly E ad h) → va_S A s.heap H locs → W p l e R s m args below meth c H locs c0 s0 Q (F0 m pc ls (st.map (pV ad)))
def px_Gd (ly : List (Nat × Nat)) (l : Launch) (d : Nat) (sc : pS) (μ pc : Nat) (lv : List (Nat × pv)) (st : List pv) (h : pH) (o : Option pv × pH) : Prop :=
  ∀ (p : Program) (e : Env) (R : Room) (s : State) (m : MethodId) (args : Array Value) (below : List Frame) (meth : Method) (c : Code) (Q : State → Prop) (D : va_G) (E : Nat → ClassId) (A : Nat → Prop) (b c0 s0 : Nat) (ad : Nat → Nat),
    xe_X p R s m args meth c D E A b [] d μ → pSS sc ad s A → px_RT ly p l e R s m args below meth c Q D E A ad μ c0 s0 o → c0 ≤ R.cells ∧ s0 ≤ R.slots →
    ∀ (H : Heap) (locs : List Loc) (ls : Array Slot), va_P D xk_cl (pW ly E ad h) H → va_D A (pW ly E ad h) → va_S A s.heap H locs → lv_has ls (xm μ).2.2.1 (pL ad lv) →
    W p l e R s m args below meth c H locs c0 s0 Q (F0 m pc ls (st.map (pV ad)))
theorem px_ar_ok (ad : Nat → Nat) : ∀ (vs : List pv) (i : Nat), lv_args i (vs.map (pV ad)) = pL ad (px_ar i vs)
  | [], i => rfl
  | a :: l, i => by
    show (i, pV ad a) :: lv_args _ (l.map (pV ad)) = (i, pV ad a) :: pL ad (px_ar _ l)
    have e : (if (pV ad a).category = 2 then i + 2 else i + 1) = (if pc2 a then i + 2 else i + 1) := by
      rw [pV_cat]
      cases pc2 a <;> rfl
    rw [e, px_ar_ok ad l]
theorem px_sl_ok (ad : Nat → Nat) : ∀ vs : List pv, (lg_sl (vs.map (pV ad))).length = px_sum vs
  | [] => rfl
  | a :: l => by
    have ih := px_sl_ok ad l
    unfold lg_sl at ih ⊢
    rw [List.map_cons, List.flatMap_cons, List.length_append, ih, pV_cat]
    show _ = (if pc2 a then 2 else 1) + px_sum l
    cases pc2 a <;> rfl
set_option maxHeartbeats 8000000 in
theorem px_Met {ly : List (Nat × Nat)} {l : Launch} {d y : Nat} {vs : List pv} {h : pH} {o : Option pv × pH} (hy : y < 276) (hs : px_sum vs ≤ (xm y).2.2.1) (hG : px_Gd ly l d none y 0 (px_ar 0 vs) [] h o) : px_M ly l d y vs h o := by
  intro D E ad sz
  obtain ⟨m1, m2, m3, m4, m5, m6, m7, m8, m9, m10, m11⟩ := xm_ok hy
  refine Met.ofW (cc := (xm y).2.1) (maxL := (xm y).2.2.1) (ret := (xm y).2.2.2.1) m6 rfl ?_
  intro p e s m args below meth c s₁ B hml hv
  obtain ⟨rfl, ⟨hsz, hP, hK, hD0, hN, hAO⟩, hTx⟩ := hv
  have hx := B.exec
  have hb := B.bytes
  have hr := B.returns
  have hts := atoms_spec (ws := xe_ws y) B.pre
  have hown : s.vm.findClass (xm y).1.cls = some m.cls := findClass_of_methodNamed B.named
  have hlocks := B.notSynchronized
  have hnm : meth.name = (xm y).1.name := (name_of_methodNamed B.named B.method).1
  subst hsz
  have hD := hD0.self (sz := s.heap.size)
  have hl := lv_entry (vs.map (pV ad)) (n := (xm y).2.2.1) (by rw [px_sl_ok]; exact hs)
  rw [lg_entry_eq]
  generalize (lg_sl (vs.map (pV ad)) ++ List.replicate ((xm y).2.2.1 - (lg_sl (vs.map (pV ad))).length) Slot.unset).toArray = ls at hl ⊢
  rw [px_ar_ok ad vs 0] at hl
  have X : xe_X p (headSpec (xe_ws y) (xe_rm d y)).room s m (vs.map (pV ad)).toArray meth c D E (va_A (pW ly E ad h) s.heap.size) 0 [] d y :=
    ⟨⟨hx, hb, hml, hown, hr, fun _ => hnm, hlocks⟩, ⟨fun w hw => hts w (List.mem_cons_of_mem _ hw), hN, hAO, hK⟩, ⟨fun q h => Or.inr h, Nat.le_refl _, Nat.le_refl _, Nat.le_refl _, Nat.le_refl _⟩, Or.inl rfl⟩
  refine hG p e _ s m (vs.map (pV ad)).toArray below meth c _ D E (va_A (pW ly E ad h) s.heap.size) 0 0 0 ad X ⟨Or.inl rfl, hTx⟩ ?_ ⟨Nat.zero_le _, Nat.zero_le _⟩ s.heap [] ls hP hD va_S.rf hl
  intro pc q st h2 r H locs ls2 hk hret hO hP2 hD2 hS2
  subst hO
  obtain ⟨I, len, x, y2, z⟩ := q
  unfold xe_chk at hk
  dsimp only at hk hret
  rw [Bool.and_eq_true, Bool.and_eq_true] at hk
  obtain ⟨⟨hlen, hdg0⟩, hcw⟩ := hk
  have hdg := of_decide_eq_true hdg0
  clear hdg0
  refine W.widen (k := (xm y).2.2.2.2.1.1) (n := (xm y).2.2.2.2.1.2) (Nat.zero_le _) (Nat.zero_le _) ?_
  unfold px_ret at hret
  split at hret
  · next x0 =>
    have hlen : len = 1 := xe_l1 hlen rfl (by decide)
    subst hlen
    generalize hty : (xm y).2.2.2.1 = ty at hret hr
    split at hret
    · cases hret
      exact W.iret hx hb hr (fun t ht hW => ⟨⟨rfl, by rw [ht]; exact hP2, hD2⟩, hS2.F ht⟩) hS2.2.2 hdg hlocks
    · split at hret
      · next g =>
        cases hret
        refine W.zret hx hb hr ?_ (fun t ht hW => ⟨⟨rfl, by rw [ht]; exact hP2, hD2⟩, hS2.F ht⟩) hS2.2.2 hdg hlocks
        rcases g with rfl | rfl <;> decide +kernel
      · cases hret
    · cases hret
  · next x0 =>
    have hlen : len = 1 := xe_l1 hlen rfl (by decide)
    subst hlen
    split at hret
    · next t =>
      cases hret
      generalize hty : (xm y).2.2.2.1 = ty at t hr
      unfold xe_rl at t
      split at t
      · exact W.lret hx hb hr (fun t ht hW => ⟨⟨rfl, by rw [ht]; exact hP2, hD2⟩, hS2.F ht⟩) hS2.2.2 hdg hlocks
      · cases t
    · cases hret
  · next x0 =>
    have hlen : len = 1 := xe_l1 hlen rfl (by decide)
    subst hlen
    split at hret
    · next t =>
      cases hret
      have hv : pV ad (.inr (.inr x0)) = .null ∨ ∃ a, pV ad (.inr (.inr x0)) = .ref a := by
        cases x0 with
        | none => exact Or.inl rfl
        | some k => exact Or.inr ⟨_, rfl⟩
      generalize hty : (xm y).2.2.2.1 = ty at t hr
      unfold xe_rr at t
      split at t
      · exact W.aret hx hb hr (Or.inl ⟨_, rfl⟩) hv (fun t ht hW => ⟨⟨rfl, by rw [ht]; exact hP2, hD2⟩, hS2.F ht⟩) hS2.2.2 hdg hlocks
      · cases t
    · cases hret
  · have hlen : len = 1 := xe_l1 hlen rfl (by decide)
    subst hlen
    split at hret
    · next t =>
      cases hret
      have hn : (xm y).2.2.2.1 = none := by simpa using t
      rw [hn] at hr
      exact W.vret hx hb hr (fun t ht hW => ⟨⟨rfl, by rw [ht]; exact hP2, hD2⟩, hS2.F ht⟩) hS2.2.2 hdg hlocks
    · cases hret
  · cases hret
set_option maxHeartbeats 8000000 in
theorem px_step_ok {ly : List (Nat × Nat)} {l : Launch} {d μ pc : Nat} {sc : pS} {K : px_KT} {call : px_CT} {q : xe_I} {lv : List (Nat × pv)} {st : List pv} {h : pH} {o : Option pv × pH} (hk : xe_chk μ q pc = true)
    (hK : ∀ (pc2 : Nat) (lv2 : List (Nat × pv)) (st2 : List pv) (h2 : pH) (o2 : Option pv × pH), K pc2 lv2 st2 h2 = some o2 → px_Gd ly l d sc μ pc2 lv2 st2 h2 o2)
    (hC : ∀ (y : Nat) (vs : List pv) (h2 : pH) (o2 : Option pv × pH), call y vs h2 = some o2 → y < 276 → px_sum vs ≤ (xm y).2.2.1 → px_M ly l (d - 1) y vs h2 o2)
    (hh : px_step ly d sc μ K call q pc lv st h = some o) : px_Gd ly l d sc μ pc lv st h o := by
  intro p e R s m args below meth c Q D E A b c0 s0 ad X hsc hRT hoff H locs ls hP hD hS hl
  unfold px_step at hh
  generalize hkd : px_kd q.1 q.2.2.1 = kd at hh
  match kd, hh with
  | 0, hh =>
    have hh : px_h0 ly d sc μ K call q pc lv st h = some o := hh
    unfold px_h0 at hh
    split at hh
    · next st2 hst => exact px_push_ok X hsc hk hP hS hl hoff hst (hK _ _ _ _ _ hh p e R s m args below meth c Q D E A b c0 s0 ad X hsc hRT hoff H locs ls hP hD hS hl)
    · cases hh
  | 1, hh =>
    have hh : px_h1 ly d sc μ K call q pc lv st h = some o := hh
    unfold px_h1 at hh
    split at hh
    · next t ht => exact px_br_ok X hk ht (hK _ _ _ _ _ hh p e R s m args below meth c Q D E A b c0 s0 ad X hsc hRT hoff H locs ls hP hD hS hl)
    · cases hh
  | 2, hh =>
    have hh : px_h2 ly d sc μ K call q pc lv st h = some o := hh
    unfold px_h2 at hh
    split at hh
    · next w hw9 => exact px_sto_ok X hk hl hw9 (fun ls2 hl2 => hK _ _ _ _ _ hh p e R s m args below meth c Q D E A b c0 s0 ad X hsc hRT hoff H locs ls2 hP hD hS hl2)
    · cases hh
  | 3, hh =>
    have hh : px_h3 ly d sc μ K call q pc lv st h = some o := hh
    unfold px_h3 at hh
    split at hh
    · next ar har =>
      split at hh
      · next g =>
        obtain ⟨g1, g2, g3, g4⟩ := g
        split at hh
        · next o2 ho2 =>
          have hy : q.2.2.2.1 < 276 := by
            obtain ⟨I, len, x, y, z⟩ := q
            dsimp only at har ⊢
            unfold px_cal at har
            refine xm_lt ?_
            split at har
            · split at har
              · next t => omega
              · cases har
            · split at har
              · next t => omega
              · cases har
            · cases har
          have hc1 : (xm q.2.2.2.1).2.2.2.2.1.1 = 0 := by rw [g4]
          have hc2 : (xm q.2.2.2.1).2.2.2.2.1.2 = 0 := by rw [g4]
          refine px_cal_ok X hk hP hD hS hl.1 har g1 g2 hsc.2 (hC _ _ _ _ ho2 hy g3) (by omega) (by omega) (fun H1 locs1 a3 a4 a5 => ?_)
          have hfin := hK _ _ _ _ _ hh p e R s m args below meth c Q D E A b c0 s0 ad X hsc hRT hoff H1 locs1 ls a3 a4 a5 hl
          rw [hc1, hc2, Nat.add_zero, Nat.add_zero]
          have e1 : (o2.1.toList ++ ar.2).map (pV ad) = (o2.1.map (pV ad)).toList ++ ar.2.map (pV ad) := by
            rw [List.map_append]
            cases o2.1 <;> rfl
          rw [e1] at hfin
          exact hfin
        · cases hh
      · cases hh
    · cases hh
  | 4, hh =>
    have hh : px_h4 ly d sc μ K call q pc lv st h = some o := hh
    unfold px_h4 at hh
    split at hh
    · next w hw9 =>
      refine px_wr_ok X hk (fun h2 => ?_) hP hD hS hl.1 hw9 (fun H2 locs2 a2 a3 a4 => hK _ _ _ _ _ hh p e R s m args below meth c Q D E A b c0 s0 ad X hsc hRT hoff H2 locs2 ls a2 a3 a4 hl)
      rw [X.1.2.2.2.2.2.1 h2]
      exact ((xm_ok (xm_lt (by omega))).2.2.2.2.1 h2).1
    · cases hh
  | 5, hh =>
    have hh : px_h5 ly d sc μ K call q pc lv st h = some o := hh
    unfold px_h5 at hh
    split at hh
    · next r hr9 =>
      cases hh
      exact hRT pc q st h r H locs ls hk hr9 rfl hP hD hS
    · cases hh
  | 6, hh =>
    have hh : px_h5 ly d sc μ K call q pc lv st h = some o := hh
    unfold px_h5 at hh
    split at hh
    · next r hr9 =>
      cases hh
      exact hRT pc q st h r H locs ls hk hr9 rfl hP hD hS
    · cases hh
  | 7, hh =>
    have hh : px_h6 ly d sc μ K call q pc lv st h = some o := hh
    unfold px_h6 at hh
    split at hh
    · next st2 hst =>
      exact px_ixo_ok X hsc hk hkd hP hD hS hl.1 hoff hst (fun H1 locs1 a3 a4 a5 => hK _ _ _ _ _ hh p e R s m args below meth c Q D E A b c0 s0 ad X hsc hRT hoff H1 locs1 ls a3 a4 a5 hl)
    · cases hh
  | k + 8, hh =>
    have hh : px_h5 ly d sc μ K call q pc lv st h = some o := hh
    unfold px_h5 at hh
    split at hh
    · next r hr9 =>
      cases hh
      exact hRT pc q st h r H locs ls hk hr9 rfl hP hD hS
    · cases hh
theorem px_run_ok (ly : List (Nat × Nat)) (l : Launch) : ∀ (n : Nat) {d μ pc : Nat} {sc : pS} {lv : List (Nat × pv)} {st : List pv} {h : pH} {o : Option pv × pH}, px_run ly n d sc μ pc lv st h = some o → px_Gd ly l d sc μ pc lv st h o
  | 0, _, _, _, _, _, _, _, _, hh => by cases hh
  | n + 1, d, μ, pc, sc, lv, st, h, o, hh => by
    unfold px_run at hh
    split at hh
    · next q hq =>
      exact px_step_ok (xe_ck hq) (fun pc2 lv2 st2 h2 o2 hh2 => px_run_ok ly l n hh2) (fun y vs h2 o2 hh2 hy hs => px_Met hy hs (px_run_ok ly l n hh2)) hh
    · cases hh
/-- a method's contract out of a run of the plain machine -/
theorem px_met (ly : List (Nat × Nat)) (l : Launch) {n d y : Nat} {vs : List pv} {h : pH} {o : Option pv × pH} (hy : y < 276) (hs : px_sum vs ≤ (xm y).2.2.1) (hh : px_run ly n d none y 0 (px_ar 0 vs) [] h = some o) : px_M ly l d y vs h o := px_Met hy hs (px_run_ok ly l n hh)
end
section
/-! by hand: the greatest common divisor, and through (printed in part by wip/e2/thr.py) -/
theorem qg_0 : xe_look (xc 192) 0 = some (.lload_n 0, 1, 0, 0, 0) := by decide +kernel
theorem qg_1 : xe_look (xc 192) 1 = some (.lconst 0, 1, 0, 0, 0) := by decide +kernel
theorem qg_2 : xe_look (xc 192) 2 = some (.lcmp, 1, 0, 0, 0) := by decide +kernel
theorem qg_3 : xe_look (xc 192) 3 = some (.ifCond .ge 8, 3, 0, 0, 0) := by decide +kernel
theorem qg_6 : xe_look (xc 192) 6 = some (.lload_n 0, 1, 0, 0, 0) := by decide +kernel
theorem qg_7 : xe_look (xc 192) 7 = some (.lneg, 1, 0, 0, 0) := by decide +kernel
theorem qg_8 : xe_look (xc 192) 8 = some (.goto 4, 3, 0, 0, 0) := by decide +kernel
theorem qg_11 : xe_look (xc 192) 11 = some (.lload_n 0, 1, 0, 0, 0) := by decide +kernel
theorem qg_12 : xe_look (xc 192) 12 = some (.lstore 4, 2, 0, 0, 0) := by decide +kernel
theorem qg_14 : xe_look (xc 192) 14 = some (.lload_n 2, 1, 0, 0, 0) := by decide +kernel
theorem qg_15 : xe_look (xc 192) 15 = some (.lstore 6, 2, 0, 0, 0) := by decide +kernel
theorem qg_17 : xe_look (xc 192) 17 = some (.lload 6, 2, 0, 0, 0) := by decide +kernel
theorem qg_19 : xe_look (xc 192) 19 = some (.lconst 0, 1, 0, 0, 0) := by decide +kernel
theorem qg_20 : xe_look (xc 192) 20 = some (.lcmp, 1, 0, 0, 0) := by decide +kernel
theorem qg_21 : xe_look (xc 192) 21 = some (.ifCond .eq 21, 3, 0, 0, 0) := by decide +kernel
theorem qg_24 : xe_look (xc 192) 24 = some (.lload 4, 2, 0, 0, 0) := by decide +kernel
theorem qg_26 : xe_look (xc 192) 26 = some (.lload 6, 2, 0, 0, 0) := by decide +kernel
theorem qg_28 : xe_look (xc 192) 28 = some (.lrem, 1, 0, 0, 0) := by decide +kernel
theorem qg_29 : xe_look (xc 192) 29 = some (.lstore 8, 2, 0, 0, 0) := by decide +kernel
theorem qg_31 : xe_look (xc 192) 31 = some (.lload 6, 2, 0, 0, 0) := by decide +kernel
theorem qg_33 : xe_look (xc 192) 33 = some (.lstore 4, 2, 0, 0, 0) := by decide +kernel
theorem qg_35 : xe_look (xc 192) 35 = some (.lload 8, 2, 0, 0, 0) := by decide +kernel
theorem qg_37 : xe_look (xc 192) 37 = some (.lstore 6, 2, 0, 0, 0) := by decide +kernel
theorem qg_39 : xe_look (xc 192) 39 = some (.goto (-22), 3, 0, 0, 0) := by decide +kernel
theorem qg_42 : xe_look (xc 192) 42 = some (.lload 4, 2, 0, 0, 0) := by decide +kernel
theorem qg_44 : xe_look (xc 192) 44 = some (.lreturn, 1, 0, 0, 0) := by decide +kernel
theorem qt_0 : xe_look (xc 262) 0 = some (.lload_n 0, 1, 0, 0, 0) := by decide +kernel
theorem qt_1 : xe_look (xc 262) 1 = some (.lload_n 2, 1, 0, 0, 0) := by decide +kernel
theorem qt_2 : xe_look (xc 262) 2 = some (.invokestatic 430, 3, 0, 192, 1283) := by decide +kernel
theorem qt_5 : xe_look (xc 262) 5 = some (.lstore 5, 2, 0, 0, 0) := by decide +kernel
theorem qt_7 : xe_look (xc 262) 7 = some (.iload 4, 2, 0, 0, 0) := by decide +kernel
theorem qt_9 : xe_look (xc 262) 9 = some (.ifCond .ne 10, 3, 0, 0, 0) := by decide +kernel
theorem qt_12 : xe_look (xc 262) 12 = some (.lload_n 0, 1, 0, 0, 0) := by decide +kernel
theorem qt_13 : xe_look (xc 262) 13 = some (.lload 5, 2, 0, 0, 0) := by decide +kernel
theorem qt_15 : xe_look (xc 262) 15 = some (.ldiv, 1, 0, 0, 0) := by decide +kernel
theorem qt_16 : xe_look (xc 262) 16 = some (.goto 7, 3, 0, 0, 0) := by decide +kernel
theorem qt_19 : xe_look (xc 262) 19 = some (.lload_n 2, 1, 0, 0, 0) := by decide +kernel
theorem qt_20 : xe_look (xc 262) 20 = some (.lload 5, 2, 0, 0, 0) := by decide +kernel
theorem qt_22 : xe_look (xc 262) 22 = some (.ldiv, 1, 0, 0, 0) := by decide +kernel
theorem qt_23 : xe_look (xc 262) 23 = some (.lreturn, 1, 0, 0, 0) := by decide +kernel
theorem pb_goto {pc : Nat} {o : Int} {st : List pv} (h0 : 0 ≤ (pc : Int) + o) : px_bf (.goto o) pc st = some (px_tg pc o, st) := if_pos h0
theorem pb_eq_t {pc : Nat} {o : Int} {x : Int32} {r : List pv} (h0 : 0 ≤ (pc : Int) + o) (h : x = 0) : px_bf (.ifCond .eq o) pc (.inl x :: r) = some (px_tg pc o, r) := by
  show (if 0 ≤ (pc : Int) + o then (if x = 0 then some (px_tg pc o, r) else some (pc + 3, r)) else none) = _
  rw [if_pos h0, if_pos h]
theorem pb_eq_f {pc : Nat} {o : Int} {x : Int32} {r : List pv} (h0 : 0 ≤ (pc : Int) + o) (h : ¬ (x = 0)) : px_bf (.ifCond .eq o) pc (.inl x :: r) = some (pc + 3, r) := by
  show (if 0 ≤ (pc : Int) + o then (if x = 0 then some (px_tg pc o, r) else some (pc + 3, r)) else none) = _
  rw [if_pos h0, if_neg h]
theorem pb_ne_f {pc : Nat} {o : Int} {x : Int32} {r : List pv} (h0 : 0 ≤ (pc : Int) + o) (h : x = 0) : px_bf (.ifCond .ne o) pc (.inl x :: r) = some (pc + 3, r) := by
  show (if 0 ≤ (pc : Int) + o then (if x = 0 then some (pc + 3, r) else some (px_tg pc o, r)) else none) = _
  rw [if_pos h0, if_pos h]
theorem pb_ne_t {pc : Nat} {o : Int} {x : Int32} {r : List pv} (h0 : 0 ≤ (pc : Int) + o) (h : ¬ (x = 0)) : px_bf (.ifCond .ne o) pc (.inl x :: r) = some (px_tg pc o, r) := by
  show (if 0 ≤ (pc : Int) + o then (if x = 0 then some (pc + 3, r) else some (px_tg pc o, r)) else none) = _
  rw [if_pos h0, if_neg h]
theorem pb_lt_t {pc : Nat} {o : Int} {x : Int32} {r : List pv} (h0 : 0 ≤ (pc : Int) + o) (h : x < 0) : px_bf (.ifCond .lt o) pc (.inl x :: r) = some (px_tg pc o, r) := by
  show (if 0 ≤ (pc : Int) + o then (if x < 0 then some (px_tg pc o, r) else some (pc + 3, r)) else none) = _
  rw [if_pos h0, if_pos h]
theorem pb_lt_f {pc : Nat} {o : Int} {x : Int32} {r : List pv} (h0 : 0 ≤ (pc : Int) + o) (h : ¬ (x < 0)) : px_bf (.ifCond .lt o) pc (.inl x :: r) = some (pc + 3, r) := by
  show (if 0 ≤ (pc : Int) + o then (if x < 0 then some (px_tg pc o, r) else some (pc + 3, r)) else none) = _
  rw [if_pos h0, if_neg h]
theorem pb_ge_f {pc : Nat} {o : Int} {x : Int32} {r : List pv} (h0 : 0 ≤ (pc : Int) + o) (h : x < 0) : px_bf (.ifCond .ge o) pc (.inl x :: r) = some (pc + 3, r) := by
  show (if 0 ≤ (pc : Int) + o then (if x < 0 then some (pc + 3, r) else some (px_tg pc o, r)) else none) = _
  rw [if_pos h0, if_pos h]
theorem pb_ge_t {pc : Nat} {o : Int} {x : Int32} {r : List pv} (h0 : 0 ≤ (pc : Int) + o) (h : ¬ (x < 0)) : px_bf (.ifCond .ge o) pc (.inl x :: r) = some (px_tg pc o, r) := by
  show (if 0 ≤ (pc : Int) + o then (if x < 0 then some (pc + 3, r) else some (px_tg pc o, r)) else none) = _
  rw [if_pos h0, if_neg h]
theorem pb_gt_t {pc : Nat} {o : Int} {x : Int32} {r : List pv} (h0 : 0 ≤ (pc : Int) + o) (h : 0 < x) : px_bf (.ifCond .gt o) pc (.inl x :: r) = some (px_tg pc o, r) := by
  show (if 0 ≤ (pc : Int) + o then (if 0 < x then some (px_tg pc o, r) else some (pc + 3, r)) else none) = _
  rw [if_pos h0, if_pos h]
theorem pb_gt_f {pc : Nat} {o : Int} {x : Int32} {r : List pv} (h0 : 0 ≤ (pc : Int) + o) (h : ¬ (0 < x)) : px_bf (.ifCond .gt o) pc (.inl x :: r) = some (pc + 3, r) := by
  show (if 0 ≤ (pc : Int) + o then (if 0 < x then some (px_tg pc o, r) else some (pc + 3, r)) else none) = _
  rw [if_pos h0, if_neg h]
theorem pb_le_f {pc : Nat} {o : Int} {x : Int32} {r : List pv} (h0 : 0 ≤ (pc : Int) + o) (h : 0 < x) : px_bf (.ifCond .le o) pc (.inl x :: r) = some (pc + 3, r) := by
  show (if 0 ≤ (pc : Int) + o then (if 0 < x then some (pc + 3, r) else some (px_tg pc o, r)) else none) = _
  rw [if_pos h0, if_pos h]
theorem pb_le_t {pc : Nat} {o : Int} {x : Int32} {r : List pv} (h0 : 0 ≤ (pc : Int) + o) (h : ¬ (0 < x)) : px_bf (.ifCond .le o) pc (.inl x :: r) = some (px_tg pc o, r) := by
  show (if 0 ≤ (pc : Int) + o then (if 0 < x then some (pc + 3, r) else some (px_tg pc o, r)) else none) = _
  rw [if_pos h0, if_neg h]
theorem pc_eq_t {pc : Nat} {o : Int} {x y : Int32} {r : List pv} (h0 : 0 ≤ (pc : Int) + o) (h : x = y) : px_bf (.if_icmp .eq o) pc (.inl y :: .inl x :: r) = some (px_tg pc o, r) := by
  show (if 0 ≤ (pc : Int) + o then (if x = y then some (px_tg pc o, r) else some (pc + 3, r)) else none) = _
  rw [if_pos h0, if_pos h]
theorem pc_eq_f {pc : Nat} {o : Int} {x y : Int32} {r : List pv} (h0 : 0 ≤ (pc : Int) + o) (h : ¬ (x = y)) : px_bf (.if_icmp .eq o) pc (.inl y :: .inl x :: r) = some (pc + 3, r) := by
  show (if 0 ≤ (pc : Int) + o then (if x = y then some (px_tg pc o, r) else some (pc + 3, r)) else none) = _
  rw [if_pos h0, if_neg h]
theorem pc_ne_f {pc : Nat} {o : Int} {x y : Int32} {r : List pv} (h0 : 0 ≤ (pc : Int) + o) (h : x = y) : px_bf (.if_icmp .ne o) pc (.inl y :: .inl x :: r) = some (pc + 3, r) := by
  show (if 0 ≤ (pc : Int) + o then (if x = y then some (pc + 3, r) else some (px_tg pc o, r)) else none) = _
  rw [if_pos h0, if_pos h]
theorem pc_ne_t {pc : Nat} {o : Int} {x y : Int32} {r : List pv} (h0 : 0 ≤ (pc : Int) + o) (h : ¬ (x = y)) : px_bf (.if_icmp .ne o) pc (.inl y :: .inl x :: r) = some (px_tg pc o, r) := by
  show (if 0 ≤ (pc : Int) + o then (if x = y then some (pc + 3, r) else some (px_tg pc o, r)) else none) = _
  rw [if_pos h0, if_neg h]
theorem pc_lt_t {pc : Nat} {o : Int} {x y : Int32} {r : List pv} (h0 : 0 ≤ (pc : Int) + o) (h : x < y) : px_bf (.if_icmp .lt o) pc (.inl y :: .inl x :: r) = some (px_tg pc o, r) := by
  show (if 0 ≤ (pc : Int) + o then (if x < y then some (px_tg pc o, r) else some (pc + 3, r)) else none) = _
  rw [if_pos h0, if_pos h]
theorem pc_lt_f {pc : Nat} {o : Int} {x y : Int32} {r : List pv} (h0 : 0 ≤ (pc : Int) + o) (h : ¬ (x < y)) : px_bf (.if_icmp .lt o) pc (.inl y :: .inl x :: r) = some (pc + 3, r) := by
  show (if 0 ≤ (pc : Int) + o then (if x < y then some (px_tg pc o, r) else some (pc + 3, r)) else none) = _
  rw [if_pos h0, if_neg h]
theorem pc_ge_f {pc : Nat} {o : Int} {x y : Int32} {r : List pv} (h0 : 0 ≤ (pc : Int) + o) (h : x < y) : px_bf (.if_icmp .ge o) pc (.inl y :: .inl x :: r) = some (pc + 3, r) := by
  show (if 0 ≤ (pc : Int) + o then (if x < y then some (pc + 3, r) else some (px_tg pc o, r)) else none) = _
  rw [if_pos h0, if_pos h]
theorem pc_ge_t {pc : Nat} {o : Int} {x y : Int32} {r : List pv} (h0 : 0 ≤ (pc : Int) + o) (h : ¬ (x < y)) : px_bf (.if_icmp .ge o) pc (.inl y :: .inl x :: r) = some (px_tg pc o, r) := by
  show (if 0 ≤ (pc : Int) + o then (if x < y then some (pc + 3, r) else some (px_tg pc o, r)) else none) = _
  rw [if_pos h0, if_neg h]
theorem pc_gt_t {pc : Nat} {o : Int} {x y : Int32} {r : List pv} (h0 : 0 ≤ (pc : Int) + o) (h : y < x) : px_bf (.if_icmp .gt o) pc (.inl y :: .inl x :: r) = some (px_tg pc o, r) := by
  show (if 0 ≤ (pc : Int) + o then (if y < x then some (px_tg pc o, r) else some (pc + 3, r)) else none) = _
  rw [if_pos h0, if_pos h]
theorem pc_gt_f {pc : Nat} {o : Int} {x y : Int32} {r : List pv} (h0 : 0 ≤ (pc : Int) + o) (h : ¬ (y < x)) : px_bf (.if_icmp .gt o) pc (.inl y :: .inl x :: r) = some (pc + 3, r) := by
  show (if 0 ≤ (pc : Int) + o then (if y < x then some (px_tg pc o, r) else some (pc + 3, r)) else none) = _
  rw [if_pos h0, if_neg h]
theorem pc_le_f {pc : Nat} {o : Int} {x y : Int32} {r : List pv} (h0 : 0 ≤ (pc : Int) + o) (h : y < x) : px_bf (.if_icmp .le o) pc (.inl y :: .inl x :: r) = some (pc + 3, r) := by
  show (if 0 ≤ (pc : Int) + o then (if y < x then some (pc + 3, r) else some (px_tg pc o, r)) else none) = _
  rw [if_pos h0, if_pos h]
theorem pc_le_t {pc : Nat} {o : Int} {x y : Int32} {r : List pv} (h0 : 0 ≤ (pc : Int) + o) (h : ¬ (y < x)) : px_bf (.if_icmp .le o) pc (.inl y :: .inl x :: r) = some (px_tg pc o, r) := by
  show (if 0 ≤ (pc : Int) + o then (if y < x then some (pc + 3, r) else some (px_tg pc o, r)) else none) = _
  rw [if_pos h0, if_neg h]
abbrev pvL (x : Int64) : pv := .inr (.inl x)
theorem gcd_r {x y : Int64} (hy : y ≠ 0) : (x - x / y * y).toInt.natAbs < y.toInt.natAbs ∧ (0 ≤ x.toInt → 0 ≤ y.toInt → 0 ≤ (x - x / y * y).toInt) := by
  have hy0 : y.toInt ≠ 0 := fun z => hy (Int64.toInt_inj.mp (by rw [z]; rfl))
  rw [Jvm.Kit.i64_rem]
  refine ⟨?_, fun h _ => Int.tmod_nonneg _ h⟩
  have h1 := Int.tmod_lt_of_pos x.toInt (b := y.toInt.natAbs) (by omega)
  have h2 : x.toInt.tmod y.toInt = x.toInt.tmod (y.toInt.natAbs : Int) := by
    rcases Int.natAbs_eq y.toInt with e | e
    · rw [← e]
    · conv => lhs; rw [e, Int.tmod_neg]
  have h3 := Int.tmod_lt_of_pos (-x.toInt) (b := y.toInt.natAbs) (by omega)
  rw [Int.neg_tmod] at h3
  rw [h2]
  omega
def g_P (h : pH) (x y : Int64) (o : Option pv × pH) : Prop := o.2 = h ∧ ∃ z : Int64, o.1 = some (pvL z) ∧ z ≠ 0 ∧ (0 ≤ x.toInt → 0 ≤ y.toInt → 0 < z.toInt ∧ (y ≠ 0 → z.toInt ≤ y.toInt) ∧ (y = 0 → z = x))
set_option maxHeartbeats 2000000 in
theorem gcd_end {d : Nat} {h : pH} {x y : Int64} {T : List (Nat × pv)} (hy : y = 0) (hx : x ≠ 0) : t_X d 192 17 ((6, pvL y) :: (4, pvL x) :: T) [] h (g_P h x y) := by
  refine t_0 qg_17 rfl rfl ?_
  refine t_0 qg_19 rfl rfl ?_
  refine t_0 qg_20 rfl rfl ?_
  refine t_1 qg_21 rfl (pb_eq_t (pc := 21) (by decide) ((lg_cmp_eq y 0).mpr hy)) ?_
  refine t_0 qg_42 rfl rfl ?_
  refine t_5 qg_44 rfl rfl ?_
  refine ⟨rfl, x, rfl, hx, fun a b => ⟨?_, fun z => absurd hy z, fun _ => rfl⟩⟩
  have : x.toInt ≠ 0 := fun z => hx (Int64.toInt_inj.mp (by rw [z]; rfl))
  omega
set_option maxHeartbeats 2000000 in
theorem gcd_loop {d : Nat} {h : pH} {a b : Int64} : ∀ (m : Nat) (x y r : Int64), y.toInt.natAbs ≤ m → (x ≠ 0 ∨ y ≠ 0) → t_X d 192 17 [(6, pvL y), (4, pvL x), (8, pvL r), (0, pvL a), (2, pvL b)] [] h (g_P h x y) := by
  intro m
  induction m with
  | zero =>
    intro x y r hm hne
    have hy : y = 0 := Int64.toInt_inj.mp (by rw [show y.toInt = 0 by omega]; rfl)
    exact gcd_end hy (hne.resolve_right (fun z => z hy))
  | succ m ih =>
    intro x y r hm hne
    by_cases hy : y = 0
    · exact gcd_end hy (hne.resolve_right (fun z => z hy))
    · have hr := gcd_r (x := x) hy
      refine t_0 qg_17 rfl rfl ?_
      refine t_0 qg_19 rfl rfl ?_
      refine t_0 qg_20 rfl rfl ?_
      refine t_1 qg_21 rfl (pb_eq_f (pc := 21) (by decide) (fun z => hy ((lg_cmp_eq y 0).mp z))) ?_
      refine t_0 qg_24 rfl rfl ?_
      refine t_0 qg_26 rfl rfl ?_
      refine t_0 qg_28 rfl (if_neg hy) ?_
      refine t_2 qg_29 rfl rfl ?_
      refine t_0 qg_31 rfl rfl ?_
      refine t_2 qg_33 rfl rfl ?_
      refine t_0 qg_35 rfl rfl ?_
      refine t_2 qg_37 rfl rfl ?_
      refine t_1 qg_39 rfl (pb_goto (pc := 39) (by decide)) ?_
      obtain ⟨n, o, g1, g2, z, g3, g4, g5⟩ := ih y (x - x / y * y) (x - x / y * y) (by omega) (Or.inl hy)
      refine ⟨n, o, g1, g2, z, g3, g4, fun h1 h2 => ?_⟩
      have g6 := g5 h2 (hr.2 h1 h2)
      have hy0 : y.toInt ≠ 0 := fun z => hy (Int64.toInt_inj.mp (by rw [z]; rfl))
      refine ⟨g6.1, fun _ => ?_, fun z => absurd z hy⟩
      by_cases e : x - x / y * y = 0
      · rw [g6.2.2 e]
        exact Int.le_refl _
      · have := g6.2.1 e
        omega
set_option maxHeartbeats 2000000 in
/-- gcd, called with a second number that is not 0 -/
theorem gcd_run {d : Nat} {h : pH} {a b : Int64} (hb : b ≠ 0) : t_X d 192 0 (px_ar 0 [pvL a, pvL b]) [] h (fun o => o.2 = h ∧ ∃ z : Int64, o.1 = some (pvL z) ∧ z ≠ 0 ∧ (0 ≤ a.toInt → 0 ≤ b.toInt → 0 < z.toInt ∧ z.toInt ≤ b.toInt)) := by
  have key : ∀ x : Int64, (0 ≤ a.toInt → x = a) → t_X d 192 17 [(6, pvL b), (4, pvL x), (0, pvL a), (2, pvL b)] [] h (fun o => o.2 = h ∧ ∃ z : Int64, o.1 = some (pvL z) ∧ z ≠ 0 ∧ (0 ≤ a.toInt → 0 ≤ b.toInt → 0 < z.toInt ∧ z.toInt ≤ b.toInt)) := by
    intro x hx
    have hr := gcd_r (x := x) hb
    refine t_0 qg_17 rfl rfl ?_
    refine t_0 qg_19 rfl rfl ?_
    refine t_0 qg_20 rfl rfl ?_
    refine t_1 qg_21 rfl (pb_eq_f (pc := 21) (by decide) (fun z => hb ((lg_cmp_eq b 0).mp z))) ?_
    refine t_0 qg_24 rfl rfl ?_
    refine t_0 qg_26 rfl rfl ?_
    refine t_0 qg_28 rfl (if_neg hb) ?_
    refine t_2 qg_29 rfl rfl ?_
    refine t_0 qg_31 rfl rfl ?_
    refine t_2 qg_33 rfl rfl ?_
    refine t_0 qg_35 rfl rfl ?_
    refine t_2 qg_37 rfl rfl ?_
    refine t_1 qg_39 rfl (pb_goto (pc := 39) (by decide)) ?_
    obtain ⟨n, o, g1, g2, z, g3, g4, g5⟩ := gcd_loop (d := d) (h := h) (a := a) (b := b) _ b (x - x / b * b) (x - x / b * b) (Nat.le_refl _) (Or.inl hb)
    refine ⟨n, o, g1, g2, z, g3, g4, fun h1 h2 => ?_⟩
    have e := hx h1
    subst e
    have g6 := g5 h2 (hr.2 h1 h2)
    refine ⟨g6.1, ?_⟩
    by_cases e : x - x / b * b = 0
    · rw [g6.2.2 e]
      exact Int.le_refl _
    · have := g6.2.1 e
      omega
  show t_X d 192 0 [(0, pvL a), (2, pvL b)] [] h _
  by_cases ha : 0 ≤ lg_cmp a 0
  · have ha1 : ¬ (lg_cmp a 0 < 0) := fun z => by
      have z := Int32.lt_iff_toInt_lt.mp z
      have ha := Int32.le_iff_toInt_le.mp ha
      omega
    refine t_0 qg_0 rfl rfl ?_
    refine t_0 qg_1 rfl rfl ?_
    refine t_0 qg_2 rfl rfl ?_
    refine t_1 qg_3 rfl (pb_ge_t (pc := 3) (by decide) ha1) ?_
    refine t_0 qg_11 rfl rfl ?_
    refine t_2 qg_12 rfl rfl ?_
    refine t_0 qg_14 rfl rfl ?_
    refine t_2 qg_15 rfl rfl ?_
    exact key a (fun _ => rfl)
  · have ha1 : lg_cmp a 0 < 0 := Int32.lt_iff_toInt_lt.mpr (by
      have ha : ¬ (0 : Int32).toInt ≤ (lg_cmp a 0).toInt := fun z => ha (Int32.le_iff_toInt_le.mpr z)
      omega)
    refine t_0 qg_0 rfl rfl ?_
    refine t_0 qg_1 rfl rfl ?_
    refine t_0 qg_2 rfl rfl ?_
    refine t_1 qg_3 rfl (pb_ge_f (pc := 3) (by decide) ha1) ?_
    refine t_0 qg_6 rfl rfl ?_
    refine t_0 qg_7 rfl rfl ?_
    refine t_1 qg_8 rfl (pb_goto (pc := 8) (by decide)) ?_
    refine t_2 qg_12 rfl rfl ?_
    refine t_0 qg_14 rfl rfl ?_
    refine t_2 qg_15 rfl rfl ?_
    refine key (-a) (fun h1 => absurd ?_ ha)
    rw [lg_cmp_ge]
    exact Int64.le_iff_toInt_le.mpr h1
end
section
theorem pcal_s {ly : List (Nat × Nat)} {i x y : Nat} {st : List pv} (h : (x = 0 ∨ x = 1) ∧ (xm y).2.2.2.2.2.2.2 = 0 ∧ (xm y).2.2.2.2.2.1 ≤ st.length) : px_cal ly (.invokestatic i) x y st = some ((st.take (xm y).2.2.2.2.2.1).reverse, st.drop (xm y).2.2.2.2.2.1) := if_pos h
theorem m_L_cons {lv : List (Nat × pv)} {s : eSL} {ss : List eSL} {xs : List Int} (h : m_L lv (s :: ss) xs) : ∃ x ys, xs = x :: ys ∧ (∃ v, px_lg lv s.1 = some v ∧ m_V v s.2.1 s.2.2 x) ∧ m_L lv ss ys := by
  cases xs with
  | nil => exact h.elim
  | cons x ys => exact ⟨x, ys, rfl, h.1, h.2⟩
theorem m_L_nil {lv : List (Nat × pv)} {xs : List Int} (h : m_L lv [] xs) : xs = [] := by
  cases xs with
  | nil => rfl
  | cons x ys => exact h.elim
theorem m_F_nil {h0 : pH} {xs : List Int} (h : m_F h0 [] xs) : xs = [] := by
  cases xs with
  | nil => rfl
  | cons x ys => exact h.elim
theorem ct_1 {v : pv} (h : ct v = 1) : ∃ x, v = pvL x := by
  rcases v with x | x | x
  · cases h
  · exact ⟨x, rfl⟩
  · cases h
theorem ct_0 {v : pv} (h : ct v = 0) : ∃ x, v = .inl x := by
  rcases v with x | x | x
  · exact ⟨x, rfl⟩
  · cases h
  · cases h
theorem th_0 {i : Nat} {vs : List pv} {v : pv} (h : px_lg (px_ar i vs) i = some v) : ∃ r, vs = v :: r := by
  cases vs with
  | nil => cases h
  | cons w r =>
    have h : (if (i == i) then some w else px_lg (px_ar (if pc2 w then i + 2 else i + 1) r) i) = some v := h
    rw [if_pos (beq_self_eq_true i)] at h
    cases h
    exact ⟨r, rfl⟩
theorem th_vs {vs : List pv} {v0 v1 v2 : pv} (h0 : px_lg (px_ar 0 vs) 0 = some v0) (c0 : ct v0 = 1) (h1 : px_lg (px_ar 0 vs) 2 = some v1) (c1 : ct v1 = 1) (h2 : px_lg (px_ar 0 vs) 4 = some v2) (c2 : ct v2 = 0) : ∃ (a b : Int64) (i : Int32) (r : List pv), v0 = pvL a ∧ v1 = pvL b ∧ v2 = .inl i ∧ px_ar 0 vs = (0, pvL a) :: (2, pvL b) :: (4, .inl i) :: px_ar 5 r := by
  obtain ⟨r, rfl⟩ := th_0 h0
  obtain ⟨a, rfl⟩ := ct_1 c0
  have h1 : px_lg (px_ar 2 r) 2 = some v1 := h1
  have h2 : px_lg (px_ar 2 r) 4 = some v2 := h2
  obtain ⟨r, rfl⟩ := th_0 h1
  obtain ⟨b, rfl⟩ := ct_1 c1
  have h2 : px_lg (px_ar 4 r) 4 = some v2 := h2
  obtain ⟨r, rfl⟩ := th_0 h2
  obtain ⟨i, rfl⟩ := ct_0 c2
  exact ⟨a, b, i, r, rfl, rfl, rfl, rfl⟩
set_option maxHeartbeats 2000000 in
theorem th_run {d : Nat} {h : pH} {a b : Int64} {i : Int32} {T : List (Nat × pv)} {P : Option pv × pH → Prop} (hd : 1 ≤ d) (hb : b ≠ 0) (hP : ∀ z : Int64, z ≠ 0 → (0 ≤ a.toInt → 0 ≤ b.toInt → 0 < z.toInt ∧ z.toInt ≤ b.toInt) → P (some (pvL (if i = 0 then a / z else b / z)), h)) : t_X d 262 0 ((0, pvL a) :: (2, pvL b) :: (4, .inl i) :: T) [] h P := by
  refine t_0 qt_0 rfl rfl ?_
  refine t_0 qt_1 rfl rfl ?_
  refine t_3 qt_2 rfl (ar := ([pvL a, pvL b], [])) (pcal_s ⟨Or.inl rfl, rfl, Nat.le_of_ble_eq_true rfl⟩) ⟨hd, Nat.le_of_ble_eq_true rfl, Nat.le_of_ble_eq_true rfl, rfl⟩ ?_
  obtain ⟨n, ⟨o1, o2⟩, g1, g2, z, g3, g4, g5⟩ := gcd_run (d := d - 1) (h := h) (a := a) hb
  refine ⟨n, (o1, o2), g1, ?_⟩
  dsimp only at g2 g3
  subst g2 g3
  have hQ := hP z g4 g5
  show t_X d 262 5 ((0, pvL a) :: (2, pvL b) :: (4, .inl i) :: T) [pvL z] o2 P
  by_cases hi : i = 0
  · rw [if_pos hi] at hQ
    refine t_2 qt_5 rfl rfl ?_
    refine t_0 qt_7 rfl rfl ?_
    refine t_1 qt_9 rfl (pb_ne_f (pc := 9) (by decide) hi) ?_
    refine t_0 qt_12 rfl rfl ?_
    refine t_0 qt_13 rfl rfl ?_
    refine t_0 qt_15 rfl (if_neg g4) ?_
    refine t_1 qt_16 rfl (pb_goto (pc := 16) (by decide)) ?_
    refine t_5 qt_23 rfl rfl ?_
    exact hQ
  · rw [if_neg hi] at hQ
    refine t_2 qt_5 rfl rfl ?_
    refine t_0 qt_7 rfl rfl ?_
    refine t_1 qt_9 rfl (pb_ne_t (pc := 9) (by decide) hi) ?_
    refine t_0 qt_19 rfl rfl ?_
    refine t_0 qt_20 rfl rfl ?_
    refine t_0 qt_22 rfl (if_neg g4) ?_
    refine t_5 qt_23 rfl rfl ?_
    exact hQ
theorem div_le {a z : Int64} (ha : 0 ≤ a.toInt) (hz : 0 < z.toInt) : 0 ≤ (a / z).toInt ∧ (a / z).toInt ≤ a.toInt := by
  rw [Jvm.Kit.i64_div (fun q => by omega), Int.tdiv_eq_ediv_of_nonneg ha]
  exact ⟨Int.ediv_nonneg ha (by omega), Int.ediv_le_self _ ha⟩
theorem div_ge1 {b z : Int64} (hz : 0 < z.toInt) (hb : z.toInt ≤ b.toInt) : 1 ≤ (b / z).toInt := by
  rw [Jvm.Kit.i64_div (fun q => by omega), Int.tdiv_eq_ediv_of_nonneg (by omega)]
  exact (Int.le_ediv_iff_mul_le hz).mpr (by omega)
theorem i64_ne0 {b : Int64} (h : 1 ≤ b.toInt) : b ≠ 0 := fun z => by
  rw [z] at h
  exact absurd h (by decide)
theorem ev_2 {d x0 x1 x2 x : Int} : ev_t (d :: ([x0, x1, x2] ++ []) ++ [x]) (0, [(4, 1), (1, (-1))]) (x - x0) := ⟨1 * x + (-1 * x0 + 0), rfl, by omega⟩
theorem ev_3 {d x0 x1 x2 x : Int} : ev_t (d :: ([x0, x1, x2] ++ []) ++ [x]) (0, [(4, 1), (2, (-1))]) (x - x1) := ⟨1 * x + (-1 * x1 + 0), rfl, by omega⟩
/-- what the contracts of through ask, taken apart -/
theorem th_pre {d : Nat} {vs : List pv} {h : pH} {xs ys : List Int} {e0 e1 e2 : eE} (hM : m_M (4, [(0, 1, e0), (2, 1, e1), (4, 0, e2)], [], []) d (px_ar 0 vs) h xs ys) : ∃ (a b : Int64) (i : Int32) (r : List pv), px_ar 0 vs = (0, pvL a) :: (2, pvL b) :: (4, .inl i) :: px_ar 5 r ∧ 4 ≤ d ∧ xs = [a.toInt, b.toInt, i.toInt] ∧ ys = [] ∧ ok_v a.toInt e0 ∧ ok_v b.toInt e1 ∧ ok_v i.toInt e2 := by
  obtain ⟨hd4, hL, hF, -⟩ := hM
  have e9 := m_F_nil hF
  subst e9
  obtain ⟨x0, ys0, rfl, ⟨v0, a1, a2, a3, a4⟩, hL⟩ := m_L_cons hL
  obtain ⟨x1, ys1, rfl, ⟨v1, b1, b2, b3, b4⟩, hL⟩ := m_L_cons hL
  obtain ⟨x2, ys2, rfl, ⟨v2, c1, c2, c3, c4⟩, hL⟩ := m_L_cons hL
  have e9 := m_L_nil hL
  subst e9
  obtain ⟨a, b, i, r, rfl, rfl, rfl, e⟩ := th_vs a1 a2 b1 b2 c1 c2
  subst a3 b3 c3
  exact ⟨a, b, i, r, e, hd4, rfl, rfl, a4, b4, c4⟩
theorem h_182 {X : pH → Prop} (d : Nat) : k_S eG X kk_182 d := by
  intro vs h xs ys m hG hX hM _ _ _
  obtain ⟨a, b, i, r, e, hd, rfl, rfl, ha, hb, hi⟩ := th_pre hM
  have ei : i = 0 := Int32.toInt_inj.mp (by
    have h1 : 0 ≤ i.toInt := hi.1
    have h2 : i.toInt ≤ 0 := hi.2.1
    show i.toInt = 0
    omega)
  obtain ⟨n, o, g1, g2⟩ := th_run (P := fun o => o.2 = h ∧ ∃ z : Int64, o.1 = some (pvL z) ∧ 0 ≤ z.toInt ∧ z.toInt ≤ a.toInt) (d := d) (h := h) (a := a) (b := b) (i := i) (T := px_ar 5 r) (by omega) (i64_ne0 hb.1) (fun z hz h2 => by
    have h3 := h2 ha.1 (by have := hb.1; dsimp only at this; omega)
    refine ⟨rfl, a / z, by rw [if_pos ei], ?_⟩
    exact div_le ha.1 h3.1)
  rw [← e] at g1
  obtain ⟨g3, z, g4, g5, g6⟩ := g2
  refine ⟨n, o, g1, by rw [g3]; exact hG, by rw [g3]; exact hX, by rw [g3]; exact f_M_rf _ _, _, List.mem_cons_self .., [z.toInt], ⟨pvL z, z.toInt, [], g4, ⟨rfl, rfl, g5, ?_, Or.inl rfl⟩, rfl, trivial⟩, fun c hc => ?_⟩
  · have := ha.2.1
    exact Int.le_trans g6 this
  · have hc := List.mem_singleton.mp hc
    subst hc
    exact ⟨_, ev_2, by omega⟩
theorem h_183 {X : pH → Prop} (d : Nat) : k_S eG X kk_183 d := by
  intro vs h xs ys m hG hX hM _ _ _
  obtain ⟨a, b, i, r, e, hd, rfl, rfl, ha, hb, hi⟩ := th_pre hM
  have ei : i ≠ 0 := fun z => by
    have h1 := hi.1
    rw [z] at h1
    exact absurd h1 (by decide)
  obtain ⟨n, o, g1, g2⟩ := th_run (P := fun o => o.2 = h ∧ ∃ z : Int64, o.1 = some (pvL z) ∧ 1 ≤ z.toInt ∧ z.toInt ≤ b.toInt) (d := d) (h := h) (a := a) (b := b) (i := i) (T := px_ar 5 r) (by omega) (i64_ne0 hb.1) (fun z hz h2 => by
    have hb1 : 0 ≤ b.toInt := by have := hb.1; dsimp only at this; omega
    have h3 := h2 ha.1 hb1
    refine ⟨rfl, b / z, by rw [if_neg ei], ?_⟩
    exact ⟨div_ge1 h3.1 h3.2, (div_le hb1 h3.1).2⟩)
  rw [← e] at g1
  obtain ⟨g3, z, g4, g5, g6⟩ := g2
  refine ⟨n, o, g1, by rw [g3]; exact hG, by rw [g3]; exact hX, by rw [g3]; exact f_M_rf _ _, _, List.mem_cons_self .., [z.toInt], ⟨pvL z, z.toInt, [], g4, ⟨rfl, rfl, g5, ?_, Or.inl rfl⟩, rfl, trivial⟩, fun c hc => ?_⟩
  · have := hb.2.1
    exact Int.le_trans g6 this
  · have hc := List.mem_singleton.mp hc
    subst hc
    exact ⟨_, ev_3, by omega⟩
theorem i64_lo (z : Int64) : -9223372036854775808 ≤ z.toInt := by have := z.le_toInt; omega
theorem i64_hi (z : Int64) : z.toInt ≤ 9223372036854775807 := by have := z.toInt_lt; omega
theorem h_184 {X : pH → Prop} (d : Nat) : k_S eG X kk_184 d := by
  intro vs h xs ys m hG hX hM _ _ _
  obtain ⟨a, b, i, r, e, hd, rfl, rfl, ha, hb, hi⟩ := th_pre hM
  obtain ⟨n, o, g1, g2⟩ := th_run (P := fun o => o.2 = h ∧ ∃ z : Int64, o.1 = some (pvL z)) (d := d) (h := h) (a := a) (b := b) (i := i) (T := px_ar 5 r) (by omega) (i64_ne0 hb.1) (fun z hz h2 => ⟨rfl, _, rfl⟩)
  rw [← e] at g1
  obtain ⟨g3, z, g4⟩ := g2
  exact ⟨n, o, g1, by rw [g3]; exact hG, by rw [g3]; exact hX, by rw [g3]; exact f_M_rf _ _, _, List.mem_cons_self .., [z.toInt], ⟨pvL z, z.toInt, [], g4, ⟨rfl, rfl, i64_lo z, i64_hi z, Or.inl rfl⟩, rfl, trivial⟩, fun c hc => by cases hc⟩
end
section
/-! by hand: tools for paths by lookups, bits, what stays true of the heap -/
theorem bt_and {j : Nat} (h : j < 32) : nI j &&& 31 = nI j := by
  have : ∀ j, j < 32 → nI j &&& 31 = nI j := by decide +kernel
  exact this j h
theorem bt_mod {j : Nat} (h : j < 32) : ((nI j).toBitVec.smod 32).toNat = j := by
  have : ∀ j, j < 32 → ((nI j).toBitVec.smod 32).toNat = j := by decide +kernel
  exact this j h
theorem bt_has {b : Int32} {j : Nat} (h : j < 32) : ((b >>> (nI j &&& 31)) &&& Int32.ofInt 1 = Int32.ofInt 1) ↔ b.toBitVec.getLsbD j = true := by
  rw [bt_and h, ← Int32.toBitVec_inj, Int32.toBitVec_and, Int32.toBitVec_shiftRight]
  have e1 : (Int32.ofInt 1).toBitVec = 1#32 := by decide
  rw [e1, BitVec.and_one_eq_setWidth_ofBool_getLsbD, BitVec.sshiftRight', BitVec.getLsbD_sshiftRight]
  have e2 := bt_mod h
  have e3 : ((nI j).toBitVec.smod (BitVec.ofNat 32 32)).toNat = j := e2
  rw [e2, Nat.add_zero, if_pos h, show (!decide (32 ≤ 0)) = true from rfl, Bool.true_and]
  cases b.toBitVec.getLsbD j <;> decide
theorem bt_set {b : Int32} {v j : Nat} (hv : v < 32) (hj : j < 32) : (b ||| (Int32.ofInt 1 <<< (nI v &&& 31))).toBitVec.getLsbD j = (b.toBitVec.getLsbD j || decide (j = v)) := by
  rw [bt_and hv, Int32.toBitVec_or, Int32.toBitVec_shiftLeft, BitVec.getLsbD_or]
  have e1 : (Int32.ofInt 1).toBitVec <<< (nI v).toBitVec.smod 32 = 1#32 <<< v := by
    have e2 := bt_mod hv
    show (1#32) <<< ((nI v).toBitVec.smod 32).toNat = _
    rw [e2]
  rw [e1, BitVec.getLsbD_shiftLeft, BitVec.getLsbD_one]
  congr 1
  by_cases q : j = v
  · subst q; simp [hj]
  · simp [q, hj]; omega
def cnt (f : Nat → Bool) : Nat → Nat
  | 0 => 0
  | n + 1 => cnt f n + (if f n then 1 else 0)
theorem cnt_le {f : Nat → Bool} {n m : Nat} (h : n ≤ m) : cnt f n ≤ cnt f m := by
  induction m with
  | zero => rw [show n = 0 by omega]; exact Nat.le_refl _
  | succ m ih =>
    by_cases e : n = m + 1
    · rw [e]; exact Nat.le_refl _
    · have := ih (by omega)
      show _ ≤ cnt f m + _
      omega
theorem cnt_set {f g : Nat → Bool} {v : Nat} : ∀ {n : Nat}, (∀ j, j < n → g j = (f j || decide (j = v))) → cnt g n ≤ cnt f n + (if v < n then 1 else 0)
  | 0, _ => Nat.zero_le _
  | n + 1, h => by
    have ih := cnt_set (n := n) (fun j hj => h j (by omega))
    have e := h n (by omega)
    show cnt g n + (if g n then 1 else 0) ≤ cnt f n + (if f n then 1 else 0) + _
    rw [e]
    by_cases q : n = v
    · subst q
      rw [if_neg (Nat.lt_irrefl _)] at ih
      rw [if_pos (Nat.lt_succ_self _)]
      cases f n <;> simp <;> omega
    · have q2 : decide (n = v) = false := decide_eq_false q
      rw [q2, Bool.or_false]
      by_cases w : v < n
      · rw [if_pos w] at ih; rw [if_pos (show v < n + 1 by omega)]; omega
      · rw [if_neg w] at ih; rw [if_neg (show ¬ v < n + 1 by omega)]; omega
theorem cnt_z {f : Nat → Bool} : ∀ {n : Nat}, (∀ j, j < n → f j = false) → cnt f n = 0
  | 0, _ => rfl
  | n + 1, h => by
    show cnt f n + (if f n then 1 else 0) = 0
    rw [cnt_z (n := n) (fun j hj => h j (by omega)), h n (by omega)]
    rfl
theorem lg_filter {p : Nat × pv → Bool} {j : Nat} {v : pv} : ∀ {l : List (Nat × pv)}, px_lg l j = some v → p (j, v) = true → px_lg (l.filter p) j = some v
  | [], h, _ => by cases h
  | (i, c) :: l, h, hp => by
    have h : (if (i == j) = true then some c else px_lg l j) = some v := h
    by_cases e : i = j
    · subst e
      rw [if_pos (beq_self_eq_true i)] at h
      cases h
      rw [List.filter_cons_of_pos hp]
      show (if (i == i) = true then _ else _) = _
      rw [if_pos (beq_self_eq_true i)]
    · have e2 : ¬ ((i == j) = true) := fun z => e (eq_of_beq z)
      rw [if_neg e2] at h
      by_cases q : p (i, c) = true
      · rw [List.filter_cons_of_pos q]
        show (if (i == j) = true then some c else px_lg (l.filter p) j) = _
        rw [if_neg e2]
        exact lg_filter h hp
      · rw [List.filter_cons_of_neg q]
        exact lg_filter h hp
theorem s1_eq {l : List (Nat × pv)} {i : Nat} {a : pv} : px_lg (px_s1 l i a) i = some a := by
  show (if (i == i) = true then some a else _) = _
  rw [if_pos (beq_self_eq_true i)]
theorem s2_eq {l : List (Nat × pv)} {i : Nat} {a : pv} : px_lg (px_s2 l i a) i = some a := by
  show (if (i == i) = true then some a else _) = _
  rw [if_pos (beq_self_eq_true i)]
theorem s1_ne {l : List (Nat × pv)} {i j : Nat} {a v : pv} (hn : j ≠ i) (h2 : j + 1 = i → pc2 v = false) (h : px_lg l j = some v) : px_lg (px_s1 l i a) j = some v := by
  show (if (i == j) = true then some a else px_lg (l.filter _) j) = _
  rw [if_neg (fun z => hn (eq_of_beq z).symm)]
  refine lg_filter h ?_
  show (!(j == i) && !(j + 1 == i && pc2 v)) = true
  rw [show (j == i) = false from beq_false_of_ne hn]
  by_cases e : j + 1 = i
  · rw [h2 e, Bool.and_false]
    rfl
  · rw [show (j + 1 == i) = false from beq_false_of_ne e]
    rfl
theorem s2_ne {l : List (Nat × pv)} {i j : Nat} {a v : pv} (hn : j ≠ i ∧ j ≠ i + 1) (h2 : j + 1 = i → pc2 v = false) (h : px_lg l j = some v) : px_lg (px_s2 l i a) j = some v := by
  show (if (i == j) = true then some a else px_lg (l.filter _) j) = _
  rw [if_neg (fun z => hn.1 (eq_of_beq z).symm)]
  refine lg_filter h ?_
  show (!(j == i) && (!(j == i + 1) && !(j + 1 == i && pc2 v))) = true
  rw [show (j == i) = false from beq_false_of_ne hn.1, show (j == i + 1) = false from beq_false_of_ne hn.2]
  by_cases e : j + 1 = i
  · rw [h2 e, Bool.and_false]
    rfl
  · rw [show (j + 1 == i) = false from beq_false_of_ne e]
    rfl
theorem ld_i {lv : List (Nat × pv)} {i : Nat} {x : Int32} {st : List pv} (h : px_lg lv i = some (.inl x)) : px_ldi lv i st = some (.inl x :: st) := by
  unfold px_ldi
  rw [h]
theorem ld_l {lv : List (Nat × pv)} {i : Nat} {x : Int64} {st : List pv} (h : px_lg lv i = some (.inr (.inl x))) : px_ldl lv i st = some (.inr (.inl x) :: st) := by
  unfold px_ldl
  rw [h]
theorem ld_a {lv : List (Nat × pv)} {i : Nat} {x : Option Nat} {st : List pv} (h : px_lg lv i = some (.inr (.inr x))) : px_lda lv i st = some (.inr (.inr x) :: st) := by
  unfold px_lda
  rw [h]
theorem pinc {lv : List (Nat × pv)} {i L : Nat} {n : Int} {x : Int32} {st : List pv} (h : px_lg lv i = some (.inl x)) (hL : i < L) : px_of (.iinc i n) L lv st = some (px_s1 lv i (.inl (x + Int32.ofInt n)), st) := by
  show (match px_lg lv i with
    | some (.inl x) => if i < L then some (px_s1 lv i (.inl (x + Int32.ofInt n)), st) else none
    | _ => none) = _
  rw [h]
  exact if_pos hL
theorem pFi {h : pH} {x k y : Nat} (ht : xk_ty x y = .int) : pF h x k y = .inl (h.1 k y) := by
  unfold pF
  rw [ht]
theorem pFa {h : pH} {x k y : Nat} {t : FieldType} (ht : xk_ty x y = .array t) : pF h x k y = .inr (.inr (h.2.2.1 k y)) := by
  unfold pF
  rw [ht]
theorem pget {d i x y k : Nat} {lv : List (Nat × pv)} {h : pH} {r : List pv} {v : pv} (hk : eL[k]? = some (0, x)) (hp : pF h x k y = v) : px_push eL d none (.getfield i) x y lv (.inr (.inr (some k)) :: r) h = some (v :: r) := by
  show (if eL[k]? = some (0, x) then some (pF h x k y :: r) else none) = _
  rw [if_pos hk, hp]
theorem pputi {d i x y k : Nat} {h : pH} {r : List pv} {n : Int32} (hk : eL[k]? = some (0, x)) (ht : xk_ty x y = .int) : px_wf (.putfield i) eL d x y (.inl n :: .inr (.inr (some k)) :: r) h = some (r, (pu h.1 k y n, h.2)) := by
  show px_put eL h x y (.inl n :: .inr (.inr (some k)) :: r) = _
  unfold px_put
  dsimp only
  rw [if_pos hk, ht]
theorem pbald {d x y k n : Nat} {lv : List (Nat × pv)} {h : pH} {r : List pv} {j : Int32} (hk : eL[k]? = some (2, n)) (hi : ¬ (j < 0 ∨ n ≤ j.toNatClampNeg)) : px_push eL d none .baload x y lv (.inl j :: .inr (.inr (some k)) :: r) h = some (.inl (h.2.2.2.1 k j.toNatClampNeg) :: r) := by
  show px_bald eL h (.inl j :: .inr (.inr (some k)) :: r) = _
  unfold px_bald
  dsimp only
  rw [hk]
  dsimp only
  rw [if_pos rfl, if_neg hi]
theorem piald {d x y k n : Nat} {lv : List (Nat × pv)} {h : pH} {r : List pv} {j : Int32} (h1 : k ≠ 1000) (hk : eL[k]? = some (1, n)) (hi : ¬ (j < 0 ∨ n ≤ j.toNatClampNeg)) : px_push eL d none .iaload x y lv (.inl j :: .inr (.inr (some k)) :: r) h = some (.inl (h.2.2.2.1 k j.toNatClampNeg) :: r) := by
  show px_iald eL none h (.inl j :: .inr (.inr (some k)) :: r) = _
  unfold px_iald
  dsimp only
  rw [if_neg h1, hk]
  dsimp only
  rw [if_pos rfl, if_neg hi]
theorem piast {d x y k n : Nat} {h : pH} {r : List pv} {v j : Int32} (hk : eL[k]? = some (1, n)) (hi : ¬ (j < 0 ∨ n ≤ j.toNatClampNeg)) : px_wf .iastore eL d x y (.inl v :: .inl j :: .inr (.inr (some k)) :: r) h = some (r, (h.1, h.2.1, h.2.2.1, pu h.2.2.2.1 k j.toNatClampNeg v, h.2.2.2.2)) := by
  show px_iast eL h (.inl v :: .inl j :: .inr (.inr (some k)) :: r) = _
  unfold px_iast
  dsimp only
  rw [hk]
  dsimp only
  rw [if_pos rfl, if_neg hi]
theorem pcal_v1 {i y k : Nat} {a : pv} {r : List pv} (h1 : (xm y).2.2.2.2.2.2.2 = 1) (hn : (xm y).2.2.2.2.2.1 = 1) (hk : eL[k]? = some (0, (xm y).2.2.2.2.2.2.1)) : px_cal eL (.invokevirtual i) 0 y (a :: .inr (.inr (some k)) :: r) = some ([.inr (.inr (some k)), a], r) := by
  unfold px_cal
  dsimp only
  rw [if_pos ⟨rfl, h1, by rw [hn]; exact Nat.le_add_left 1 _⟩, hn]
  show (if eL[k]? = some (0, (xm y).2.2.2.2.2.2.1) then _ else _) = _
  rw [if_pos hk]
  rfl
/-- what stays true of the heap -/
def J_ (W : Nat) (h0 h : pH) : Prop := g_I eG h ∧ f_M W h0 h
theorem J_puti {W : Nat} {h0 h : pH} {k x y : Nat} {n : Int32} (hj : J_ W h0 h) (hk : eL[k]? = some (0, x)) (ht : xk_ty x y = .int) (hW : W.testBit (cn k + y) = true) (hv : ok_v n.toInt (eG (cn k + y))) : J_ W h0 (pu h.1 k y n, h.2) := by
  have hw : w_f h (pu h.1 k y n, h.2) k y := ⟨fun k' y' hn => ⟨if_neg hn, rfl, rfl⟩, rfl⟩
  refine ⟨g_I_f hj.1 hw hk ?_, w_f_M hw hj.2 hW⟩
  rw [pFi ht]
  show ok_v (pu h.1 k y n k y).toInt _
  rw [pu_at]
  exact hv
theorem J_ia {W : Nat} {h0 h : pH} {k n j : Nat} {z : Int32} (hj : J_ W h0 h) (hk : eL[k]? = some (1, n)) (hW : W.testBit (cn k) = true) (hv : ok_v z.toInt (eG (cn k))) : J_ W h0 (h.1, h.2.1, h.2.2.1, pu h.2.2.2.1 k j z, h.2.2.2.2) := ⟨g_I_i hj.1 hv hk (Or.inl rfl), w_a_M w_a_i hj.2 hW⟩
theorem gI_r {h : pH} {k x y r : Nat} {t : FieldType} (hG : g_I eG h) (hk : eL[k]? = some (0, x)) (hy : y < pnf x) (ht : xk_ty x y = .array t) (hg : (eG (cn k + y)).2.2 = [r + 1]) : pF h x k y = .inr (.inr (some r)) := by
  have h1 := (hG k (0, x) hk).1 rfl y hy
  rw [pFa ht] at h1 ⊢
  have h2 := h1.2.2
  rw [hg] at h2
  rcases h2 with h2 | h2
  · cases h2
  · have h2 := List.mem_singleton.mp h2
    cases hq : h.2.2.1 k y with
    | none =>
      rw [hq] at h2
      cases h2
    | some q =>
      rw [hq] at h2
      have h3 : ((q : Int) + 1).toNat = r + 1 := h2
      rw [show q = r by omega]
theorem gI_i {h : pH} {k x y : Nat} (hG : g_I eG h) (hk : eL[k]? = some (0, x)) (hy : y < pnf x) (ht : xk_ty x y = .int) : ok_v (h.1 k y).toInt (eG (cn k + y)) := by
  have h1 := (hG k (0, x) hk).1 rfl y hy
  rw [pFi ht] at h1
  exact h1
theorem gI_ia {h : pH} {k n j : Nat} (hG : g_I eG h) (hk : eL[k]? = some (1, n)) (hj : j < n) : ok_v (h.2.2.2.1 k j).toInt (eG (cn k)) := (hG k (1, n) hk).2.1 (Or.inl rfl) j hj
abbrev pvR (k : Nat) : pv := .inr (.inr (some k))
end
section
/-! by hand: takesSpilt (printed in part by wip/e2/ts.py) -/
theorem qh_0 : xe_look (xc 196) 0 = some (.iload_n 0, 1, 0, 0, 0) := by decide +kernel
theorem qh_1 : xe_look (xc 196) 1 = some (.iload_n 1, 1, 0, 0, 0) := by decide +kernel
theorem qh_2 : xe_look (xc 196) 2 = some (.ishr, 1, 0, 0, 0) := by decide +kernel
theorem qh_3 : xe_look (xc 196) 3 = some (.iconst 1, 1, 0, 0, 0) := by decide +kernel
theorem qh_4 : xe_look (xc 196) 4 = some (.iand, 1, 0, 0, 0) := by decide +kernel
theorem qh_5 : xe_look (xc 196) 5 = some (.iconst 1, 1, 0, 0, 0) := by decide +kernel
theorem qh_6 : xe_look (xc 196) 6 = some (.if_icmp .ne 7, 3, 0, 0, 0) := by decide +kernel
theorem qh_9 : xe_look (xc 196) 9 = some (.iconst 1, 1, 0, 0, 0) := by decide +kernel
theorem qh_10 : xe_look (xc 196) 10 = some (.goto 4, 3, 0, 0, 0) := by decide +kernel
theorem qh_13 : xe_look (xc 196) 13 = some (.iconst 0, 1, 0, 0, 0) := by decide +kernel
theorem qh_14 : xe_look (xc 196) 14 = some (.ireturn, 1, 0, 0, 0) := by decide +kernel
theorem qc_0 : xe_look (xc 205) 0 = some (.iload_n 1, 1, 0, 0, 0) := by decide +kernel
theorem qc_1 : xe_look (xc 205) 1 = some (.ifCond .lt 24, 3, 0, 0, 0) := by decide +kernel
theorem qc_4 : xe_look (xc 205) 4 = some (.iload_n 1, 1, 0, 0, 0) := by decide +kernel
theorem qc_5 : xe_look (xc 205) 5 = some (.bipush 32, 2, 0, 0, 0) := by decide +kernel
theorem qc_7 : xe_look (xc 205) 7 = some (.if_icmp .ge 18, 3, 0, 0, 0) := by decide +kernel
theorem qc_10 : xe_look (xc 205) 10 = some (.aload_n 0, 1, 0, 0, 0) := by decide +kernel
theorem qc_11 : xe_look (xc 205) 11 = some (.getfield 183, 3, 12, 0, 1158) := by decide +kernel
theorem qc_14 : xe_look (xc 205) 14 = some (.iload_n 1, 1, 0, 0, 0) := by decide +kernel
theorem qc_15 : xe_look (xc 205) 15 = some (.invokestatic 187, 3, 0, 196, 1121) := by decide +kernel
theorem qc_18 : xe_look (xc 205) 18 = some (.ifCond .eq 7, 3, 0, 0, 0) := by decide +kernel
theorem qc_21 : xe_look (xc 205) 21 = some (.iconst 1, 1, 0, 0, 0) := by decide +kernel
theorem qc_22 : xe_look (xc 205) 22 = some (.goto 4, 3, 0, 0, 0) := by decide +kernel
theorem qc_25 : xe_look (xc 205) 25 = some (.iconst 0, 1, 0, 0, 0) := by decide +kernel
theorem qc_26 : xe_look (xc 205) 26 = some (.ireturn, 1, 0, 0, 0) := by decide +kernel
theorem qs_0 : xe_look (xc 261) 0 = some (.aload_n 0, 1, 0, 0, 0) := by decide +kernel
theorem qs_1 : xe_look (xc 261) 1 = some (.iload_n 1, 1, 0, 0, 0) := by decide +kernel
theorem qs_2 : xe_look (xc 261) 2 = some (.putfield 491, 3, 12, 71, 1235) := by decide +kernel
theorem qs_5 : xe_look (xc 261) 5 = some (.iconst 0, 1, 0, 0, 0) := by decide +kernel
theorem qs_6 : xe_look (xc 261) 6 = some (.istore_n 2, 1, 0, 0, 0) := by decide +kernel
theorem qs_7 : xe_look (xc 261) 7 = some (.iconst 0, 1, 0, 0, 0) := by decide +kernel
theorem qs_8 : xe_look (xc 261) 8 = some (.istore_n 3, 1, 0, 0, 0) := by decide +kernel
theorem qs_9 : xe_look (xc 261) 9 = some (.iload_n 3, 1, 0, 0, 0) := by decide +kernel
theorem qs_10 : xe_look (xc 261) 10 = some (.iload_n 1, 1, 0, 0, 0) := by decide +kernel
theorem qs_11 : xe_look (xc 261) 11 = some (.if_icmp .ge 48, 3, 0, 0, 0) := by decide +kernel
theorem qs_14 : xe_look (xc 261) 14 = some (.aload_n 0, 1, 0, 0, 0) := by decide +kernel
theorem qs_15 : xe_look (xc 261) 15 = some (.getfield 53, 3, 12, 16, 1134) := by decide +kernel
theorem qs_18 : xe_look (xc 261) 18 = some (.iload_n 3, 1, 0, 0, 0) := by decide +kernel
theorem qs_19 : xe_look (xc 261) 19 = some (.baload, 1, 0, 0, 0) := by decide +kernel
theorem qs_20 : xe_look (xc 261) 20 = some (.sipush 255, 3, 0, 0, 0) := by decide +kernel
theorem qs_23 : xe_look (xc 261) 23 = some (.iand, 1, 0, 0, 0) := by decide +kernel
theorem qs_24 : xe_look (xc 261) 24 = some (.istore 4, 2, 0, 0, 0) := by decide +kernel
theorem qs_26 : xe_look (xc 261) 26 = some (.aload_n 0, 1, 0, 0, 0) := by decide +kernel
theorem qs_27 : xe_look (xc 261) 27 = some (.iload 4, 2, 0, 0, 0) := by decide +kernel
theorem qs_29 : xe_look (xc 261) 29 = some (.invokevirtual 205, 3, 0, 205, 1130) := by decide +kernel
theorem qs_32 : xe_look (xc 261) 32 = some (.ifCond .eq 12, 3, 0, 0, 0) := by decide +kernel
theorem qs_35 : xe_look (xc 261) 35 = some (.iload_n 2, 1, 0, 0, 0) := by decide +kernel
theorem qs_36 : xe_look (xc 261) 36 = some (.iload 4, 2, 0, 0, 0) := by decide +kernel
theorem qs_38 : xe_look (xc 261) 38 = some (.invokestatic 187, 3, 0, 196, 1121) := by decide +kernel
theorem qs_41 : xe_look (xc 261) 41 = some (.ifCond .eq 5, 3, 0, 0, 0) := by decide +kernel
theorem qs_44 : xe_look (xc 261) 44 = some (.iconst 0, 1, 0, 0, 0) := by decide +kernel
theorem qs_45 : xe_look (xc 261) 45 = some (.ireturn, 1, 0, 0, 0) := by decide +kernel
theorem qs_46 : xe_look (xc 261) 46 = some (.iload_n 2, 1, 0, 0, 0) := by decide +kernel
theorem qs_47 : xe_look (xc 261) 47 = some (.iconst 1, 1, 0, 0, 0) := by decide +kernel
theorem qs_48 : xe_look (xc 261) 48 = some (.iload 4, 2, 0, 0, 0) := by decide +kernel
theorem qs_50 : xe_look (xc 261) 50 = some (.ishl, 1, 0, 0, 0) := by decide +kernel
theorem qs_51 : xe_look (xc 261) 51 = some (.ior, 1, 0, 0, 0) := by decide +kernel
theorem qs_52 : xe_look (xc 261) 52 = some (.istore_n 2, 1, 0, 0, 0) := by decide +kernel
theorem qs_53 : xe_look (xc 261) 53 = some (.iinc 3 1, 3, 0, 0, 0) := by decide +kernel
theorem qs_56 : xe_look (xc 261) 56 = some (.goto (-47), 3, 0, 0, 0) := by decide +kernel
theorem qs_59 : xe_look (xc 261) 59 = some (.iconst 0, 1, 0, 0, 0) := by decide +kernel
theorem qs_60 : xe_look (xc 261) 60 = some (.istore_n 3, 1, 0, 0, 0) := by decide +kernel
theorem qs_61 : xe_look (xc 261) 61 = some (.iconst 0, 1, 0, 0, 0) := by decide +kernel
theorem qs_62 : xe_look (xc 261) 62 = some (.istore 4, 2, 0, 0, 0) := by decide +kernel
theorem qs_64 : xe_look (xc 261) 64 = some (.iload 4, 2, 0, 0, 0) := by decide +kernel
theorem qs_66 : xe_look (xc 261) 66 = some (.bipush 32, 2, 0, 0, 0) := by decide +kernel
theorem qs_68 : xe_look (xc 261) 68 = some (.if_icmp .ge 33, 3, 0, 0, 0) := by decide +kernel
theorem qs_71 : xe_look (xc 261) 71 = some (.iload_n 2, 1, 0, 0, 0) := by decide +kernel
theorem qs_72 : xe_look (xc 261) 72 = some (.iload 4, 2, 0, 0, 0) := by decide +kernel
theorem qs_74 : xe_look (xc 261) 74 = some (.invokestatic 187, 3, 0, 196, 1121) := by decide +kernel
theorem qs_77 : xe_look (xc 261) 77 = some (.ifCond .ne 6, 3, 0, 0, 0) := by decide +kernel
theorem qs_80 : xe_look (xc 261) 80 = some (.goto 15, 3, 0, 0, 0) := by decide +kernel
theorem qs_83 : xe_look (xc 261) 83 = some (.aload_n 0, 1, 0, 0, 0) := by decide +kernel
theorem qs_84 : xe_look (xc 261) 84 = some (.getfield 135, 3, 12, 68, 1206) := by decide +kernel
theorem qs_87 : xe_look (xc 261) 87 = some (.iload_n 3, 1, 0, 0, 0) := by decide +kernel
theorem qs_88 : xe_look (xc 261) 88 = some (.iload 4, 2, 0, 0, 0) := by decide +kernel
theorem qs_90 : xe_look (xc 261) 90 = some (.iastore, 1, 0, 0, 0) := by decide +kernel
theorem qs_91 : xe_look (xc 261) 91 = some (.iload_n 3, 1, 0, 0, 0) := by decide +kernel
theorem qs_92 : xe_look (xc 261) 92 = some (.iconst 1, 1, 0, 0, 0) := by decide +kernel
theorem qs_93 : xe_look (xc 261) 93 = some (.iadd, 1, 0, 0, 0) := by decide +kernel
theorem qs_94 : xe_look (xc 261) 94 = some (.istore_n 3, 1, 0, 0, 0) := by decide +kernel
theorem qs_95 : xe_look (xc 261) 95 = some (.iinc 4 1, 3, 0, 0, 0) := by decide +kernel
theorem qs_98 : xe_look (xc 261) 98 = some (.goto (-34), 3, 0, 0, 0) := by decide +kernel
theorem qs_101 : xe_look (xc 261) 101 = some (.iconst 1, 1, 0, 0, 0) := by decide +kernel
theorem qs_102 : xe_look (xc 261) 102 = some (.ireturn, 1, 0, 0, 0) := by decide +kernel
theorem el_196 : eL[196]? = some (0, 12) := by decide +kernel
theorem el_211 : eL[211]? = some (2, 260) := by decide +kernel
theorem el_238 : eL[238]? = some (1, 12) := by decide +kernel
theorem i0_0 : Int32.ofInt 0 = 0 := rfl
theorem i1_n : ¬ (Int32.ofInt 1 = 0) := by decide +kernel
set_option maxHeartbeats 2000000 in
theorem has_run {d : Nat} {h : pH} {b v : Int32} {P : Option pv × pH → Prop} (h1 : (b >>> (v &&& 31)) &&& Int32.ofInt 1 = Int32.ofInt 1 → P (some (.inl (Int32.ofInt 1)), h)) (h0 : ¬ (b >>> (v &&& 31)) &&& Int32.ofInt 1 = Int32.ofInt 1 → P (some (.inl (Int32.ofInt 0)), h)) : t_X d 196 0 [(0, .inl b), (1, .inl v)] [] h P := by
  by_cases hq : (b >>> (v &&& 31)) &&& Int32.ofInt 1 = Int32.ofInt 1
  · refine t_0 qh_0 rfl rfl ?_
    refine t_0 qh_1 rfl rfl ?_
    refine t_0 qh_2 rfl rfl ?_
    refine t_0 qh_3 rfl rfl ?_
    refine t_0 qh_4 rfl rfl ?_
    refine t_0 qh_5 rfl rfl ?_
    refine t_1 qh_6 rfl (pc_ne_f (pc := 6) (by decide) hq) ?_
    refine t_0 qh_9 rfl rfl ?_
    refine t_1 qh_10 rfl (pb_goto (pc := 10) (by decide)) ?_
    refine t_5 qh_14 rfl rfl ?_
    exact h1 hq
  · refine t_0 qh_0 rfl rfl ?_
    refine t_0 qh_1 rfl rfl ?_
    refine t_0 qh_2 rfl rfl ?_
    refine t_0 qh_3 rfl rfl ?_
    refine t_0 qh_4 rfl rfl ?_
    refine t_0 qh_5 rfl rfl ?_
    refine t_1 qh_6 rfl (pc_ne_t (pc := 6) (by decide) hq) ?_
    refine t_0 qh_13 rfl rfl ?_
    refine t_5 qh_14 rfl rfl ?_
    exact h0 hq
set_option maxHeartbeats 2000000 in
theorem chk_run {d : Nat} {h : pH} {v : Int32} {P : Option pv × pH → Prop} (hd : 1 ≤ d) (h1 : 0 ≤ v.toInt → v.toInt < 32 → P (some (.inl (Int32.ofInt 1)), h)) (h0 : P (some (.inl (Int32.ofInt 0)), h)) : t_X d 205 0 [(0, pvR 196), (1, .inl v)] [] h P := by
  have fin : t_X d 205 25 [(0, pvR 196), (1, .inl v)] [] h P := by
    refine t_0 qc_25 rfl rfl ?_
    refine t_5 qc_26 rfl rfl ?_
    exact h0
  by_cases ha : v < 0
  · refine t_0 qc_0 rfl rfl ?_
    refine t_1 qc_1 rfl (pb_lt_t (pc := 1) (by decide) ha) ?_
    exact fin
  · by_cases hb : v < (Int8.ofInt 32).toInt32
    · refine t_0 qc_0 rfl rfl ?_
      refine t_1 qc_1 rfl (pb_lt_f (pc := 1) (by decide) ha) ?_
      refine t_0 qc_4 rfl rfl ?_
      refine t_0 qc_5 rfl rfl ?_
      refine t_1 qc_7 rfl (pc_ge_f (pc := 7) (by decide) hb) ?_
      refine t_0 qc_10 rfl rfl ?_
      refine t_0 qc_11 rfl (pget el_196 (pFi rfl)) ?_
      refine t_0 qc_14 rfl rfl ?_
      refine t_3 qc_15 rfl (ar := ([.inl (h.1 196 0), .inl v], [])) (pcal_s ⟨Or.inl rfl, rfl, Nat.le_of_ble_eq_true rfl⟩) ⟨hd, Nat.le_of_ble_eq_true rfl, Nat.le_of_ble_eq_true rfl, rfl⟩ ?_
      refine has_run (fun _ => ?_) (fun _ => ?_)
      · show t_X d 205 18 [(0, pvR 196), (1, .inl v)] [.inl (Int32.ofInt 1)] h P
        refine t_1 qc_18 rfl (pb_eq_f (pc := 18) (by decide) i1_n) ?_
        refine t_0 qc_21 rfl rfl ?_
        refine t_1 qc_22 rfl (pb_goto (pc := 22) (by decide)) ?_
        refine t_5 qc_26 rfl rfl ?_
        refine h1 ?_ ?_
        · have : ¬ v.toInt < 0 := fun z => ha (i32_lt0.mpr z)
          omega
        · have h9 := Int32.lt_iff_toInt_lt.mp hb
          have e9 : ((Int8.ofInt 32).toInt32).toInt = 32 := by decide +kernel
          omega
      · show t_X d 205 18 [(0, pvR 196), (1, .inl v)] [.inl (Int32.ofInt 0)] h P
        refine t_1 qc_18 rfl (pb_eq_t (pc := 18) (by decide) i0_0) ?_
        exact fin
    · refine t_0 qc_0 rfl rfl ?_
      refine t_1 qc_1 rfl (pb_lt_f (pc := 1) (by decide) ha) ?_
      refine t_0 qc_4 rfl rfl ?_
      refine t_0 qc_5 rfl rfl ?_
      refine t_1 qc_7 rfl (pc_ge_t (pc := 7) (by decide) hb) ?_
      exact fin
set_option maxHeartbeats 4000000 in
theorem ts_1 {d : Nat} (hd : 3 ≤ d) {h : pH} {n : Int32} (hn : 0 ≤ n.toInt ∧ n.toInt ≤ 12) {P : Option pv × pH → Prop} (hr : pF h 12 196 16 = .inr (.inr (some 211))) (h0 : P (some (.inl (Int32.ofInt 0)), h)) (h1 : ∀ (lv : List (Nat × pv)) (bits : Int32), cnt (fun i => bits.toBitVec.getLsbD i) 32 ≤ n.toInt.toNat → px_lg lv 0 = some (.inr (.inr (some 196))) → px_lg lv 2 = some (.inl bits) → t_X d 261 59 lv [] h P) : ∀ (m j : Nat) (bits : Int32) (lv : List (Nat × pv)), j + m = n.toInt.toNat → px_lg lv 0 = some (.inr (.inr (some 196))) → px_lg lv 1 = some (.inl n) → px_lg lv 2 = some (.inl bits) → px_lg lv 3 = some (.inl (nI j)) → cnt (fun i => bits.toBitVec.getLsbD i) 32 ≤ j → t_X d 261 9 lv [] h P := by
  intro m
  induction m with
  | zero =>
    intro j bits lv hj l0 l1 l2 l3 hc
    have hlt : ¬ nI j < n := fun z => by
      have z := Int32.lt_iff_toInt_lt.mp z
      rw [nI_toInt (by omega)] at z
      omega
    refine t_0 qs_9 rfl (ld_i l3) ?_
    refine t_0 qs_10 rfl (ld_i l1) ?_
    refine t_1 qs_11 rfl (pc_ge_t (pc := 11) (by decide) hlt) ?_
    exact h1 lv bits (by omega) l0 l2
  | succ m ih =>
    intro j bits lv hj l0 l1 l2 l3 hc
    have hlt : nI j < n := Int32.lt_iff_toInt_lt.mpr (by rw [nI_toInt (by omega)]; omega)
    have hcl : ¬ (nI j < 0 ∨ 260 ≤ (nI j).toNatClampNeg) := e_clamp (by rw [nI_toInt (by omega)]; omega) (by rw [nI_toInt (by omega)]; omega)
    refine t_0 qs_9 rfl (ld_i l3) ?_
    refine t_0 qs_10 rfl (ld_i l1) ?_
    refine t_1 qs_11 rfl (pc_ge_f (pc := 11) (by decide) hlt) ?_
    show t_X d 261 14 lv [] h P
    refine t_0 qs_14 rfl (ld_a l0) ?_
    refine t_0 qs_15 rfl (pget el_196 hr) ?_
    refine t_0 qs_18 rfl (ld_i l3) ?_
    refine t_0 qs_19 rfl (pbald el_211 hcl) ?_
    refine t_0 qs_20 rfl rfl ?_
    refine t_0 qs_23 rfl rfl ?_
    refine t_2 qs_24 rfl (w := (px_s1 lv 4 (.inl ((h.2.2.2.1 211 (nI j).toNatClampNeg) &&& ((Int16.ofInt (255)).toInt32))), [])) rfl ?_
    replace l0 : px_lg (px_s1 lv 4 (.inl ((h.2.2.2.1 211 (nI j).toNatClampNeg) &&& ((Int16.ofInt (255)).toInt32)))) 0 = some (.inr (.inr (some 196))) := s1_ne (by decide) (fun _ => rfl) l0
    replace l1 : px_lg (px_s1 lv 4 (.inl ((h.2.2.2.1 211 (nI j).toNatClampNeg) &&& ((Int16.ofInt (255)).toInt32)))) 1 = some (.inl (n)) := s1_ne (by decide) (fun _ => rfl) l1
    replace l2 : px_lg (px_s1 lv 4 (.inl ((h.2.2.2.1 211 (nI j).toNatClampNeg) &&& ((Int16.ofInt (255)).toInt32)))) 2 = some (.inl (bits)) := s1_ne (by decide) (fun _ => rfl) l2
    replace l3 : px_lg (px_s1 lv 4 (.inl ((h.2.2.2.1 211 (nI j).toNatClampNeg) &&& ((Int16.ofInt (255)).toInt32)))) 3 = some (.inl (nI j)) := s1_ne (by decide) (fun _ => rfl) l3
    have l4 : px_lg (px_s1 lv 4 (.inl ((h.2.2.2.1 211 (nI j).toNatClampNeg) &&& ((Int16.ofInt (255)).toInt32)))) 4 = some (.inl ((h.2.2.2.1 211 (nI j).toNatClampNeg) &&& ((Int16.ofInt (255)).toInt32))) := s1_eq
    generalize px_s1 lv 4 (.inl ((h.2.2.2.1 211 (nI j).toNatClampNeg) &&& ((Int16.ofInt (255)).toInt32))) = lv1 at l0 l1 l2 l3 l4 ⊢
    show t_X d 261 26 lv1 [] h P
    generalize h.2.2.2.1 211 (nI j).toNatClampNeg &&& (Int16.ofInt 255).toInt32 = v at l4
    refine t_0 qs_26 rfl (ld_a l0) ?_
    refine t_0 qs_27 rfl (ld_i l4) ?_
    refine t_3 qs_29 rfl (ar := ([pvR 196, .inl v], [])) (pcal_v1 rfl rfl el_196) ⟨by omega, Nat.le_of_ble_eq_true rfl, Nat.le_of_ble_eq_true rfl, rfl⟩ ?_
    refine chk_run (by omega) (fun v0 v1 => ?_) ?_
    · show t_X d 261 32 lv1 [.inl (Int32.ofInt 1)] h P
      refine t_1 qs_32 rfl (pb_eq_f (pc := 32) (by decide) i1_n) ?_
      refine t_0 qs_35 rfl (ld_i l2) ?_
      refine t_0 qs_36 rfl (ld_i l4) ?_
      refine t_3 qs_38 rfl (ar := ([.inl bits, .inl v], [])) (pcal_s ⟨Or.inl rfl, rfl, Nat.le_of_ble_eq_true rfl⟩) ⟨by omega, Nat.le_of_ble_eq_true rfl, Nat.le_of_ble_eq_true rfl, rfl⟩ ?_
      refine has_run (fun _ => ?_) (fun _ => ?_)
      · show t_X d 261 41 lv1 [.inl (Int32.ofInt 1)] h P
        refine t_1 qs_41 rfl (pb_eq_f (pc := 41) (by decide) i1_n) ?_
        refine t_0 qs_44 rfl rfl ?_
        refine t_5 qs_45 rfl rfl ?_
        exact h0
      · show t_X d 261 41 lv1 [.inl (Int32.ofInt 0)] h P
        refine t_1 qs_41 rfl (pb_eq_t (pc := 41) (by decide) i0_0) ?_
        refine t_0 qs_46 rfl (ld_i l2) ?_
        refine t_0 qs_47 rfl rfl ?_
        refine t_0 qs_48 rfl (ld_i l4) ?_
        refine t_0 qs_50 rfl rfl ?_
        refine t_0 qs_51 rfl rfl ?_
        refine t_2 qs_52 rfl (w := (px_s1 lv1 2 (.inl ((bits) ||| ((Int32.ofInt (1)) <<< ((v) &&& 31)))), [])) rfl ?_
        replace l0 : px_lg (px_s1 lv1 2 (.inl ((bits) ||| ((Int32.ofInt (1)) <<< ((v) &&& 31))))) 0 = some (.inr (.inr (some 196))) := s1_ne (by decide) (fun _ => rfl) l0
        replace l1 : px_lg (px_s1 lv1 2 (.inl ((bits) ||| ((Int32.ofInt (1)) <<< ((v) &&& 31))))) 1 = some (.inl (n)) := s1_ne (by decide) (fun _ => rfl) l1
        replace l3 : px_lg (px_s1 lv1 2 (.inl ((bits) ||| ((Int32.ofInt (1)) <<< ((v) &&& 31))))) 3 = some (.inl (nI j)) := s1_ne (by decide) (fun _ => rfl) l3
        replace l4 : px_lg (px_s1 lv1 2 (.inl ((bits) ||| ((Int32.ofInt (1)) <<< ((v) &&& 31))))) 4 = some (.inl (v)) := s1_ne (by decide) (fun _ => rfl) l4
        have l2 : px_lg (px_s1 lv1 2 (.inl ((bits) ||| ((Int32.ofInt (1)) <<< ((v) &&& 31))))) 2 = some (.inl ((bits) ||| ((Int32.ofInt (1)) <<< ((v) &&& 31)))) := s1_eq
        generalize px_s1 lv1 2 (.inl ((bits) ||| ((Int32.ofInt (1)) <<< ((v) &&& 31)))) = lv2 at l0 l1 l3 l4 l2 ⊢
        show t_X d 261 53 lv2 [] h P
        refine t_2 qs_53 rfl (w := (px_s1 lv2 3 (.inl ((nI j) + Int32.ofInt (1))), [])) (pinc l3 (by decide)) ?_
        replace l0 : px_lg (px_s1 lv2 3 (.inl ((nI j) + Int32.ofInt (1)))) 0 = some (.inr (.inr (some 196))) := s1_ne (by decide) (fun _ => rfl) l0
        replace l1 : px_lg (px_s1 lv2 3 (.inl ((nI j) + Int32.ofInt (1)))) 1 = some (.inl (n)) := s1_ne (by decide) (fun _ => rfl) l1
        replace l4 : px_lg (px_s1 lv2 3 (.inl ((nI j) + Int32.ofInt (1)))) 4 = some (.inl (v)) := s1_ne (by decide) (fun _ => rfl) l4
        replace l2 : px_lg (px_s1 lv2 3 (.inl ((nI j) + Int32.ofInt (1)))) 2 = some (.inl ((bits) ||| ((Int32.ofInt (1)) <<< ((v) &&& 31)))) := s1_ne (by decide) (fun _ => rfl) l2
        have l3 : px_lg (px_s1 lv2 3 (.inl ((nI j) + Int32.ofInt (1)))) 3 = some (.inl ((nI j) + Int32.ofInt (1))) := s1_eq
        generalize px_s1 lv2 3 (.inl ((nI j) + Int32.ofInt (1))) = lv3 at l0 l1 l4 l2 l3 ⊢
        show t_X d 261 56 lv3 [] h P
        refine t_1 qs_56 rfl (pb_goto (pc := 56) (by decide)) ?_
        show t_X d 261 9 lv3 [] h P
        rw [j_inc (by omega)] at l3
        refine ih (j + 1) _ _ (by omega) l0 l1 l2 l3 ?_
        obtain ⟨k, hk, rfl⟩ : ∃ k : Nat, k < 32 ∧ v = nI k := ⟨v.toInt.toNat, by omega, Int32.toInt_inj.mp (by rw [nI_toInt (by omega)]; omega)⟩
        have := cnt_set (f := fun i => bits.toBitVec.getLsbD i) (g := fun i => (bits ||| Int32.ofInt 1 <<< (nI k &&& 31)).toBitVec.getLsbD i) (v := k) (n := 32) (fun i hi => bt_set hk hi)
        rw [if_pos hk] at this
        have e : cnt (fun i => (bits ||| Int32.ofInt 1 <<< (nI k &&& 31)).toBitVec.getLsbD i) 32 ≤ j + 1 := by omega
        exact e
    · show t_X d 261 32 lv1 [.inl (Int32.ofInt 0)] h P
      refine t_1 qs_32 rfl (pb_eq_t (pc := 32) (by decide) i0_0) ?_
      refine t_0 qs_44 rfl rfl ?_
      refine t_5 qs_45 rfl rfl ?_
      exact h0
end
section
/-! by hand: takesSpilt, the second loop and its contract (printed in part by wip/e2/ts2.py) -/
theorem eg_a238 : eG (cn 238) = (0, 31, []) := by decide +kernel
theorem eg_dx5 : kk_185.2.2.2.1 &&& eDX = 0 := by decide +kernel
theorem eg_m5 : kk_185.2.2.2.1.testBit (cn 238) = true := by decide +kernel
theorem eg_n5 : kk_185.2.2.2.1.testBit (cn 196 + 71) = true := by decide +kernel
theorem eg_f71 : eG (cn 196 + 71) = (0, 12, []) := by decide +kernel
theorem eg_f68 : (eG (cn 196 + 68)).2.2 = [239] := by decide +kernel
theorem eg_f16 : (eG (cn 196 + 16)).2.2 = [212] := by decide +kernel
set_option maxHeartbeats 4000000 in
theorem ts_2 {d : Nat} (hd : 3 ≤ d) {h0 : pH} {n bits : Int32} (hc : cnt (fun i => bits.toBitVec.getLsbD i) 32 ≤ 12) {P : Option pv × pH → Prop} (h1 : ∀ g : pH, J_ kk_185.2.2.2.1 h0 g → g.1 196 71 = n → P (some (.inl (Int32.ofInt 1)), g)) : ∀ (m j : Nat) (g : pH) (lv : List (Nat × pv)), j + m = 32 → J_ kk_185.2.2.2.1 h0 g → g.1 196 71 = n → px_lg lv 0 = some (.inr (.inr (some 196))) → px_lg lv 2 = some (.inl bits) → px_lg lv 3 = some (.inl (nI (cnt (fun i => bits.toBitVec.getLsbD i) j))) → px_lg lv 4 = some (.inl (nI j)) → t_X d 261 64 lv [] g P := by
  intro m
  induction m with
  | zero =>
    intro j g lv hj hJ hn l0 l2 l3 l4
    have hlt : ¬ nI j < (Int8.ofInt (32)).toInt32 := by
      rw [show j = 32 by omega]
      decide +kernel
    refine t_0 qs_64 rfl (ld_i l4) ?_
    refine t_0 qs_66 rfl rfl ?_
    refine t_1 qs_68 rfl (pc_ge_t (pc := 68) (by decide) hlt) ?_
    refine t_0 qs_101 rfl rfl ?_
    refine t_5 qs_102 rfl rfl ?_
    exact h1 g hJ hn
  | succ m ih =>
    intro j g lv hj hJ hn l0 l2 l3 l4
    have hlt : nI j < (Int8.ofInt (32)).toInt32 := by
      have : ∀ j, j < 32 → nI j < (Int8.ofInt (32)).toInt32 := by decide +kernel
      exact this j (by omega)
    have hc1 : cnt (fun i => bits.toBitVec.getLsbD i) (j + 1) ≤ cnt (fun i => bits.toBitVec.getLsbD i) 32 := cnt_le (by omega)
    have hc2 : cnt (fun i => bits.toBitVec.getLsbD i) (j + 1) = cnt (fun i => bits.toBitVec.getLsbD i) j + (if bits.toBitVec.getLsbD j then 1 else 0) := rfl
    have ih := fun g lv => ih (j + 1) g lv (by omega)
    generalize hce : cnt (fun i => bits.toBitVec.getLsbD i) j = c at l3 hc2
    have hr := gI_r (r := 238) hJ.1 el_196 (Nat.le_of_ble_eq_true rfl) (y := 68) rfl eg_f68
    refine t_0 qs_64 rfl (ld_i l4) ?_
    refine t_0 qs_66 rfl rfl ?_
    refine t_1 qs_68 rfl (pc_ge_f (pc := 68) (by decide) hlt) ?_
    show t_X d 261 71 lv [] g P
    refine t_0 qs_71 rfl (ld_i l2) ?_
    refine t_0 qs_72 rfl (ld_i l4) ?_
    refine t_3 qs_74 rfl (ar := ([.inl bits, .inl (nI j)], [])) (pcal_s ⟨Or.inl rfl, rfl, Nat.le_of_ble_eq_true rfl⟩) ⟨by omega, Nat.le_of_ble_eq_true rfl, Nat.le_of_ble_eq_true rfl, rfl⟩ ?_
    refine has_run (fun hb => ?_) (fun hb => ?_)
    · have hb2 := (bt_has (by omega)).mp hb
      rw [if_pos hb2] at hc2
      have hcl : ¬ (nI c < 0 ∨ 12 ≤ (nI c).toNatClampNeg) := e_clamp (by rw [nI_toInt (by omega)]; omega) (by rw [nI_toInt (by omega)]; omega)
      show t_X d 261 77 lv [.inl (Int32.ofInt 1)] g P
      refine t_1 qs_77 rfl (pb_ne_t (pc := 77) (by decide) i1_n) ?_
      show t_X d 261 83 lv [] g P
      refine t_0 qs_83 rfl (ld_a l0) ?_
      refine t_0 qs_84 rfl (pget el_196 hr) ?_
      refine t_0 qs_87 rfl (ld_i l3) ?_
      refine t_0 qs_88 rfl (ld_i l4) ?_
      refine t_4 qs_90 rfl (piast el_238 hcl) ?_
      show t_X d 261 91 lv [] (g.1, g.2.1, g.2.2.1, pu g.2.2.2.1 238 (nI c).toNatClampNeg (nI j), g.2.2.2.2) P
      refine t_0 qs_91 rfl (ld_i l3) ?_
      refine t_0 qs_92 rfl rfl ?_
      refine t_0 qs_93 rfl rfl ?_
      refine t_2 qs_94 rfl (w := (px_s1 lv 3 (.inl ((nI c) + (Int32.ofInt (1)))), [])) rfl ?_
      replace l0 : px_lg (px_s1 lv 3 (.inl ((nI c) + (Int32.ofInt (1))))) 0 = some (.inr (.inr (some 196))) := s1_ne (by decide) (fun _ => rfl) l0
      replace l2 : px_lg (px_s1 lv 3 (.inl ((nI c) + (Int32.ofInt (1))))) 2 = some (.inl (bits)) := s1_ne (by decide) (fun _ => rfl) l2
      replace l4 : px_lg (px_s1 lv 3 (.inl ((nI c) + (Int32.ofInt (1))))) 4 = some (.inl (nI j)) := s1_ne (by decide) (fun _ => rfl) l4
      have l3 : px_lg (px_s1 lv 3 (.inl ((nI c) + (Int32.ofInt (1))))) 3 = some (.inl ((nI c) + (Int32.ofInt (1)))) := s1_eq
      generalize px_s1 lv 3 (.inl ((nI c) + (Int32.ofInt (1)))) = lv1 at l0 l2 l4 l3 ⊢
      show t_X d 261 95 lv1 [] (g.1, g.2.1, g.2.2.1, pu g.2.2.2.1 238 (nI c).toNatClampNeg (nI j), g.2.2.2.2) P
      refine t_2 qs_95 rfl (w := (px_s1 lv1 4 (.inl ((nI j) + Int32.ofInt (1))), [])) (pinc l4 (by decide)) ?_
      replace l0 : px_lg (px_s1 lv1 4 (.inl ((nI j) + Int32.ofInt (1)))) 0 = some (.inr (.inr (some 196))) := s1_ne (by decide) (fun _ => rfl) l0
      replace l2 : px_lg (px_s1 lv1 4 (.inl ((nI j) + Int32.ofInt (1)))) 2 = some (.inl (bits)) := s1_ne (by decide) (fun _ => rfl) l2
      replace l3 : px_lg (px_s1 lv1 4 (.inl ((nI j) + Int32.ofInt (1)))) 3 = some (.inl ((nI c) + (Int32.ofInt (1)))) := s1_ne (by decide) (fun _ => rfl) l3
      have l4 : px_lg (px_s1 lv1 4 (.inl ((nI j) + Int32.ofInt (1)))) 4 = some (.inl ((nI j) + Int32.ofInt (1))) := s1_eq
      generalize px_s1 lv1 4 (.inl ((nI j) + Int32.ofInt (1))) = lv2 at l0 l2 l3 l4 ⊢
      show t_X d 261 98 lv2 [] (g.1, g.2.1, g.2.2.1, pu g.2.2.2.1 238 (nI c).toNatClampNeg (nI j), g.2.2.2.2) P
      refine t_1 qs_98 rfl (pb_goto (pc := 98) (by decide)) ?_
      show t_X d 261 64 lv2 [] (g.1, g.2.1, g.2.2.1, pu g.2.2.2.1 238 (nI c).toNatClampNeg (nI j), g.2.2.2.2) P
      rw [j_inc (by omega)] at l3 l4
      refine ih _ _ (J_ia hJ el_238 eg_m5 ?_) hn l0 l2 ?_ l4
      · rw [eg_a238, nI_toInt (by omega)]
        exact ⟨by show (0 : Int) ≤ j; omega, by show (j : Int) ≤ 31; omega, Or.inl rfl⟩
      · rw [hc2]
        exact l3
    · have hb2 : ¬ bits.toBitVec.getLsbD j = true := fun z => hb ((bt_has (by omega)).mpr z)
      rw [if_neg hb2, Nat.add_zero] at hc2
      show t_X d 261 77 lv [.inl (Int32.ofInt 0)] g P
      refine t_1 qs_77 rfl (pb_ne_f (pc := 77) (by decide) i0_0) ?_
      show t_X d 261 80 lv [] g P
      refine t_1 qs_80 rfl (pb_goto (pc := 80) (by decide)) ?_
      show t_X d 261 95 lv [] g P
      refine t_2 qs_95 rfl (w := (px_s1 lv 4 (.inl ((nI j) + Int32.ofInt (1))), [])) (pinc l4 (by decide)) ?_
      replace l0 : px_lg (px_s1 lv 4 (.inl ((nI j) + Int32.ofInt (1)))) 0 = some (.inr (.inr (some 196))) := s1_ne (by decide) (fun _ => rfl) l0
      replace l2 : px_lg (px_s1 lv 4 (.inl ((nI j) + Int32.ofInt (1)))) 2 = some (.inl (bits)) := s1_ne (by decide) (fun _ => rfl) l2
      replace l3 : px_lg (px_s1 lv 4 (.inl ((nI j) + Int32.ofInt (1)))) 3 = some (.inl (nI c)) := s1_ne (by decide) (fun _ => rfl) l3
      have l4 : px_lg (px_s1 lv 4 (.inl ((nI j) + Int32.ofInt (1)))) 4 = some (.inl ((nI j) + Int32.ofInt (1))) := s1_eq
      generalize px_s1 lv 4 (.inl ((nI j) + Int32.ofInt (1))) = lv1 at l0 l2 l3 l4 ⊢
      show t_X d 261 98 lv1 [] g P
      refine t_1 qs_98 rfl (pb_goto (pc := 98) (by decide)) ?_
      show t_X d 261 64 lv1 [] g P
      rw [j_inc (by omega)] at l4
      refine ih _ _ hJ hn l0 l2 ?_ l4
      rw [hc2]
      exact l3
set_option maxHeartbeats 4000000 in
theorem ts_run {d : Nat} (hd : 4 ≤ d) {h : pH} {n : Int32} {lv : List (Nat × pv)} (hG : g_I eG h) (hn : 2 ≤ n.toInt ∧ n.toInt ≤ 12) (l0 : px_lg lv 0 = some (.inr (.inr (some 196)))) (l1 : px_lg lv 1 = some (.inl n)) {P : Option pv × pH → Prop} (h0 : ∀ g : pH, J_ kk_185.2.2.2.1 h g → P (some (.inl (Int32.ofInt 0)), g)) (h1 : ∀ g : pH, J_ kk_185.2.2.2.1 h g → g.1 196 71 = n → P (some (.inl (Int32.ofInt 1)), g)) : t_X d 261 0 lv [] h P := by
  have hJ : J_ kk_185.2.2.2.1 h (pu h.1 196 71 n, h.2) := J_puti ⟨hG, f_M_rf _ _⟩ el_196 rfl eg_n5 (by rw [eg_f71]; exact ⟨by show (0 : Int) ≤ _; omega, hn.2, Or.inl rfl⟩)
  refine t_0 qs_0 rfl (ld_a l0) ?_
  refine t_0 qs_1 rfl (ld_i l1) ?_
  refine t_4 qs_2 rfl (pputi el_196 rfl) ?_
  show t_X d 261 5 lv [] (pu h.1 196 71 n, h.2) P
  refine t_0 qs_5 rfl rfl ?_
  refine t_2 qs_6 rfl (w := (px_s1 lv 2 (.inl (Int32.ofInt (0))), [])) rfl ?_
  replace l0 : px_lg (px_s1 lv 2 (.inl (Int32.ofInt (0)))) 0 = some (.inr (.inr (some 196))) := s1_ne (by decide) (fun _ => rfl) l0
  replace l1 : px_lg (px_s1 lv 2 (.inl (Int32.ofInt (0)))) 1 = some (.inl (n)) := s1_ne (by decide) (fun _ => rfl) l1
  have l2 : px_lg (px_s1 lv 2 (.inl (Int32.ofInt (0)))) 2 = some (.inl (Int32.ofInt (0))) := s1_eq
  generalize px_s1 lv 2 (.inl (Int32.ofInt (0))) = lv1 at l0 l1 l2 ⊢
  show t_X d 261 7 lv1 [] (pu h.1 196 71 n, h.2) P
  refine t_0 qs_7 rfl rfl ?_
  refine t_2 qs_8 rfl (w := (px_s1 lv1 3 (.inl (Int32.ofInt (0))), [])) rfl ?_
  replace l0 : px_lg (px_s1 lv1 3 (.inl (Int32.ofInt (0)))) 0 = some (.inr (.inr (some 196))) := s1_ne (by decide) (fun _ => rfl) l0
  replace l1 : px_lg (px_s1 lv1 3 (.inl (Int32.ofInt (0)))) 1 = some (.inl (n)) := s1_ne (by decide) (fun _ => rfl) l1
  replace l2 : px_lg (px_s1 lv1 3 (.inl (Int32.ofInt (0)))) 2 = some (.inl (Int32.ofInt (0))) := s1_ne (by decide) (fun _ => rfl) l2
  have l3 : px_lg (px_s1 lv1 3 (.inl (Int32.ofInt (0)))) 3 = some (.inl (Int32.ofInt (0))) := s1_eq
  generalize px_s1 lv1 3 (.inl (Int32.ofInt (0))) = lv2 at l0 l1 l2 l3 ⊢
  show t_X d 261 9 lv2 [] (pu h.1 196 71 n, h.2) P
  refine ts_1 (by omega) ⟨by omega, hn.2⟩ (gI_r hJ.1 el_196 (Nat.le_of_ble_eq_true rfl) rfl eg_f16) (h0 _ hJ) (fun lv9 bits hc l0 l2 => ?_) n.toInt.toNat 0 (Int32.ofInt 0) _ (by omega) l0 l1 l2 l3 ?_
  · have hc2 : cnt (fun i => bits.toBitVec.getLsbD i) 32 ≤ 12 := by omega
    refine t_0 qs_59 rfl rfl ?_
    refine t_2 qs_60 rfl (w := (px_s1 lv9 3 (.inl (Int32.ofInt (0))), [])) rfl ?_
    replace l0 : px_lg (px_s1 lv9 3 (.inl (Int32.ofInt (0)))) 0 = some (.inr (.inr (some 196))) := s1_ne (by decide) (fun _ => rfl) l0
    replace l2 : px_lg (px_s1 lv9 3 (.inl (Int32.ofInt (0)))) 2 = some (.inl (bits)) := s1_ne (by decide) (fun _ => rfl) l2
    have l3 : px_lg (px_s1 lv9 3 (.inl (Int32.ofInt (0)))) 3 = some (.inl (Int32.ofInt (0))) := s1_eq
    generalize px_s1 lv9 3 (.inl (Int32.ofInt (0))) = lv10 at l0 l2 l3 ⊢
    show t_X d 261 61 lv10 [] (pu h.1 196 71 n, h.2) P
    refine t_0 qs_61 rfl rfl ?_
    refine t_2 qs_62 rfl (w := (px_s1 lv10 4 (.inl (Int32.ofInt (0))), [])) rfl ?_
    replace l0 : px_lg (px_s1 lv10 4 (.inl (Int32.ofInt (0)))) 0 = some (.inr (.inr (some 196))) := s1_ne (by decide) (fun _ => rfl) l0
    replace l2 : px_lg (px_s1 lv10 4 (.inl (Int32.ofInt (0)))) 2 = some (.inl (bits)) := s1_ne (by decide) (fun _ => rfl) l2
    replace l3 : px_lg (px_s1 lv10 4 (.inl (Int32.ofInt (0)))) 3 = some (.inl (Int32.ofInt (0))) := s1_ne (by decide) (fun _ => rfl) l3
    have l4 : px_lg (px_s1 lv10 4 (.inl (Int32.ofInt (0)))) 4 = some (.inl (Int32.ofInt (0))) := s1_eq
    generalize px_s1 lv10 4 (.inl (Int32.ofInt (0))) = lv11 at l0 l2 l3 l4 ⊢
    show t_X d 261 64 lv11 [] (pu h.1 196 71 n, h.2) P
    exact ts_2 (by omega) hc2 h1 32 0 _ _ rfl hJ (by show pu h.1 196 71 n 196 71 = n; exact pu_at _ _ _ _) l0 l2 l3 l4
  · rw [cnt_z (fun i hi => by
      show (Int32.ofInt 0).toBitVec.getLsbD i = false
      rw [show (Int32.ofInt 0).toBitVec = 0#32 by decide]
      exact BitVec.getLsbD_zero)]
    exact Nat.le_refl _
theorem ct_2 {v : pv} (h : ct v = 2) : ∃ x, v = .inr (.inr x) := by
  rcases v with x | x | x
  · cases h
  · cases h
  · exact ⟨x, rfl⟩
theorem cv_r {x : Option Nat} {r : Nat} {lo hi : Int} (h : ok_v (cv (.inr (.inr x))) (lo, hi, [r + 1])) : x = some r := by
  have h2 := h.2.2
  rcases h2 with h2 | h2
  · cases h2
  · have h2 := List.mem_singleton.mp h2
    cases x with
    | none => cases h2
    | some q =>
      have h3 : ((q : Int) + 1).toNat = r + 1 := h2
      rw [show q = r by omega]
theorem h_185 {X : pH → Prop} (hX : x_K X eDX) (d : Nat) : k_S eG X kk_185 d := by
  intro vs h xs ys m hG hx hM _ _ _
  obtain ⟨hd4, hL, hF, -⟩ := hM
  have e9 := m_F_nil hF
  subst e9
  obtain ⟨x0, ys0, rfl, ⟨v0, a1, a2, a3, a4⟩, hL⟩ := m_L_cons hL
  obtain ⟨x1, ys1, rfl, ⟨v1, b1, b2, b3, b4⟩, hL⟩ := m_L_cons hL
  have e9 := m_L_nil hL
  subst e9
  obtain ⟨q, rfl⟩ := ct_2 a2
  obtain ⟨n, rfl⟩ := ct_0 b2
  subst a3 b3
  have eq := cv_r a4
  subst eq
  have b5 : 2 ≤ n.toInt := b4.1
  have b6 : n.toInt ≤ 12 := b4.2.1
  have hd5 : 4 ≤ d := hd4
  refine ts_run hd5 hG ⟨b5, b6⟩ a1 b1 (P := fun o => g_I eG o.2 ∧ X o.2 ∧ f_M kk_185.2.2.2.1 h o.2 ∧ ∃ p ∈ kk_185.2.2.2.2, ∃ zs, m_P p ((d : Int) :: ([cv (.inr (.inr (some 196))), cv (.inl n)] ++ [])) o.1 o.2 zs) (fun g hg => ⟨hg.1, hX _ _ _ hg.2 eg_dx5 hx, hg.2, _, List.mem_cons_self .., [0], ⟨.inl (Int32.ofInt 0), 0, [], rfl, ⟨rfl, rfl, by decide, by decide, Or.inl rfl⟩, rfl, trivial⟩, fun c hc => by cases hc⟩) (fun g hg hgn => ⟨hg.1, hX _ _ _ hg.2 eg_dx5 hx, hg.2, _, List.mem_cons_of_mem _ (List.mem_cons_self ..), [1, n.toInt], ⟨.inl (Int32.ofInt 1), 1, [n.toInt], rfl, ⟨rfl, rfl, by decide, by decide, Or.inl rfl⟩, rfl, ⟨.inl n, ?_, rfl, rfl, b5, b6, Or.inl rfl⟩, trivial⟩, fun c hc => by cases hc⟩)
  show (match eL[196]? with
    | some t => _
    | none => none) = _
  rw [el_196]
  show (if 71 < pnf 12 then some (pF g 12 196 71) else none) = _
  rw [if_pos (show 71 < pnf 12 from Nat.le_of_ble_eq_true rfl), pFi rfl, hgn]
end
