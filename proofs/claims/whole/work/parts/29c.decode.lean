theorem d_Mo_forge_68 : decode b_Mo_forge 68 = .ok (.iload 5, 2) := by decide +kernel
theorem d_Mo_forge_70 : decode b_Mo_forge 70 = .ok (.iconst 4, 1) := by decide +kernel
theorem d_Mo_forge_71 : decode b_Mo_forge 71 = .ok (.irem, 1) := by decide +kernel
theorem d_Mo_forge_72 : decode b_Mo_forge 72 = .ok (.invokevirtual 82, 3) := by decide +kernel
theorem d_Mo_forge_75 : decode b_Mo_forge 75 = .ok (.istore 6, 2) := by decide +kernel
theorem d_Mo_forge_77 : decode b_Mo_forge 77 = .ok (.aload_n 0, 1) := by decide +kernel
theorem d_Mo_forge_78 : decode b_Mo_forge 78 = .ok (.iload_n 2, 1) := by decide +kernel
theorem d_Mo_forge_79 : decode b_Mo_forge 79 = .ok (.invokevirtual 118, 3) := by decide +kernel
theorem d_Mo_forge_82 : decode b_Mo_forge 82 = .ok (.iload 6, 2) := by decide +kernel
theorem d_Mo_forge_84 : decode b_Mo_forge 84 = .ok (.ireturn, 1) := by decide +kernel
