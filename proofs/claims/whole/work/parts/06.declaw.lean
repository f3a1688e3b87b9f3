theorem d_law_factory_0 : decode b_law_factory 0 = .ok (.aload_n 2, 1) := by decide +kernel
theorem d_law_factory_1 : decode b_law_factory 1 = .ok (.iconst 0, 1) := by decide +kernel
theorem d_law_factory_2 : decode b_law_factory 2 = .ok (.aload_n 0, 1) := by decide +kernel
theorem d_law_factory_3 : decode b_law_factory 3 = .ok (.iload_n 1, 1) := by decide +kernel
theorem d_law_factory_4 : decode b_law_factory 4 = .ok (.invokevirtual 7, 3) := by decide +kernel
theorem d_law_factory_7 : decode b_law_factory 7 = .ok (.i2l, 1) := by decide +kernel
theorem d_law_factory_8 : decode b_law_factory 8 = .ok (.lastore, 1) := by decide +kernel
theorem d_law_factory_9 : decode b_law_factory 9 = .ok (.goto 12, 3) := by decide +kernel
theorem d_law_factory_12 : decode b_law_factory 12 = .ok (.astore_n 3, 1) := by decide +kernel
theorem d_law_factory_13 : decode b_law_factory 13 = .ok (.iconst 1, 1) := by decide +kernel
theorem d_law_factory_14 : decode b_law_factory 14 = .ok (.ireturn, 1) := by decide +kernel
theorem d_law_factory_15 : decode b_law_factory 15 = .ok (.astore_n 3, 1) := by decide +kernel
theorem d_law_factory_16 : decode b_law_factory 16 = .ok (.iconst 2, 1) := by decide +kernel
theorem d_law_factory_17 : decode b_law_factory 17 = .ok (.ireturn, 1) := by decide +kernel
theorem d_law_factory_18 : decode b_law_factory 18 = .ok (.astore_n 3, 1) := by decide +kernel
theorem d_law_factory_19 : decode b_law_factory 19 = .ok (.iconst 3, 1) := by decide +kernel
theorem d_law_factory_20 : decode b_law_factory 20 = .ok (.ireturn, 1) := by decide +kernel
theorem d_law_factory_21 : decode b_law_factory 21 = .ok (.iconst 0, 1) := by decide +kernel
theorem d_law_factory_22 : decode b_law_factory 22 = .ok (.ireturn, 1) := by decide +kernel
theorem d_law_format_0 : decode b_law_format 0 = .ok (.aload_n 1, 1) := by decide +kernel
theorem d_law_format_1 : decode b_law_format 1 = .ok (.iconst 0, 1) := by decide +kernel
theorem d_law_format_2 : decode b_law_format 2 = .ok (.aload_n 0, 1) := by decide +kernel
theorem d_law_format_3 : decode b_law_format 3 = .ok (.invokevirtual 19, 3) := by decide +kernel
theorem d_law_format_6 : decode b_law_format 6 = .ok (.i2l, 1) := by decide +kernel
theorem d_law_format_7 : decode b_law_format 7 = .ok (.lastore, 1) := by decide +kernel
theorem d_law_format_8 : decode b_law_format 8 = .ok (.goto 6, 3) := by decide +kernel
theorem d_law_format_11 : decode b_law_format 11 = .ok (.astore_n 2, 1) := by decide +kernel
theorem d_law_format_12 : decode b_law_format 12 = .ok (.iconst 1, 1) := by decide +kernel
theorem d_law_format_13 : decode b_law_format 13 = .ok (.ireturn, 1) := by decide +kernel
theorem d_law_format_14 : decode b_law_format 14 = .ok (.iconst 0, 1) := by decide +kernel
theorem d_law_format_15 : decode b_law_format 15 = .ok (.ireturn, 1) := by decide +kernel
theorem d_law_write_0 : decode b_law_write 0 = .ok (.aload 4, 2) := by decide +kernel
theorem d_law_write_2 : decode b_law_write 2 = .ok (.iconst 0, 1) := by decide +kernel
theorem d_law_write_3 : decode b_law_write 3 = .ok (.aload_n 0, 1) := by decide +kernel
theorem d_law_write_4 : decode b_law_write 4 = .ok (.iload_n 1, 1) := by decide +kernel
theorem d_law_write_5 : decode b_law_write 5 = .ok (.iload_n 2, 1) := by decide +kernel
theorem d_law_write_6 : decode b_law_write 6 = .ok (.iload_n 3, 1) := by decide +kernel
theorem d_law_write_7 : decode b_law_write 7 = .ok (.invokevirtual 23, 3) := by decide +kernel
theorem d_law_write_10 : decode b_law_write 10 = .ok (.i2l, 1) := by decide +kernel
theorem d_law_write_11 : decode b_law_write 11 = .ok (.lastore, 1) := by decide +kernel
theorem d_law_write_12 : decode b_law_write 12 = .ok (.goto 7, 3) := by decide +kernel
theorem d_law_write_15 : decode b_law_write 15 = .ok (.astore 5, 2) := by decide +kernel
theorem d_law_write_17 : decode b_law_write 17 = .ok (.iconst 1, 1) := by decide +kernel
theorem d_law_write_18 : decode b_law_write 18 = .ok (.ireturn, 1) := by decide +kernel
theorem d_law_write_19 : decode b_law_write 19 = .ok (.iconst 0, 1) := by decide +kernel
theorem d_law_write_20 : decode b_law_write 20 = .ok (.ireturn, 1) := by decide +kernel
theorem d_law_read_0 : decode b_law_read 0 = .ok (.aload_n 3, 1) := by decide +kernel
theorem d_law_read_1 : decode b_law_read 1 = .ok (.iconst 0, 1) := by decide +kernel
theorem d_law_read_2 : decode b_law_read 2 = .ok (.aload_n 0, 1) := by decide +kernel
theorem d_law_read_3 : decode b_law_read 3 = .ok (.iload_n 1, 1) := by decide +kernel
theorem d_law_read_4 : decode b_law_read 4 = .ok (.iload_n 2, 1) := by decide +kernel
theorem d_law_read_5 : decode b_law_read 5 = .ok (.invokevirtual 27, 3) := by decide +kernel
theorem d_law_read_8 : decode b_law_read 8 = .ok (.i2l, 1) := by decide +kernel
theorem d_law_read_9 : decode b_law_read 9 = .ok (.lastore, 1) := by decide +kernel
theorem d_law_read_10 : decode b_law_read 10 = .ok (.goto 19, 3) := by decide +kernel
theorem d_law_read_13 : decode b_law_read 13 = .ok (.astore 4, 2) := by decide +kernel
theorem d_law_read_15 : decode b_law_read 15 = .ok (.iconst 1, 1) := by decide +kernel
theorem d_law_read_16 : decode b_law_read 16 = .ok (.ireturn, 1) := by decide +kernel
theorem d_law_read_17 : decode b_law_read 17 = .ok (.astore 4, 2) := by decide +kernel
theorem d_law_read_19 : decode b_law_read 19 = .ok (.iconst 2, 1) := by decide +kernel
theorem d_law_read_20 : decode b_law_read 20 = .ok (.ireturn, 1) := by decide +kernel
theorem d_law_read_21 : decode b_law_read 21 = .ok (.astore 4, 2) := by decide +kernel
theorem d_law_read_23 : decode b_law_read 23 = .ok (.iconst 3, 1) := by decide +kernel
theorem d_law_read_24 : decode b_law_read 24 = .ok (.ireturn, 1) := by decide +kernel
theorem d_law_read_25 : decode b_law_read 25 = .ok (.astore 4, 2) := by decide +kernel
theorem d_law_read_27 : decode b_law_read 27 = .ok (.iconst 4, 1) := by decide +kernel
theorem d_law_read_28 : decode b_law_read 28 = .ok (.ireturn, 1) := by decide +kernel
theorem d_law_read_29 : decode b_law_read 29 = .ok (.iconst 0, 1) := by decide +kernel
theorem d_law_read_30 : decode b_law_read 30 = .ok (.ireturn, 1) := by decide +kernel
theorem d_law_reassign_0 : decode b_law_reassign 0 = .ok (.aload_n 2, 1) := by decide +kernel
theorem d_law_reassign_1 : decode b_law_reassign 1 = .ok (.iconst 0, 1) := by decide +kernel
theorem d_law_reassign_2 : decode b_law_reassign 2 = .ok (.aload_n 0, 1) := by decide +kernel
theorem d_law_reassign_3 : decode b_law_reassign 3 = .ok (.iload_n 1, 1) := by decide +kernel
theorem d_law_reassign_4 : decode b_law_reassign 4 = .ok (.invokevirtual 35, 3) := by decide +kernel
theorem d_law_reassign_7 : decode b_law_reassign 7 = .ok (.i2l, 1) := by decide +kernel
theorem d_law_reassign_8 : decode b_law_reassign 8 = .ok (.lastore, 1) := by decide +kernel
theorem d_law_reassign_9 : decode b_law_reassign 9 = .ok (.goto 6, 3) := by decide +kernel
theorem d_law_reassign_12 : decode b_law_reassign 12 = .ok (.astore_n 3, 1) := by decide +kernel
theorem d_law_reassign_13 : decode b_law_reassign 13 = .ok (.iconst 1, 1) := by decide +kernel
theorem d_law_reassign_14 : decode b_law_reassign 14 = .ok (.ireturn, 1) := by decide +kernel
theorem d_law_reassign_15 : decode b_law_reassign 15 = .ok (.iconst 0, 1) := by decide +kernel
theorem d_law_reassign_16 : decode b_law_reassign 16 = .ok (.ireturn, 1) := by decide +kernel
theorem d_law_spoil_0 : decode b_law_spoil 0 = .ok (.aload_n 3, 1) := by decide +kernel
theorem d_law_spoil_1 : decode b_law_spoil 1 = .ok (.iconst 0, 1) := by decide +kernel
theorem d_law_spoil_2 : decode b_law_spoil 2 = .ok (.aload_n 0, 1) := by decide +kernel
theorem d_law_spoil_3 : decode b_law_spoil 3 = .ok (.iload_n 1, 1) := by decide +kernel
theorem d_law_spoil_4 : decode b_law_spoil 4 = .ok (.iload_n 2, 1) := by decide +kernel
theorem d_law_spoil_5 : decode b_law_spoil 5 = .ok (.invokevirtual 38, 3) := by decide +kernel
theorem d_law_spoil_8 : decode b_law_spoil 8 = .ok (.i2l, 1) := by decide +kernel
theorem d_law_spoil_9 : decode b_law_spoil 9 = .ok (.lastore, 1) := by decide +kernel
theorem d_law_spoil_10 : decode b_law_spoil 10 = .ok (.goto 11, 3) := by decide +kernel
theorem d_law_spoil_13 : decode b_law_spoil 13 = .ok (.astore 4, 2) := by decide +kernel
theorem d_law_spoil_15 : decode b_law_spoil 15 = .ok (.iconst 1, 1) := by decide +kernel
theorem d_law_spoil_16 : decode b_law_spoil 16 = .ok (.ireturn, 1) := by decide +kernel
theorem d_law_spoil_17 : decode b_law_spoil 17 = .ok (.astore 4, 2) := by decide +kernel
theorem d_law_spoil_19 : decode b_law_spoil 19 = .ok (.iconst 2, 1) := by decide +kernel
theorem d_law_spoil_20 : decode b_law_spoil 20 = .ok (.ireturn, 1) := by decide +kernel
theorem d_law_spoil_21 : decode b_law_spoil 21 = .ok (.iconst 0, 1) := by decide +kernel
theorem d_law_spoil_22 : decode b_law_spoil 22 = .ok (.ireturn, 1) := by decide +kernel
theorem d_law_cutAfter_0 : decode b_law_cutAfter 0 = .ok (.aload_n 2, 1) := by decide +kernel
theorem d_law_cutAfter_1 : decode b_law_cutAfter 1 = .ok (.iconst 0, 1) := by decide +kernel
theorem d_law_cutAfter_2 : decode b_law_cutAfter 2 = .ok (.aload_n 0, 1) := by decide +kernel
theorem d_law_cutAfter_3 : decode b_law_cutAfter 3 = .ok (.iload_n 1, 1) := by decide +kernel
theorem d_law_cutAfter_4 : decode b_law_cutAfter 4 = .ok (.invokevirtual 42, 3) := by decide +kernel
theorem d_law_cutAfter_7 : decode b_law_cutAfter 7 = .ok (.i2l, 1) := by decide +kernel
theorem d_law_cutAfter_8 : decode b_law_cutAfter 8 = .ok (.lastore, 1) := by decide +kernel
theorem d_law_cutAfter_9 : decode b_law_cutAfter 9 = .ok (.goto 6, 3) := by decide +kernel
theorem d_law_cutAfter_12 : decode b_law_cutAfter 12 = .ok (.astore_n 3, 1) := by decide +kernel
theorem d_law_cutAfter_13 : decode b_law_cutAfter 13 = .ok (.iconst 1, 1) := by decide +kernel
theorem d_law_cutAfter_14 : decode b_law_cutAfter 14 = .ok (.ireturn, 1) := by decide +kernel
theorem d_law_cutAfter_15 : decode b_law_cutAfter 15 = .ok (.iconst 0, 1) := by decide +kernel
theorem d_law_cutAfter_16 : decode b_law_cutAfter 16 = .ok (.ireturn, 1) := by decide +kernel
theorem d_law_physical_0 : decode b_law_physical 0 = .ok (.aload_n 2, 1) := by decide +kernel
theorem d_law_physical_1 : decode b_law_physical 1 = .ok (.iconst 0, 1) := by decide +kernel
theorem d_law_physical_2 : decode b_law_physical 2 = .ok (.aload_n 0, 1) := by decide +kernel
theorem d_law_physical_3 : decode b_law_physical 3 = .ok (.iload_n 1, 1) := by decide +kernel
theorem d_law_physical_4 : decode b_law_physical 4 = .ok (.invokevirtual 45, 3) := by decide +kernel
theorem d_law_physical_7 : decode b_law_physical 7 = .ok (.i2l, 1) := by decide +kernel
theorem d_law_physical_8 : decode b_law_physical 8 = .ok (.lastore, 1) := by decide +kernel
theorem d_law_physical_9 : decode b_law_physical 9 = .ok (.goto 6, 3) := by decide +kernel
theorem d_law_physical_12 : decode b_law_physical 12 = .ok (.astore_n 3, 1) := by decide +kernel
theorem d_law_physical_13 : decode b_law_physical 13 = .ok (.iconst 1, 1) := by decide +kernel
theorem d_law_physical_14 : decode b_law_physical 14 = .ok (.ireturn, 1) := by decide +kernel
theorem d_law_physical_15 : decode b_law_physical 15 = .ok (.iconst 0, 1) := by decide +kernel
theorem d_law_physical_16 : decode b_law_physical 16 = .ok (.ireturn, 1) := by decide +kernel
theorem d_law_logical_0 : decode b_law_logical 0 = .ok (.aload_n 2, 1) := by decide +kernel
theorem d_law_logical_1 : decode b_law_logical 1 = .ok (.iconst 0, 1) := by decide +kernel
theorem d_law_logical_2 : decode b_law_logical 2 = .ok (.aload_n 0, 1) := by decide +kernel
theorem d_law_logical_3 : decode b_law_logical 3 = .ok (.iload_n 1, 1) := by decide +kernel
theorem d_law_logical_4 : decode b_law_logical 4 = .ok (.invokevirtual 48, 3) := by decide +kernel
theorem d_law_logical_7 : decode b_law_logical 7 = .ok (.i2l, 1) := by decide +kernel
theorem d_law_logical_8 : decode b_law_logical 8 = .ok (.lastore, 1) := by decide +kernel
theorem d_law_logical_9 : decode b_law_logical 9 = .ok (.goto 6, 3) := by decide +kernel
theorem d_law_logical_12 : decode b_law_logical 12 = .ok (.astore_n 3, 1) := by decide +kernel
theorem d_law_logical_13 : decode b_law_logical 13 = .ok (.iconst 1, 1) := by decide +kernel
theorem d_law_logical_14 : decode b_law_logical 14 = .ok (.ireturn, 1) := by decide +kernel
theorem d_law_logical_15 : decode b_law_logical 15 = .ok (.iconst 0, 1) := by decide +kernel
theorem d_law_logical_16 : decode b_law_logical 16 = .ok (.ireturn, 1) := by decide +kernel
theorem d_law_spares_0 : decode b_law_spares 0 = .ok (.aload_n 2, 1) := by decide +kernel
theorem d_law_spares_1 : decode b_law_spares 1 = .ok (.iconst 0, 1) := by decide +kernel
theorem d_law_spares_2 : decode b_law_spares 2 = .ok (.aload_n 0, 1) := by decide +kernel
theorem d_law_spares_3 : decode b_law_spares 3 = .ok (.iload_n 1, 1) := by decide +kernel
theorem d_law_spares_4 : decode b_law_spares 4 = .ok (.invokevirtual 51, 3) := by decide +kernel
theorem d_law_spares_7 : decode b_law_spares 7 = .ok (.i2l, 1) := by decide +kernel
theorem d_law_spares_8 : decode b_law_spares 8 = .ok (.lastore, 1) := by decide +kernel
theorem d_law_spares_9 : decode b_law_spares 9 = .ok (.goto 6, 3) := by decide +kernel
theorem d_law_spares_12 : decode b_law_spares 12 = .ok (.astore_n 3, 1) := by decide +kernel
theorem d_law_spares_13 : decode b_law_spares 13 = .ok (.iconst 1, 1) := by decide +kernel
theorem d_law_spares_14 : decode b_law_spares 14 = .ok (.ireturn, 1) := by decide +kernel
theorem d_law_spares_15 : decode b_law_spares 15 = .ok (.iconst 0, 1) := by decide +kernel
theorem d_law_spares_16 : decode b_law_spares 16 = .ok (.ireturn, 1) := by decide +kernel
theorem d_law_grown_0 : decode b_law_grown 0 = .ok (.aload_n 3, 1) := by decide +kernel
theorem d_law_grown_1 : decode b_law_grown 1 = .ok (.iconst 0, 1) := by decide +kernel
theorem d_law_grown_2 : decode b_law_grown 2 = .ok (.aload_n 0, 1) := by decide +kernel
theorem d_law_grown_3 : decode b_law_grown 3 = .ok (.iload_n 1, 1) := by decide +kernel
theorem d_law_grown_4 : decode b_law_grown 4 = .ok (.iload_n 2, 1) := by decide +kernel
theorem d_law_grown_5 : decode b_law_grown 5 = .ok (.invokevirtual 54, 3) := by decide +kernel
theorem d_law_grown_8 : decode b_law_grown 8 = .ok (.i2l, 1) := by decide +kernel
theorem d_law_grown_9 : decode b_law_grown 9 = .ok (.lastore, 1) := by decide +kernel
theorem d_law_grown_10 : decode b_law_grown 10 = .ok (.goto 7, 3) := by decide +kernel
theorem d_law_grown_13 : decode b_law_grown 13 = .ok (.astore 4, 2) := by decide +kernel
theorem d_law_grown_15 : decode b_law_grown 15 = .ok (.iconst 1, 1) := by decide +kernel
theorem d_law_grown_16 : decode b_law_grown 16 = .ok (.ireturn, 1) := by decide +kernel
theorem d_law_grown_17 : decode b_law_grown 17 = .ok (.iconst 0, 1) := by decide +kernel
theorem d_law_grown_18 : decode b_law_grown 18 = .ok (.ireturn, 1) := by decide +kernel
theorem d_law_primary_0 : decode b_law_primary 0 = .ok (.aload_n 2, 1) := by decide +kernel
theorem d_law_primary_1 : decode b_law_primary 1 = .ok (.iconst 0, 1) := by decide +kernel
theorem d_law_primary_2 : decode b_law_primary 2 = .ok (.aload_n 0, 1) := by decide +kernel
theorem d_law_primary_3 : decode b_law_primary 3 = .ok (.iload_n 1, 1) := by decide +kernel
theorem d_law_primary_4 : decode b_law_primary 4 = .ok (.invokevirtual 57, 3) := by decide +kernel
theorem d_law_primary_7 : decode b_law_primary 7 = .ok (.i2l, 1) := by decide +kernel
theorem d_law_primary_8 : decode b_law_primary 8 = .ok (.lastore, 1) := by decide +kernel
theorem d_law_primary_9 : decode b_law_primary 9 = .ok (.goto 6, 3) := by decide +kernel
theorem d_law_primary_12 : decode b_law_primary 12 = .ok (.astore_n 3, 1) := by decide +kernel
theorem d_law_primary_13 : decode b_law_primary 13 = .ok (.iconst 1, 1) := by decide +kernel
theorem d_law_primary_14 : decode b_law_primary 14 = .ok (.ireturn, 1) := by decide +kernel
theorem d_law_primary_15 : decode b_law_primary 15 = .ok (.iconst 0, 1) := by decide +kernel
theorem d_law_primary_16 : decode b_law_primary 16 = .ok (.ireturn, 1) := by decide +kernel
theorem d_law_seeks_0 : decode b_law_seeks 0 = .ok (.aload_n 3, 1) := by decide +kernel
theorem d_law_seeks_1 : decode b_law_seeks 1 = .ok (.iconst 0, 1) := by decide +kernel
theorem d_law_seeks_2 : decode b_law_seeks 2 = .ok (.aload_n 0, 1) := by decide +kernel
theorem d_law_seeks_3 : decode b_law_seeks 3 = .ok (.iload_n 1, 1) := by decide +kernel
theorem d_law_seeks_4 : decode b_law_seeks 4 = .ok (.iload_n 2, 1) := by decide +kernel
theorem d_law_seeks_5 : decode b_law_seeks 5 = .ok (.invokevirtual 60, 3) := by decide +kernel
theorem d_law_seeks_8 : decode b_law_seeks 8 = .ok (.i2l, 1) := by decide +kernel
theorem d_law_seeks_9 : decode b_law_seeks 9 = .ok (.lastore, 1) := by decide +kernel
theorem d_law_seeks_10 : decode b_law_seeks 10 = .ok (.goto 7, 3) := by decide +kernel
theorem d_law_seeks_13 : decode b_law_seeks 13 = .ok (.astore 4, 2) := by decide +kernel
theorem d_law_seeks_15 : decode b_law_seeks 15 = .ok (.iconst 1, 1) := by decide +kernel
theorem d_law_seeks_16 : decode b_law_seeks 16 = .ok (.ireturn, 1) := by decide +kernel
theorem d_law_seeks_17 : decode b_law_seeks 17 = .ok (.iconst 0, 1) := by decide +kernel
theorem d_law_seeks_18 : decode b_law_seeks 18 = .ok (.ireturn, 1) := by decide +kernel
theorem d_law_state_0 : decode b_law_state 0 = .ok (.aload_n 2, 1) := by decide +kernel
theorem d_law_state_1 : decode b_law_state 1 = .ok (.iconst 0, 1) := by decide +kernel
theorem d_law_state_2 : decode b_law_state 2 = .ok (.aload_n 0, 1) := by decide +kernel
theorem d_law_state_3 : decode b_law_state 3 = .ok (.iload_n 1, 1) := by decide +kernel
theorem d_law_state_4 : decode b_law_state 4 = .ok (.invokevirtual 63, 3) := by decide +kernel
theorem d_law_state_7 : decode b_law_state 7 = .ok (.i2l, 1) := by decide +kernel
theorem d_law_state_8 : decode b_law_state 8 = .ok (.lastore, 1) := by decide +kernel
theorem d_law_state_9 : decode b_law_state 9 = .ok (.goto 6, 3) := by decide +kernel
theorem d_law_state_12 : decode b_law_state 12 = .ok (.astore_n 3, 1) := by decide +kernel
theorem d_law_state_13 : decode b_law_state 13 = .ok (.iconst 1, 1) := by decide +kernel
theorem d_law_state_14 : decode b_law_state 14 = .ok (.ireturn, 1) := by decide +kernel
theorem d_law_state_15 : decode b_law_state 15 = .ok (.iconst 0, 1) := by decide +kernel
theorem d_law_state_16 : decode b_law_state 16 = .ok (.ireturn, 1) := by decide +kernel
